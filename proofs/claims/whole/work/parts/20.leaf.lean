/-! leaves -/
def sfil (sg : SG) (o n : Nat) (x : Int32) : SG := fun q => if q = o then (fun i => if i < n then x else sg o i) else sg q
theorem sfil_0 (sg : SG) (o : Nat) (x : Int32) : sfil sg o 0 x = sg := by
  funext q i
  unfold sfil
  by_cases h : q = o
  · subst h; simp
  · simp [h]
theorem sfil_s (sg : SG) (o n : Nat) (x : Int32) : sup (sfil sg o n x) o n x = sfil sg o (n + 1) x := by
  funext q i
  unfold sup sfil upd
  by_cases h : q = o
  · subst h
    simp only [if_true]
    by_cases h1 : i = n
    · subst h1; simp
    · by_cases h2 : i < n
      · simp [h1, h2, Nat.lt_succ_of_lt h2]
      · have h3 : ¬ i < n + 1 := by omega
        simp [h1, h2, h3]
  · simp [h]
theorem sfil_at {sg : SG} {o n i : Nat} {x : Int32} (h : i < n) : sfil sg o n x o i = x := by
  unfold sfil; simp [h]
theorem sfil_n {sg : SG} {o n q : Nat} {x : Int32} (h : q ≠ o) : sfil sg o n x q = sg q := if_neg h
theorem k_A_fill (w : WC) (l : Launch) (sg : SG) {o n : Nat} (x : Int32) (ho : o < qS.2.2.1) (hL : qS.2.1 o = .inl (false, n)) (hn : n < 2 ^ 31) : ew_M qS w l qy_A_fill qw_A_fill qr_A_fill [.inr o, .inl x] sg (fun v sg' => v = none ∧ sg' = sfil sg o n x) := by
  refine ew_entry (ws' := qwg) (own := qR_A) (cc := qc_A_fill) (nL := 4) (ret := none) qnk (by decide) rfl rfl (Nat.le_of_ble_eq_true rfl) ?_
  intro k g hp
  have key : ∀ (d i : Nat), i + d = n → ew_E qS w 4 k 5 [some (.inr o), some (.inl x), some (.inl (nI i)), some (.inl (nI n))] [] (sfil sg o i x) := by
    intro d
    induction d with
    | zero =>
      intro i hi
      refine ew_iload_n g qd_A_fill_5 rfl ?_
      refine ew_iload_n g qd_A_fill_6 rfl ?_
      refine en_ge g qd_A_fill_7 (tgt := 20) (by decide) (by omega) (by omega) (fun h => ?_) (fun h => ?_)
      · refine ew_vret g qd_A_fill_20 hp ?_
        have e : i = n := by omega
        rw [e]
        exact ⟨rfl, rfl⟩
      · omega
    | succ d ih =>
      intro i hi
      refine ew_iload_n g qd_A_fill_5 rfl ?_
      refine ew_iload_n g qd_A_fill_6 rfl ?_
      refine en_ge g qd_A_fill_7 (tgt := 20) (by decide) (by omega) (by omega) (fun h => ?_) (fun h => ?_)
      · omega
      · refine ew_aload_n g qd_A_fill_10 rfl ?_
        refine ew_iload_n g qd_A_fill_11 rfl ?_
        refine ew_iload_n g qd_A_fill_12 rfl ?_
        refine en_iast g qd_A_fill_13 ho hL (by omega) (by omega) ?_
        refine ew_iinc g qd_A_fill_14 (by decide) rfl (ii_1 _) ?_
        refine ew_goto g qd_A_fill_17 (tgt := 5) (by decide) ?_
        exact en_sg (sfil_s sg o i x) (ih (i + 1) (by omega))
  refine ew_iconst g qd_A_fill_0 ic_0 ?_
  refine ew_istore_n g qd_A_fill_1 (by decide) ?_
  refine ew_aload_n g qd_A_fill_2 rfl ?_
  refine ew_alen g qd_A_fill_3 ho hL rfl ?_
  refine ew_istore_n g qd_A_fill_4 (by decide) ?_
  exact en_sg (sfil_0 sg o x).symm (key n 0 (by omega))
theorem k_X_isBelow (w : WC) (l : Launch) (sg : SG) (x n : Int32) : ew_M qS w l qy_X_isBelow qw_X_isBelow qr_X_isBelow [.inl x, .inl n] sg (fun v sg' => v = some (.inl (bI (decide (0 ≤ x ∧ x < n)))) ∧ sg' = sg) := by
  refine ew_entry (ws' := qwg) (own := qR_X) (cc := qc_X_isBelow) (nL := 2) (ret := some .boolean) qnk (by decide) rfl rfl (Nat.le_of_ble_eq_true rfl) ?_
  intro k g hp
  refine ew_iload_n g qd_X_isBelow_0 rfl ?_
  refine ew_if_lt g qd_X_isBelow_1 (tgt := 13) (by decide) (fun h => ?_) (fun h => ?_)
  · refine ew_iconst g qd_X_isBelow_13 ic_0 ?_
    refine ew_zret g qd_X_isBelow_14 hp (by first | exact bI_nar _ | decide +kernel) ?_
    have e : ¬ (0 ≤ x ∧ x < n) := fun q => Int32.not_lt.mpr q.1 h
    rw [decide_eq_false e]
    exact ⟨rfl, rfl⟩
  · refine ew_iload_n g qd_X_isBelow_4 rfl ?_
    refine ew_iload_n g qd_X_isBelow_5 rfl ?_
    refine ew_icmp_ge g qd_X_isBelow_6 (tgt := 13) (by decide) (fun h2 => ?_) (fun h2 => ?_)
    · refine ew_iconst g qd_X_isBelow_13 ic_0 ?_
      refine ew_zret g qd_X_isBelow_14 hp (by first | exact bI_nar _ | decide +kernel) ?_
      have e : ¬ (0 ≤ x ∧ x < n) := fun q => Int32.not_lt.mpr h2 q.2
      rw [decide_eq_false e]
      exact ⟨rfl, rfl⟩
    · refine ew_iconst g qd_X_isBelow_9 ic_1 ?_
      refine ew_goto g qd_X_isBelow_10 (tgt := 14) (by decide) ?_
      refine ew_zret g qd_X_isBelow_14 hp (by first | exact bI_nar _ | decide +kernel) ?_
      have e : 0 ≤ x ∧ x < n := ⟨Int32.not_lt.mp h, Int32.not_le.mp h2⟩
      rw [decide_eq_true e]
      exact ⟨rfl, rfl⟩
theorem k_X_wordOf (w : WC) (l : Launch) (sg : SG) (x i : Int32) : ew_M qS w l qy_X_wordOf qw_X_wordOf qr_X_wordOf [.inl x, .inl i] sg (fun v sg' => v = some (.inl (wOf x i)) ∧ sg' = sg) := by
  refine ew_entry (ws' := qwg) (own := qR_X) (cc := qc_X_wordOf) (nL := 2) (ret := some .int) qnk (by decide) rfl rfl (Nat.le_of_ble_eq_true rfl) ?_
  intro k g hp
  refine ew_iload_n g qd_X_wordOf_0 rfl ?_
  refine ew_iconst g qd_X_wordOf_1 ic_4 ?_
  refine ew_iload_n g qd_X_wordOf_2 rfl ?_
  refine ew_imul g qd_X_wordOf_3 ?_
  refine ew_ishr g qd_X_wordOf_4 ?_
  refine ew_bipush g qd_X_wordOf_5 bp_15 ?_
  refine ew_iand g qd_X_wordOf_7 ?_
  refine ew_iret g qd_X_wordOf_8 hp ?_
  exact ⟨rfl, rfl⟩
theorem k_X_withWord (w : WC) (l : Launch) (sg : SG) (x i y : Int32) : ew_M qS w l qy_X_withWord qw_X_withWord qr_X_withWord [.inl x, .inl i, .inl y] sg (fun v sg' => v = some (.inl (wWith x i y)) ∧ sg' = sg) := by
  refine ew_entry (ws' := qwg) (own := qR_X) (cc := qc_X_withWord) (nL := 3) (ret := some .int) qnk (by decide) rfl rfl (Nat.le_of_ble_eq_true rfl) ?_
  intro k g hp
  refine ew_iload_n g qd_X_withWord_0 rfl ?_
  refine ew_bipush g qd_X_withWord_1 bp_15 ?_
  refine ew_iconst g qd_X_withWord_3 ic_4 ?_
  refine ew_iload_n g qd_X_withWord_4 rfl ?_
  refine ew_imul g qd_X_withWord_5 ?_
  refine ew_ishl g qd_X_withWord_6 ?_
  refine ew_iconst g qd_X_withWord_7 ic_m1 ?_
  refine ew_ixor g qd_X_withWord_8 ?_
  refine ew_iand g qd_X_withWord_9 ?_
  refine ew_iload_n g qd_X_withWord_10 rfl ?_
  refine ew_iconst g qd_X_withWord_11 ic_4 ?_
  refine ew_iload_n g qd_X_withWord_12 rfl ?_
  refine ew_imul g qd_X_withWord_13 ?_
  refine ew_ishl g qd_X_withWord_14 ?_
  refine ew_ior g qd_X_withWord_15 ?_
  refine ew_iret g qd_X_withWord_16 hp ?_
  exact ⟨rfl, rfl⟩
theorem k_X_firstState (w : WC) (l : Launch) (sg : SG) {b : Nat} (hb : sg 0 4 = nI b) (hl : b < 16) : ew_M qS w l qy_X_firstState qw_X_firstState qr_X_firstState [.inr 0] sg (fun v sg' => v = some (.inl (nI (65536 * b))) ∧ sg' = sg) := by
  refine ew_entry (ws' := qwg) (own := qR_X) (cc := qc_X_firstState) (nL := 1) (ret := some .int) qnk (by decide) rfl rfl (Nat.le_of_ble_eq_true rfl) ?_
  intro k g hp
  refine ew_aload_n g qd_X_firstState_0 rfl ?_
  refine ew_get g qd_X_firstState_1 qf_X_31 (by decide) rfl rfl ?_
  refine en_top hb ?_
  refine ew_bipush g qd_X_firstState_4 bp_16 ?_
  refine ew_ishl g qd_X_firstState_6 ?_
  refine ew_iret g qd_X_firstState_7 hp ?_
  refine ⟨?_, rfl⟩
  rw [pk_shlN _ 16 (s_l 16 (by omega)) (by omega), Nat.mul_comm]
theorem k_K_wordUnder (w : WC) (l : Launch) (sg : SG) {d i : Nat} (hd : sg 1 2 = nI d) (h6 : d ≤ 6) (hi : i < 2 ^ 31) : ew_M qS w l qy_K_wordUnder qw_K_wordUnder qr_K_wordUnder [.inr 1, .inl (nI i)] sg (fun v sg' => v = some (.inl (if i < d then sg 6 (d - 1 - i) else nI 0)) ∧ sg' = sg) := by
  refine ew_entry (ws' := qwg) (own := qR_K) (cc := qc_K_wordUnder) (nL := 2) (ret := some .int) qnk (by decide) rfl rfl (Nat.le_of_ble_eq_true rfl) ?_
  intro k g hp
  refine ew_iload_n g qd_K_wordUnder_0 rfl ?_
  refine ew_aload_n g qd_K_wordUnder_1 rfl ?_
  refine ew_get g qd_K_wordUnder_2 qf_K_22 (by decide) rfl rfl ?_
  refine en_top hd ?_
  refine en_ge g qd_K_wordUnder_5 (tgt := 24) (by decide) (by omega) (by omega) (fun h => ?_) (fun h => ?_)
  · refine ew_iconst g qd_K_wordUnder_24 ic_0 ?_
    refine ew_iret g qd_K_wordUnder_25 hp ?_
    rw [if_neg (by omega)]
    exact ⟨rfl, rfl⟩
  · refine ew_aload_n g qd_K_wordUnder_8 rfl ?_
    refine ew_getR g qd_K_wordUnder_9 qf_K_18 (by decide) rfl rfl ?_
    refine ew_aload_n g qd_K_wordUnder_12 rfl ?_
    refine ew_get g qd_K_wordUnder_13 qf_K_22 (by decide) rfl rfl ?_
    refine en_top hd ?_
    refine ew_iconst g qd_K_wordUnder_16 ic_1 ?_
    refine ew_isub g qd_K_wordUnder_17 ?_
    refine en_top (pk_sub (by omega)) ?_
    refine ew_iload_n g qd_K_wordUnder_18 rfl ?_
    refine ew_isub g qd_K_wordUnder_19 ?_
    refine en_top (pk_sub (by omega)) ?_
    refine en_iald g qd_K_wordUnder_20 (by decide) rfl (by omega) (by omega) rfl ?_
    refine ew_goto g qd_K_wordUnder_21 (tgt := 25) (by decide) ?_
    refine ew_iret g qd_K_wordUnder_25 hp ?_
    rw [if_pos h]
    exact ⟨rfl, rfl⟩
theorem k_K_note (w : WC) (l : Launch) (sg : SG) {a kd : Nat} (ha : sg 1 5 = nI a) (hk : kd < 5) : ew_M qS w l qy_K_note qw_K_note qr_K_note [.inr 1, .inl (nI kd)] sg (fun v sg' => v = none ∧ sg' = sup sg 8 kd (sg 8 kd ||| (nI 1 <<< (nI a &&& 31)))) := by
  refine ew_entry (ws' := qwg) (own := qR_K) (cc := qc_K_note) (nL := 2) (ret := none) qnk (by decide) rfl rfl (Nat.le_of_ble_eq_true rfl) ?_
  intro k g hp
  refine ew_aload_n g qd_K_note_0 rfl ?_
  refine ew_getR g qd_K_note_1 qf_K_57 (by decide) rfl rfl ?_
  refine ew_iload_n g qd_K_note_4 rfl ?_
  refine ew_dup2 g qd_K_note_5 ?_
  refine en_iald g qd_K_note_6 (by decide) rfl (by omega) (by omega) rfl ?_
  refine ew_iconst g qd_K_note_7 ic_1 ?_
  refine ew_aload_n g qd_K_note_8 rfl ?_
  refine ew_get g qd_K_note_9 qf_K_32 (by decide) rfl rfl ?_
  refine en_top ha ?_
  refine ew_ishl g qd_K_note_12 ?_
  refine ew_ior g qd_K_note_13 ?_
  refine en_iast g qd_K_note_14 (by decide) rfl (by omega) (by omega) ?_
  refine ew_vret g qd_K_note_15 hp ?_
  exact ⟨rfl, rfl⟩
theorem k_K_swap (w : WC) (l : Launch) (sg : SG) {i j : Nat} (hi : i < 6) (hj : j < 6) : ew_M qS w l qy_K_swap qw_K_swap qr_K_swap [.inr 1, .inl (nI i), .inl (nI j)] sg (fun v sg' => v = none ∧ sg' = sup (sup sg 6 i (sg 6 j)) 6 j (sg 6 i)) := by
  refine ew_entry (ws' := qwg) (own := qR_K) (cc := qc_K_swap) (nL := 4) (ret := none) qnk (by decide) rfl rfl (Nat.le_of_ble_eq_true rfl) ?_
  intro k g hp
  refine ew_aload_n g qd_K_swap_0 rfl ?_
  refine ew_getR g qd_K_swap_1 qf_K_18 (by decide) rfl rfl ?_
  refine ew_iload_n g qd_K_swap_4 rfl ?_
  refine en_iald g qd_K_swap_5 (by decide) rfl (by omega) (by omega) rfl ?_
  refine ew_istore_n g qd_K_swap_6 (by decide) ?_
  refine ew_aload_n g qd_K_swap_7 rfl ?_
  refine ew_getR g qd_K_swap_8 qf_K_18 (by decide) rfl rfl ?_
  refine ew_iload_n g qd_K_swap_11 rfl ?_
  refine ew_aload_n g qd_K_swap_12 rfl ?_
  refine ew_getR g qd_K_swap_13 qf_K_18 (by decide) rfl rfl ?_
  refine ew_iload_n g qd_K_swap_16 rfl ?_
  refine en_iald g qd_K_swap_17 (by decide) rfl (by omega) (by omega) rfl ?_
  refine en_iast g qd_K_swap_18 (by decide) rfl (by omega) (by omega) ?_
  refine ew_aload_n g qd_K_swap_19 rfl ?_
  refine ew_getR g qd_K_swap_20 qf_K_18 (by decide) rfl rfl ?_
  refine ew_iload_n g qd_K_swap_23 rfl ?_
  refine ew_iload_n g qd_K_swap_24 rfl ?_
  refine en_iast g qd_K_swap_25 (by decide) rfl (by omega) (by omega) ?_
  refine ew_vret g qd_K_swap_26 hp ?_
  exact ⟨rfl, rfl⟩
theorem k_K_send (w : WC) (l : Launch) (sg : SG) {c : Nat → Nat} {x : Nat} (hs : sg 1 3 = nI (pk5 c)) (hc : c16 c) (hx : x < 16) : ew_M qS w l qy_K_send qw_K_send qr_K_send [.inr 1, .inl (nI x)] sg (fun v sg' => (x ≤ c 4 ∧ v = some (.inl (nI 1)) ∧ sg' = sup (sup sg 1 3 (nI (pk5 (nup c 4 (c 4 - x))))) 1 9 (bI true)) ∨ (c 4 < x ∧ v = some (.inl (nI 0)) ∧ sg' = sg)) := by
  have h4 := hc 4 (by omega)
  refine ew_entry (ws' := qwg) (own := qR_K) (cc := qc_K_send) (nL := 2) (ret := some .int) qnk (by decide) rfl rfl (Nat.le_of_ble_eq_true rfl) ?_
  intro k g hp
  refine ew_iload_n g qd_K_send_0 rfl ?_
  refine ew_aload_n g qd_K_send_1 rfl ?_
  refine ew_get g qd_K_send_2 qf_K_26 (by decide) rfl rfl ?_
  refine en_top hs ?_
  refine ew_bipush g qd_K_send_5 bp_16 ?_
  refine ew_ishr g qd_K_send_7 ?_
  refine en_top (bal_c hc) ?_
  refine en_le g qd_K_send_8 (tgt := 13) (by decide) (by omega) (by omega) (fun h => ?_) (fun h => ?_)
  · refine ew_aload_n g qd_K_send_13 rfl ?_
    refine ew_dup g qd_K_send_14 ?_
    refine ew_get g qd_K_send_15 qf_K_26 (by decide) rfl rfl ?_
    refine en_top hs ?_
    refine ew_iload_n g qd_K_send_18 rfl ?_
    refine ew_bipush g qd_K_send_19 bp_16 ?_
    refine ew_ishl g qd_K_send_21 ?_
    refine en_top (pk_shlN _ 16 (s_l 16 (by omega)) (by omega)) ?_
    refine ew_isub g qd_K_send_22 ?_
    refine en_top (pk_sub (by unfold pk5; omega)) ?_
    refine ew_put g qd_K_send_23 qf_K_26 (qp_K_state _) (by decide) rfl rfl ?_
    refine ew_aload_n g qd_K_send_26 rfl ?_
    refine ew_iconst g qd_K_send_27 ic_1 ?_
    refine en_top bI_t.symm ?_
    refine ew_put g qd_K_send_28 qf_K_44 (qp_K_hasSent _) (by decide) rfl rfl ?_
    refine ew_iconst g qd_K_send_31 ic_1 ?_
    refine ew_iret g qd_K_send_32 hp ?_
    left
    refine ⟨h, rfl, ?_⟩
    congr 3
    unfold pk5 nup
    simp
    omega
  · refine ew_iconst g qd_K_send_11 ic_0 ?_
    refine ew_iret g qd_K_send_12 hp ?_
    exact Or.inr ⟨h, rfl, rfl⟩
