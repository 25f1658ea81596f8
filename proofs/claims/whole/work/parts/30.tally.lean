/-! the tally -/
def noF (sg : SG) (r kd : Nat) (x : Int32) (m n : Nat) : SG := fun q =>
  if q = 39 then (fun p => if r * 5 * 32 + kd * 32 ≤ p ∧ p < r * 5 * 32 + kd * 32 + n ∧ bt x (p - (r * 5 * 32 + kd * 32)) = true then sg 39 p + nI 1 else sg 39 p)
  else if q = 38 then (fun p => if kd * 32 ≤ p ∧ p < kd * 32 + n ∧ bt x (p - kd * 32) = true ∧ (sg 38 p = -1 ∨ nI m < sg 38 p) then nI m else sg 38 p)
  else sg q
theorem noF_39 (sg : SG) (r kd : Nat) (x : Int32) (m n p : Nat) : noF sg r kd x m n 39 p = if r * 5 * 32 + kd * 32 ≤ p ∧ p < r * 5 * 32 + kd * 32 + n ∧ bt x (p - (r * 5 * 32 + kd * 32)) = true then sg 39 p + nI 1 else sg 39 p := rfl
theorem noF_38 (sg : SG) (r kd : Nat) (x : Int32) (m n p : Nat) : noF sg r kd x m n 38 p = if kd * 32 ≤ p ∧ p < kd * 32 + n ∧ bt x (p - kd * 32) = true ∧ (sg 38 p = -1 ∨ nI m < sg 38 p) then nI m else sg 38 p := rfl
theorem noF_n {sg : SG} {r kd : Nat} {x : Int32} {m n q : Nat} (h : q ≠ 39) (h' : q ≠ 38) : noF sg r kd x m n q = sg q := by unfold noF; rw [if_neg h, if_neg h']
theorem noF_0 (sg : SG) (r kd : Nat) (x : Int32) (m : Nat) : noF sg r kd x m 0 = sg := by
  funext q p
  by_cases h : q = 39
  · subst h; rw [noF_39, if_neg (by omega)]
  · by_cases h' : q = 38
    · subst h'; rw [noF_38, if_neg (by omega)]
    · rw [noF_n h h']
theorem noF_z {sg : SG} {r kd : Nat} {x : Int32} {m n : Nat} (h : ∀ t, n ≤ t → t < 32 → bt x t = false) (hn : n ≤ 32) : noF sg r kd x m n = noF sg r kd x m 32 := by
  funext q p
  by_cases h9 : q = 39
  · subst h9
    rw [noF_39, noF_39]
    by_cases c : r * 5 * 32 + kd * 32 ≤ p ∧ p < r * 5 * 32 + kd * 32 + 32 ∧ bt x (p - (r * 5 * 32 + kd * 32)) = true
    · rw [if_pos c]
      by_cases c2 : p < r * 5 * 32 + kd * 32 + n
      · rw [if_pos ⟨c.1, c2, c.2.2⟩]
      · have := h (p - (r * 5 * 32 + kd * 32)) (by omega) (by omega)
        rw [this] at c
        exact absurd c.2.2 (by decide)
    · rw [if_neg c, if_neg (fun z => c ⟨z.1, by omega, z.2.2⟩)]
  · by_cases h8 : q = 38
    · subst h8
      rw [noF_38, noF_38]
      by_cases c : kd * 32 ≤ p ∧ p < kd * 32 + 32 ∧ bt x (p - kd * 32) = true ∧ (sg 38 p = -1 ∨ nI m < sg 38 p)
      · rw [if_pos c]
        by_cases c2 : p < kd * 32 + n
        · rw [if_pos ⟨c.1, c2, c.2.2⟩]
        · have := h (p - kd * 32) (by omega) (by omega)
          rw [this] at c
          exact absurd c.2.2.1 (by decide)
      · rw [if_neg c, if_neg (fun z => c ⟨z.1, by omega, z.2.2⟩)]
    · rw [noF_n h9 h8, noF_n h9 h8]
theorem noF_no {sg : SG} {r kd : Nat} {x : Int32} {m n : Nat} (h : bt x n = false) : noF sg r kd x m n = noF sg r kd x m (n + 1) := by
  funext q p
  by_cases h9 : q = 39
  · subst h9
    rw [noF_39, noF_39]
    by_cases c : p = r * 5 * 32 + kd * 32 + n
    · subst c
      rw [Nat.add_sub_cancel_left, h, if_neg (by simp), if_neg (by simp)]
    · by_cases c2 : r * 5 * 32 + kd * 32 ≤ p ∧ p < r * 5 * 32 + kd * 32 + n ∧ bt x (p - (r * 5 * 32 + kd * 32)) = true
      · rw [if_pos c2, if_pos ⟨c2.1, by omega, c2.2.2⟩]
      · rw [if_neg c2, if_neg (fun z => c2 ⟨z.1, by omega, z.2.2⟩)]
  · by_cases h8 : q = 38
    · subst h8
      rw [noF_38, noF_38]
      by_cases c : p = kd * 32 + n
      · subst c
        rw [Nat.add_sub_cancel_left, h, if_neg (by simp), if_neg (by simp)]
      · by_cases c2 : kd * 32 ≤ p ∧ p < kd * 32 + n ∧ bt x (p - kd * 32) = true ∧ (sg 38 p = -1 ∨ nI m < sg 38 p)
        · rw [if_pos c2, if_pos ⟨c2.1, by omega, c2.2.2⟩]
        · rw [if_neg c2, if_neg (fun z => c2 ⟨z.1, by omega, z.2.2⟩)]
    · rw [noF_n h9 h8, noF_n h9 h8]
theorem noF_at {sg : SG} {r kd : Nat} {x : Int32} {m n : Nat} : noF sg r kd x m n 39 (r * 5 * 32 + (kd * 32 + n)) = sg 39 (r * 5 * 32 + (kd * 32 + n)) ∧ noF sg r kd x m n 38 (kd * 32 + n) = sg 38 (kd * 32 + n) := by
  rw [noF_39, noF_38, if_neg (by omega), if_neg (by omega)]
  exact ⟨rfl, rfl⟩
theorem noF_c {sg : SG} {r kd : Nat} {x : Int32} {m n : Nat} (h : bt x n = true) : sup (noF sg r kd x m n) 39 (r * 5 * 32 + (kd * 32 + n)) (sg 39 (r * 5 * 32 + (kd * 32 + n)) + nI 1) 39 = noF sg r kd x m (n + 1) 39 := by
  rw [sup_s]
  funext p
  rw [noF_39]
  unfold upd
  by_cases c : p = r * 5 * 32 + (kd * 32 + n)
  · subst c
    rw [if_pos rfl, if_pos ⟨by omega, by omega, by rw [show r * 5 * 32 + (kd * 32 + n) - (r * 5 * 32 + kd * 32) = n by omega]; exact h⟩]
  · rw [if_neg c, noF_39]
    by_cases c2 : r * 5 * 32 + kd * 32 ≤ p ∧ p < r * 5 * 32 + kd * 32 + n ∧ bt x (p - (r * 5 * 32 + kd * 32)) = true
    · rw [if_pos c2, if_pos ⟨c2.1, by omega, c2.2.2⟩]
    · rw [if_neg c2, if_neg (fun z => c2 ⟨z.1, by omega, z.2.2⟩)]
theorem noF_hit {sg : SG} {r kd : Nat} {x : Int32} {m n : Nat} (h : bt x n = true) (hl : sg 38 (kd * 32 + n) = -1 ∨ nI m < sg 38 (kd * 32 + n)) : sup (sup (noF sg r kd x m n) 39 (r * 5 * 32 + (kd * 32 + n)) (sg 39 (r * 5 * 32 + (kd * 32 + n)) + nI 1)) 38 (kd * 32 + n) (nI m) = noF sg r kd x m (n + 1) := by
  funext q
  by_cases h9 : q = 39
  · subst h9
    rw [sup_n (by decide), noF_c h]
  · by_cases h8 : q = 38
    · subst h8
      rw [sup_s, sup_n (by decide)]
      funext p
      rw [noF_38]
      unfold upd
      by_cases c : p = kd * 32 + n
      · subst c
        rw [if_pos rfl, if_pos ⟨by omega, by omega, by rw [Nat.add_sub_cancel_left]; exact h, hl⟩]
      · rw [if_neg c, noF_38]
        by_cases c2 : kd * 32 ≤ p ∧ p < kd * 32 + n ∧ bt x (p - kd * 32) = true ∧ (sg 38 p = -1 ∨ nI m < sg 38 p)
        · rw [if_pos c2, if_pos ⟨c2.1, by omega, c2.2.2⟩]
        · rw [if_neg c2, if_neg (fun z => c2 ⟨z.1, by omega, z.2.2⟩)]
    · rw [sup_n h8, sup_n h9, noF_n h9 h8, noF_n h9 h8]
theorem noF_keep {sg : SG} {r kd : Nat} {x : Int32} {m n : Nat} (h : bt x n = true) (hl : ¬ (sg 38 (kd * 32 + n) = -1 ∨ nI m < sg 38 (kd * 32 + n))) : sup (noF sg r kd x m n) 39 (r * 5 * 32 + (kd * 32 + n)) (sg 39 (r * 5 * 32 + (kd * 32 + n)) + nI 1) = noF sg r kd x m (n + 1) := by
  funext q
  by_cases h9 : q = 39
  · subst h9
    rw [noF_c h]
  · by_cases h8 : q = 38
    · subst h8
      rw [sup_n (by decide)]
      funext p
      rw [noF_38, noF_38]
      by_cases c : p = kd * 32 + n
      · subst c
        rw [if_neg (fun z => hl z.2.2.2), if_neg (fun z => hl z.2.2.2)]
      · by_cases c2 : kd * 32 ≤ p ∧ p < kd * 32 + n ∧ bt x (p - kd * 32) = true ∧ (sg 38 p = -1 ∨ nI m < sg 38 p)
        · rw [if_pos c2, if_pos ⟨c2.1, by omega, c2.2.2⟩]
        · rw [if_neg c2, if_neg (fun z => c2 ⟨z.1, by omega, z.2.2⟩)]
    · rw [sup_n h9, noF_n h9 h8, noF_n h9 h8]
theorem b_and1 (x : Int32) : x &&& nI 1 = 0 ↔ bt x 0 = false := by
  have h1 : ∀ j, j < 32 → bt (nI 1) j = decide (j = 0) := by decide +kernel
  constructor
  · intro h
    have : bt (x &&& nI 1) 0 = bt 0 0 := by rw [h]
    rw [b_and, h1 0 (by decide), b_0] at this
    simpa using this
  · intro h
    refine b_ext (fun i hi => ?_)
    rw [b_and, h1 i hi, b_0]
    by_cases e : i = 0
    · subst e; simp [h]
    · simp [e]
theorem k_T_note (w : WC) (l : Launch) (sg : SG) {r kd m : Nat} (x : Int32) (hr : r < 40) (hk : kd < 5) : ew_M qS w l qy_T_note qw_T_note qr_T_note [.inr 37, .inl (nI r), .inl (nI kd), .inl x, .inl (nI m)] sg (fun v sg' => v = none ∧ sg' = noF sg r kd x m 32) := by
  refine ew_entry (ws' := qwg) (own := qR_T) (cc := qc_T_note) (nL := 8) (ret := none) qnk (by decide) rfl rfl (Nat.le_of_ble_eq_true rfl) ?_
  intro k g hp
  have key : ∀ (d i : Nat) (rest : Int32) (x7 : Option MV), i + d = 32 → (∀ t, bt rest t = bt x (i + t)) → ew_E qS w 8 k 6 [some (.inr 37), some (.inl (nI r)), some (.inl (nI kd)), some (.inl x), some (.inl (nI m)), some (.inl rest), some (.inl (nI i)), x7] [] (noF sg r kd x m i) := by
    intro d
    induction d with
    | zero =>
      intro i rest x7 hi hb
      refine ew_iload g qd_T_note_6 rfl ?_
      refine ew_bipush g qd_T_note_8 bp_32 ?_
      refine en_ge g qd_T_note_10 (tgt := 96) (by decide) (by omega) (by omega) (fun h => ?_) (fun h => ?_)
      · refine ew_vret g qd_T_note_96 hp ?_
        have e : i = 32 := by omega
        rw [e]
        exact ⟨rfl, rfl⟩
      · omega
    | succ d ih =>
      intro i rest x7 hi hb
      refine ew_iload g qd_T_note_6 rfl ?_
      refine ew_bipush g qd_T_note_8 bp_32 ?_
      refine en_ge g qd_T_note_10 (tgt := 96) (by decide) (by omega) (by omega) (fun h => ?_) (fun h => ?_)
      · omega
      · refine ew_iload g qd_T_note_13 rfl ?_
        have hnx : ∀ t, bt ((rest.toUInt32 >>> ((nI 1).toUInt32 &&& Int32.toUInt32 31)).toInt32) t = bt x (i + 1 + t) := fun t => by rw [b_ushr 1 (by decide), hb, Nat.add_assoc]
        refine ew_if_eq g qd_T_note_15 (tgt := 96) (by decide) (fun hz => ?_) (fun hz => ?_)
        · refine ew_vret g qd_T_note_96 hp ?_
          refine ⟨rfl, noF_z (fun t h1 h2 => ?_) (by omega)⟩
          have := hb (t - i)
          rw [hz, b_0, show i + (t - i) = t by omega] at this
          exact this.symm
        · refine ew_iload g qd_T_note_18 rfl ?_
          refine ew_iconst g qd_T_note_20 ic_1 ?_
          refine ew_iand g qd_T_note_21 ?_
          have hb0 : bt rest 0 = bt x i := hb 0
          have h84 : ∀ (x7 : Option MV) (sg1 : SG), sg1 = noF sg r kd x m (i + 1) → ew_E qS w 8 k 84 [some (.inr 37), some (.inl (nI r)), some (.inl (nI kd)), some (.inl x), some (.inl (nI m)), some (.inl rest), some (.inl (nI i)), x7] [] sg1 := by
            intro x7 sg1 e
            subst e
            refine ew_iload g qd_T_note_84 rfl ?_
            refine ew_iconst g qd_T_note_86 ic_1 ?_
            refine ew_iushr g qd_T_note_87 rfl ?_
            refine ew_istore g qd_T_note_88 (by decide) ?_
            refine ew_iinc g qd_T_note_90 (by decide) rfl (ii_1 _) ?_
            refine ew_goto g qd_T_note_93 (tgt := 6) (by decide) ?_
            exact ih (i + 1) _ x7 (by omega) hnx
          refine ew_if_eq g qd_T_note_22 (tgt := 84) (by decide) (fun hbit => ?_) (fun hbit => ?_)
          · exact h84 x7 _ (noF_no (by rw [← hb0]; exact (b_and1 rest).mp hbit))
          · have hx1 : bt x i = true := by
              rw [← hb0]
              cases hq : bt rest 0 with
              | true => rfl
              | false => exact absurd ((b_and1 rest).mpr hq) hbit
            refine ew_iload_n g qd_T_note_25 rfl ?_
            refine ew_bipush g qd_T_note_26 bp_32 ?_
            refine ew_imul g qd_T_note_28 ?_
            refine en_top (pk_mul _ _) ?_
            refine ew_iload g qd_T_note_29 rfl ?_
            refine ew_iadd g qd_T_note_31 ?_
            refine en_top (nI_add _ _) ?_
            refine ew_istore g qd_T_note_32 (by decide) ?_
            refine ew_aload_n g qd_T_note_34 rfl ?_
            refine ew_getR g qd_T_note_35 qf_T_15 (by decide) rfl rfl ?_
            refine ew_iload_n g qd_T_note_38 rfl ?_
            refine ew_iconst g qd_T_note_39 ic_5 ?_
            refine ew_imul g qd_T_note_40 ?_
            refine en_top (pk_mul _ _) ?_
            refine ew_bipush g qd_T_note_41 bp_32 ?_
            refine ew_imul g qd_T_note_43 ?_
            refine en_top (pk_mul _ _) ?_
            refine ew_iload g qd_T_note_44 rfl ?_
            refine ew_iadd g qd_T_note_46 ?_
            refine en_top (nI_add _ _) ?_
            refine ew_dup2 g qd_T_note_47 ?_
            refine en_iald g qd_T_note_48 (by decide) rfl (by omega) (by omega) noF_at.1 ?_
            refine ew_iconst g qd_T_note_49 ic_1 ?_
            refine ew_iadd g qd_T_note_50 ?_
            refine en_iast g qd_T_note_51 (by decide) rfl (by omega) (by omega) ?_
            refine ew_aload_n g qd_T_note_52 rfl ?_
            refine ew_getR g qd_T_note_53 qf_T_9 (by decide) rfl rfl ?_
            refine ew_iload g qd_T_note_56 rfl ?_
            refine en_iald g qd_T_note_58 (by decide) rfl (by omega) (by omega) (show sup (noF sg r kd x m i) 39 (r * 5 * 32 + (kd * 32 + i)) _ 38 (kd * 32 + i) = sg 38 (kd * 32 + i) by rw [sup_n (by decide)]; exact noF_at.2) ?_
            refine ew_iconst g qd_T_note_59 ic_m1 ?_
            refine ew_icmp_eq g qd_T_note_60 (tgt := 75) (by decide) (fun hm1 => ?_) (fun hm1 => ?_)
            · refine ew_aload_n g qd_T_note_75 rfl ?_
              refine ew_getR g qd_T_note_76 qf_T_9 (by decide) rfl rfl ?_
              refine ew_iload g qd_T_note_79 rfl ?_
              refine ew_iload g qd_T_note_81 rfl ?_
              refine en_iast g qd_T_note_83 (by decide) rfl (by omega) (by omega) ?_
              exact h84 _ _ (noF_hit hx1 (Or.inl hm1))
            · refine ew_iload g qd_T_note_63 rfl ?_
              refine ew_aload_n g qd_T_note_65 rfl ?_
              refine ew_getR g qd_T_note_66 qf_T_9 (by decide) rfl rfl ?_
              refine ew_iload g qd_T_note_69 rfl ?_
              refine en_iald g qd_T_note_71 (by decide) rfl (by omega) (by omega) (show sup (noF sg r kd x m i) 39 (r * 5 * 32 + (kd * 32 + i)) _ 38 (kd * 32 + i) = sg 38 (kd * 32 + i) by rw [sup_n (by decide)]; exact noF_at.2) ?_
              refine ew_icmp_ge g qd_T_note_72 (tgt := 84) (by decide) (fun hge => ?_) (fun hge => ?_)
              · exact h84 _ _ (noF_keep hx1 (fun z => by rcases z with z | z; exact hm1 z; exact Int32.not_lt.mpr hge z))
              · refine ew_aload_n g qd_T_note_75 rfl ?_
                refine ew_getR g qd_T_note_76 qf_T_9 (by decide) rfl rfl ?_
                refine ew_iload g qd_T_note_79 rfl ?_
                refine ew_iload g qd_T_note_81 rfl ?_
                refine en_iast g qd_T_note_83 (by decide) rfl (by omega) (by omega) ?_
                exact h84 _ _ (noF_hit hx1 (Or.inr (Int32.not_le.mp hge)))
  refine ew_iload_n g qd_T_note_0 rfl ?_
  refine ew_istore g qd_T_note_1 (by decide) ?_
  refine ew_iconst g qd_T_note_3 ic_0 ?_
  refine ew_istore g qd_T_note_4 (by decide) ?_
  exact en_sg (noF_0 sg r kd x m).symm (key 32 0 x _ rfl (fun t => by rw [Nat.zero_add]))
theorem k_T_leastOf (w : WC) (l : Launch) (sg : SG) {kd i : Nat} (hk : kd < 5) (hi : i < 32) : ew_M qS w l qy_T_leastOf qw_T_leastOf qr_T_leastOf [.inr 37, .inl (nI kd), .inl (nI i)] sg (fun v sg' => v = some (.inl (sg 38 (kd * 32 + i))) ∧ sg' = sg) := by
  refine ew_entry (ws' := qwg) (own := qR_T) (cc := qc_T_leastOf) (nL := 3) (ret := some .int) qnk (by decide) rfl rfl (Nat.le_of_ble_eq_true rfl) ?_
  intro k g hp
  refine ew_aload_n g qd_T_leastOf_0 rfl ?_
  refine ew_getR g qd_T_leastOf_1 qf_T_9 (by decide) rfl rfl ?_
  refine ew_iload_n g qd_T_leastOf_4 rfl ?_
  refine ew_bipush g qd_T_leastOf_5 bp_32 ?_
  refine ew_imul g qd_T_leastOf_7 ?_
  refine en_top (pk_mul _ _) ?_
  refine ew_iload_n g qd_T_leastOf_8 rfl ?_
  refine ew_iadd g qd_T_leastOf_9 ?_
  refine en_top (nI_add _ _) ?_
  refine en_iald g qd_T_leastOf_10 (by decide) rfl (by omega) (by omega) rfl ?_
  refine ew_iret g qd_T_leastOf_11 hp ?_
  exact ⟨rfl, rfl⟩
theorem k_T_countOf (w : WC) (l : Launch) (sg : SG) {r kd i : Nat} (hr : r < 40) (hk : kd < 5) (hi : i < 32) : ew_M qS w l qy_T_countOf qw_T_countOf qr_T_countOf [.inr 37, .inl (nI r), .inl (nI kd), .inl (nI i)] sg (fun v sg' => v = some (.inl (sg 39 (r * 5 * 32 + (kd * 32 + i)))) ∧ sg' = sg) := by
  have e : (r * 5 + kd) * 32 + i = r * 5 * 32 + (kd * 32 + i) := by omega
  refine ew_entry (ws' := qwg) (own := qR_T) (cc := qc_T_countOf) (nL := 4) (ret := some .int) qnk (by decide) rfl rfl (Nat.le_of_ble_eq_true rfl) ?_
  intro k g hp
  refine ew_aload_n g qd_T_countOf_0 rfl ?_
  refine ew_getR g qd_T_countOf_1 qf_T_15 (by decide) rfl rfl ?_
  refine ew_iload_n g qd_T_countOf_4 rfl ?_
  refine ew_iconst g qd_T_countOf_5 ic_5 ?_
  refine ew_imul g qd_T_countOf_6 ?_
  refine en_top (pk_mul _ _) ?_
  refine ew_iload_n g qd_T_countOf_7 rfl ?_
  refine ew_iadd g qd_T_countOf_8 ?_
  refine en_top (nI_add _ _) ?_
  refine ew_bipush g qd_T_countOf_9 bp_32 ?_
  refine ew_imul g qd_T_countOf_11 ?_
  refine en_top (pk_mul _ _) ?_
  refine ew_iload_n g qd_T_countOf_12 rfl ?_
  refine ew_iadd g qd_T_countOf_13 ?_
  refine en_top (nI_add _ _) ?_
  refine en_iald g qd_T_countOf_14 (by decide) rfl (by omega) (by omega) rfl ?_
  refine ew_iret g qd_T_countOf_15 hp ?_
  rw [e]
  exact ⟨rfl, rfl⟩
theorem k_T_forget (w : WC) (l : Launch) (sg : SG) : ew_M qS w l qy_T_forget qw_T_forget qr_T_forget [.inr 37] sg (fun v sg' => v = none ∧ sg' = sfil (sfil sg 38 160 (-1)) 39 6400 (nI 0)) := by
  refine ew_entry (ws' := qwg) (own := qR_T) (cc := qc_T_forget) (nL := 1) (ret := none) qnk (by decide) rfl rfl (Nat.le_of_ble_eq_true rfl) ?_
  intro k g hp
  refine ew_aload_n g qd_T_forget_0 rfl ?_
  refine ew_getR g qd_T_forget_1 qf_T_9 (by decide) rfl rfl ?_
  refine ew_iconst g qd_T_forget_4 ic_m1 ?_
  refine ew_callS g qd_T_forget_5 (k_A_fill w k.2.1 _ (-1) (o := 38) (n := 160) (by decide) rfl (by decide)) qs_T_18 rfl rfl (Nat.le_of_ble_eq_true rfl) ⟨rfl, rfl, by decide, by decide⟩ (fun v sg1 hv => ?_)
  obtain ⟨rfl, rfl⟩ := hv
  refine ew_aload_n g qd_T_forget_8 rfl ?_
  refine ew_getR g qd_T_forget_9 qf_T_15 (by decide) rfl rfl ?_
  refine ew_iconst g qd_T_forget_12 ic_0 ?_
  refine ew_callS g qd_T_forget_13 (k_A_fill w k.2.1 _ (nI 0) (o := 39) (n := 6400) (by decide) rfl (by decide)) qs_T_18 rfl rfl (Nat.le_of_ble_eq_true rfl) ⟨rfl, rfl, by decide, by decide⟩ (fun v sg1 hv => ?_)
  obtain ⟨rfl, rfl⟩ := hv
  refine ew_vret g qd_T_forget_16 hp ?_
  exact ⟨rfl, rfl⟩
theorem k_P_forget (w : WC) (l : Launch) (sg : SG) : ew_M qS w l qy_P_forget qw_P_forget qr_P_forget [.inr 28] sg (fun v sg' => v = none ∧ sg' = sfil (sup sg 28 8 (nI 0)) 29 1600 (-1)) := by
  refine ew_entry (ws' := qwg) (own := qR_P) (cc := qc_P_forget) (nL := 1) (ret := none) qnk (by decide) rfl rfl (Nat.le_of_ble_eq_true rfl) ?_
  intro k g hp
  refine ew_aload_n g qd_P_forget_0 rfl ?_
  refine ew_iconst g qd_P_forget_1 ic_0 ?_
  refine ew_put g qd_P_forget_2 qf_P_36 (qp_P_count _) (by decide) rfl rfl ?_
  refine ew_aload_n g qd_P_forget_5 rfl ?_
  refine ew_getR g qd_P_forget_6 qf_P_9 (by decide) rfl rfl ?_
  refine ew_iconst g qd_P_forget_9 ic_m1 ?_
  refine ew_callS g qd_P_forget_10 (k_A_fill w k.2.1 _ (-1) (o := 29) (n := 1600) (by decide) rfl (by decide)) qs_P_40 rfl rfl (Nat.le_of_ble_eq_true rfl) ⟨rfl, rfl, by decide, by decide⟩ (fun v sg1 hv => ?_)
  obtain ⟨rfl, rfl⟩ := hv
  refine ew_vret g qd_P_forget_13 hp ?_
  exact ⟨rfl, rfl⟩
theorem k_P_rowOf (w : WC) (l : Launch) (sg : SG) {n : Nat} (x : Int32) (hc : sg 28 8 = nI n) (hn : n ≤ 40) : ew_M qS w l qy_P_rowOf qw_P_rowOf qr_P_rowOf [.inr 28, .inl x] sg (fun v sg' => v = some (.inl (match inR x n with | some j => sg 36 j | none => -1)) ∧ sg' = sg) := by
  refine ew_entry (ws' := qwg) (own := qR_P) (cc := qc_P_rowOf) (nL := 2) (ret := some .int) qnk (by decide) rfl rfl (Nat.le_of_ble_eq_true rfl) ?_
  intro k g hp
  refine ew_iload_n g qd_P_rowOf_0 rfl ?_
  refine ew_aload_n g qd_P_rowOf_1 rfl ?_
  refine ew_get g qd_P_rowOf_2 qf_P_36 (by decide) rfl rfl ?_
  refine en_top hc ?_
  refine ew_callS g qd_P_rowOf_5 (k_X_isBelow w k.2.1 sg _ _) qs_P_46 rfl rfl (Nat.le_of_ble_eq_true rfl) ⟨rfl, rfl, by decide, by decide⟩ (fun v sg1 hv => ?_)
  obtain ⟨rfl, rfl⟩ := hv
  rcases inR_cases x (n := n) (by omega) with ⟨hr, hn⟩ | ⟨i, hi, rfl, hr⟩
  · refine en_top (show _ = nI 0 by rw [decide_eq_false hn]; rfl) ?_
    refine en_if_eq g qd_P_rowOf_8 (tgt := 20) (by decide) (by omega) (fun hz => ?_) (fun hz => ?_)
    · refine ew_iconst g qd_P_rowOf_20 ic_m1 ?_
      refine ew_iret g qd_P_rowOf_21 hp ?_
      rw [hr]
      exact ⟨rfl, rfl⟩
    · exact absurd rfl hz
  · refine en_top (show _ = nI 1 by rw [decide_eq_true ⟨nI_pos' (by omega), nI_lt hi (by omega)⟩]; rfl) ?_
    refine en_if_eq g qd_P_rowOf_8 (tgt := 20) (by decide) (by omega) (fun hz => ?_) (fun hz => ?_)
    · exact absurd hz (by decide)
    · refine ew_aload_n g qd_P_rowOf_11 rfl ?_
      refine ew_getR g qd_P_rowOf_12 qf_P_33 (by decide) rfl rfl ?_
      refine ew_iload_n g qd_P_rowOf_15 rfl ?_
      refine en_iald g qd_P_rowOf_16 (by decide) rfl (by omega) (by omega) rfl ?_
      refine ew_goto g qd_P_rowOf_17 (tgt := 21) (by decide) ?_
      refine ew_iret g qd_P_rowOf_21 hp ?_
      rw [hr]
      exact ⟨rfl, rfl⟩
