/-! the reference's questions -/
theorem k_M_isPath (w : WC) (l : Launch) (sg : SG) {e : Option XP} (h : mEx sg e) (x : Int32) : ew_M qS w l qy_M_isPath qw_M_isPath qr_M_isPath [.inr 41, .inl x] sg (fun v sg' => v = some (.inl (match inR x (eN e) with | some _ => nI 1 | none => nI 0)) ∧ sg' = sg) := by
  obtain ⟨hc, hn⟩ := mEx_n h
  have hb : eN e < 2 ^ 31 := by omega
  refine ew_entry (ws' := qwg) (own := qR_M) (cc := qc_M_isPath) (nL := 2) (ret := some .boolean) qnk (by decide) rfl rfl (Nat.le_of_ble_eq_true rfl) ?_
  intro k g hp
  have hno : inR x (eN e) = none → ew_E qS w 2 k 16 [some (.inr 41), some (.inl x)] [] sg := by
    intro ee
    refine ew_iconst g qd_M_isPath_16 ic_0 ?_
    refine ew_zret g qd_M_isPath_17 hp (by first | exact bI_nar _ | decide +kernel) ?_
    rw [ee]
    exact ⟨rfl, rfl⟩
  refine ew_iload_n g qd_M_isPath_0 rfl ?_
  refine ew_if_lt g qd_M_isPath_1 (tgt := 16) (by decide) (fun h0 => ?_) (fun h0 => ?_)
  · exact hno (rg_neg hb h0)
  · refine ew_iload_n g qd_M_isPath_4 rfl ?_
    refine ew_aload_n g qd_M_isPath_5 rfl ?_
    refine ew_get g qd_M_isPath_6 qf_M_145 (by decide) rfl rfl ?_
    refine en_top hc ?_
    refine ew_icmp_ge g qd_M_isPath_9 (tgt := 16) (by decide) (fun h1 => ?_) (fun h1 => ?_)
    · exact hno (rg_ge hb h1)
    · obtain ⟨j, j1, j2, j3⟩ := rg_in hb h0 h1
      refine ew_iconst g qd_M_isPath_12 ic_1 ?_
      refine ew_goto g qd_M_isPath_13 (tgt := 17) (by decide) ?_
      refine ew_zret g qd_M_isPath_17 hp (by first | exact bI_nar _ | decide +kernel) ?_
      rw [j3]
      exact ⟨rfl, rfl⟩
theorem k_M_inputs (w : WC) (l : Launch) (sg : SG) {e : Option XP} (h : mEx sg e) (x : Int32) : ew_M qS w l qy_M_inputs qw_M_inputs qr_M_inputs [.inr 41, .inl x] sg (fun v sg' => v = some (.inl (aInputs e x)) ∧ sg' = sg) := by
  refine ew_entry (ws' := qwg) (own := qR_M) (cc := qc_M_inputs) (nL := 2) (ret := some .int) qnk (by decide) rfl rfl (Nat.le_of_ble_eq_true rfl) ?_
  intro k g hp
  refine ew_aload_n g qd_M_inputs_0 rfl ?_
  refine ew_iload_n g qd_M_inputs_1 rfl ?_
  refine ew_callV g qd_M_inputs_2 (k_M_isPath w k.2.1 sg h x) qv_M_163 (by decide) rfl ⟨_, _, rfl⟩ rfl rfl (Nat.le_of_ble_eq_true rfl) ⟨rfl, rfl, by decide, by decide⟩ (fun v sg1 hv => ?_)
  obtain ⟨rfl, rfl⟩ := hv
  cases hx : inR x (eN e) with
  | none =>
    refine en_top (show _ = nI 0 from rfl) ?_
    refine en_if_eq g qd_M_inputs_5 (tgt := 17) (by decide) (by omega) (fun hz => ?_) (fun hz => ?_)
    · refine ew_iconst g qd_M_inputs_17 ic_m1 ?_
      refine ew_iret g qd_M_inputs_18 hp ?_
      exact ⟨by unfold aInputs; rw [aPath_n _ hx], rfl⟩
    · exact absurd rfl hz
  | some p =>
    obtain ⟨q, rfl, ⟨hq, ⟨hr1, hr2, hr3, hr4, hr5, hr6⟩, h20⟩, hp4, rfl, hA⟩ := mPath_s h hx
    refine en_top (show _ = nI 1 from rfl) ?_
    refine en_if_eq g qd_M_inputs_5 (tgt := 17) (by decide) (by omega) (fun hz => ?_) (fun hz => ?_)
    · exact absurd hz (by decide)
    · refine ew_aload_n g qd_M_inputs_8 rfl ?_
      refine ew_getR g qd_M_inputs_9 qf_M_50 (by decide) rfl rfl ?_
      refine ew_iload_n g qd_M_inputs_12 rfl ?_
      refine en_iald g qd_M_inputs_13 (by decide) rfl (by omega) (by omega) hr2 ?_
      refine ew_goto g qd_M_inputs_14 (tgt := 18) (by decide) ?_
      refine ew_iret g qd_M_inputs_18 hp ?_
      exact ⟨by unfold aInputs; rw [hA]; rfl, rfl⟩
theorem k_M_witness (w : WC) (l : Launch) (sg : SG) {e : Option XP} (h : mEx sg e) (x : Int32) : ew_M qS w l qy_M_witness qw_M_witness qr_M_witness [.inr 41, .inl x] sg (fun v sg' => v = some (.inl (aWitness e x)) ∧ sg' = sg) := by
  refine ew_entry (ws' := qwg) (own := qR_M) (cc := qc_M_witness) (nL := 2) (ret := some .int) qnk (by decide) rfl rfl (Nat.le_of_ble_eq_true rfl) ?_
  intro k g hp
  refine ew_aload_n g qd_M_witness_0 rfl ?_
  refine ew_iload_n g qd_M_witness_1 rfl ?_
  refine ew_callV g qd_M_witness_2 (k_M_isPath w k.2.1 sg h x) qv_M_163 (by decide) rfl ⟨_, _, rfl⟩ rfl rfl (Nat.le_of_ble_eq_true rfl) ⟨rfl, rfl, by decide, by decide⟩ (fun v sg1 hv => ?_)
  obtain ⟨rfl, rfl⟩ := hv
  cases hx : inR x (eN e) with
  | none =>
    refine en_top (show _ = nI 0 from rfl) ?_
    refine en_if_eq g qd_M_witness_5 (tgt := 17) (by decide) (by omega) (fun hz => ?_) (fun hz => ?_)
    · refine ew_iconst g qd_M_witness_17 ic_m1 ?_
      refine ew_iret g qd_M_witness_18 hp ?_
      exact ⟨by unfold aWitness; rw [aPath_n _ hx], rfl⟩
    · exact absurd rfl hz
  | some p =>
    obtain ⟨q, rfl, ⟨hq, ⟨hr1, hr2, hr3, hr4, hr5, hr6⟩, h20⟩, hp4, rfl, hA⟩ := mPath_s h hx
    refine en_top (show _ = nI 1 from rfl) ?_
    refine en_if_eq g qd_M_witness_5 (tgt := 17) (by decide) (by omega) (fun hz => ?_) (fun hz => ?_)
    · exact absurd hz (by decide)
    · refine ew_aload_n g qd_M_witness_8 rfl ?_
      refine ew_getR g qd_M_witness_9 qf_M_53 (by decide) rfl rfl ?_
      refine ew_iload_n g qd_M_witness_12 rfl ?_
      refine en_iald g qd_M_witness_13 (by decide) rfl (by omega) (by omega) hr3 ?_
      refine ew_goto g qd_M_witness_14 (tgt := 18) (by decide) ?_
      refine ew_iret g qd_M_witness_18 hp ?_
      exact ⟨by unfold aWitness; rw [hA], rfl⟩
theorem rK_of {q : XP} (hn : q.2.2.2 = 1 ∨ q.2.2.2 = 2) {m u : Nat} (hu : u < q.2.2.2) : rK q m u = kOf q m u ∧ u < 2 := by
  refine ⟨?_, by omega⟩
  unfold rK kOf
  rcases hn with hn | hn
  · have : u = 0 := by omega
    subst this
    rw [if_pos hn, if_pos rfl, if_pos (by omega)]
  · rw [if_neg (by omega)]
    by_cases h0 : u = 0
    · subst h0; rw [if_pos rfl, if_neg (by omega)]
    · rw [if_neg h0, if_pos (by omega)]
theorem k_M_end (w : WC) (l : Launch) (sg : SG) {e : Option XP} (h : mEx sg e) (x t : Int32) : ew_M qS w l qy_M_end qw_M_end qr_M_end [.inr 41, .inl x, .inl t] sg (fun v sg' => v = some (.inl (aEnd e x t)) ∧ sg' = sg) := by
  refine ew_entry (ws' := qwg) (own := qR_M) (cc := qc_M_end) (nL := 3) (ret := some .int) qnk (by decide) rfl rfl (Nat.le_of_ble_eq_true rfl) ?_
  intro k g hp
  have hno : aEnd e x t = -1 → ew_E qS w 3 k 33 [some (.inr 41), some (.inl x), some (.inl t)] [] sg := by
    intro ee
    refine ew_iconst g qd_M_end_33 ic_m1 ?_
    refine ew_iret g qd_M_end_34 hp ?_
    rw [ee]
    exact ⟨rfl, rfl⟩
  refine ew_aload_n g qd_M_end_0 rfl ?_
  refine ew_iload_n g qd_M_end_1 rfl ?_
  refine ew_callV g qd_M_end_2 (k_M_isPath w k.2.1 sg h x) qv_M_163 (by decide) rfl ⟨_, _, rfl⟩ rfl rfl (Nat.le_of_ble_eq_true rfl) ⟨rfl, rfl, by decide, by decide⟩ (fun v sg1 hv => ?_)
  obtain ⟨rfl, rfl⟩ := hv
  cases hx : inR x (eN e) with
  | none =>
    refine en_top (show _ = nI 0 from rfl) ?_
    refine en_if_eq g qd_M_end_5 (tgt := 33) (by decide) (by omega) (fun hz => ?_) (fun hz => ?_)
    · exact hno (by unfold aEnd; rw [aPath_n _ hx])
    · exact absurd rfl hz
  | some p =>
    obtain ⟨q, rfl, ⟨hq, ⟨hr1, hr2, hr3, hr4, hr5, hr6⟩, h20⟩, hp4, rfl, hA⟩ := mPath_s h hx
    have hnn := hq.2.2.2
    have hb : q.2.2.2 < 2 ^ 31 := by omega
    refine en_top (show _ = nI 1 from rfl) ?_
    refine en_if_eq g qd_M_end_5 (tgt := 33) (by decide) (by omega) (fun hz => ?_) (fun hz => ?_)
    · exact absurd hz (by decide)
    · refine ew_iload_n g qd_M_end_8 rfl ?_
      refine ew_if_lt g qd_M_end_9 (tgt := 33) (by decide) (fun t0 => ?_) (fun t0 => ?_)
      · exact hno (by unfold aEnd; rw [hA]; simp only [rg_neg hb t0])
      · refine ew_iload_n g qd_M_end_12 rfl ?_
        refine ew_aload_n g qd_M_end_13 rfl ?_
        refine ew_get g qd_M_end_14 qf_M_148 (by decide) rfl rfl ?_
        refine en_top h20 ?_
        refine ew_icmp_ge g qd_M_end_17 (tgt := 33) (by decide) (fun t1 => ?_) (fun t1 => ?_)
        · exact hno (by unfold aEnd; rw [hA]; simp only [rg_ge hb t1])
        · obtain ⟨u, u1, rfl, u3⟩ := rg_in hb t0 t1
          obtain ⟨eK, u2⟩ := rK_of hnn (m := xwit q p) u1
          obtain ⟨k1, k2, k3, k4⟩ := hr1 u u2
          refine ew_aload_n g qd_M_end_20 rfl ?_
          refine ew_getR g qd_M_end_21 qf_M_47 (by decide) rfl rfl ?_
          refine ew_iconst g qd_M_end_24 ic_2 ?_
          refine ew_iload_n g qd_M_end_25 rfl ?_
          refine ew_imul g qd_M_end_26 ?_
          refine en_top (pk_mul _ _) ?_
          refine ew_iload_n g qd_M_end_27 rfl ?_
          refine ew_iadd g qd_M_end_28 ?_
          refine en_top (nI_add _ _) ?_
          refine en_iald g qd_M_end_29 (by decide) rfl (by omega) (by omega) k3 ?_
          refine ew_goto g qd_M_end_30 (tgt := 34) (by decide) ?_
          refine ew_iret g qd_M_end_34 hp ?_
          refine ⟨?_, rfl⟩
          unfold aEnd
          rw [hA, eK]
          simp only [u3]
theorem k_M_step (w : WC) (l : Launch) (sg : SG) {e : Option XP} (h : mEx sg e) (x t kk : Int32) : ew_M qS w l qy_M_step qw_M_step qr_M_step [.inr 41, .inl x, .inl t, .inl kk] sg (fun v sg' => v = some (.inl (aStep e x t kk)) ∧ sg' = sg) := by
  refine ew_entry (ws' := qwg) (own := qR_M) (cc := qc_M_step) (nL := 4) (ret := some .int) qnk (by decide) rfl rfl (Nat.le_of_ble_eq_true rfl) ?_
  intro k g hp
  have hno : aStep e x t kk = -1 → ew_E qS w 4 k 57 [some (.inr 41), some (.inl x), some (.inl t), some (.inl kk)] [] sg := by
    intro ee
    refine ew_iconst g qd_M_step_57 ic_m1 ?_
    refine ew_iret g qd_M_step_58 hp ?_
    rw [ee]
    exact ⟨rfl, rfl⟩
  refine ew_aload_n g qd_M_step_0 rfl ?_
  refine ew_iload_n g qd_M_step_1 rfl ?_
  refine ew_callV g qd_M_step_2 (k_M_isPath w k.2.1 sg h x) qv_M_163 (by decide) rfl ⟨_, _, rfl⟩ rfl rfl (Nat.le_of_ble_eq_true rfl) ⟨rfl, rfl, by decide, by decide⟩ (fun v sg1 hv => ?_)
  obtain ⟨rfl, rfl⟩ := hv
  cases hx : inR x (eN e) with
  | none =>
    refine en_top (show _ = nI 0 from rfl) ?_
    refine en_if_eq g qd_M_step_5 (tgt := 57) (by decide) (by omega) (fun hz => ?_) (fun hz => ?_)
    · exact hno (by unfold aStep; rw [aPath_n _ hx])
    · exact absurd rfl hz
  | some p =>
    obtain ⟨q, rfl, ⟨hq, ⟨hr1, hr2, hr3, hr4, hr5, hr6⟩, h20⟩, hp4, rfl, hA⟩ := mPath_s h hx
    have hnn := hq.2.2.2
    have hb : q.2.2.2 < 2 ^ 31 := by omega
    refine en_top (show _ = nI 1 from rfl) ?_
    refine en_if_eq g qd_M_step_5 (tgt := 57) (by decide) (by omega) (fun hz => ?_) (fun hz => ?_)
    · exact absurd hz (by decide)
    · refine ew_iload_n g qd_M_step_8 rfl ?_
      refine ew_if_lt g qd_M_step_9 (tgt := 57) (by decide) (fun t0 => ?_) (fun t0 => ?_)
      · exact hno (by unfold aStep; rw [hA]; simp only [rg_neg hb t0])
      · refine ew_iload_n g qd_M_step_12 rfl ?_
        refine ew_aload_n g qd_M_step_13 rfl ?_
        refine ew_get g qd_M_step_14 qf_M_148 (by decide) rfl rfl ?_
        refine en_top h20 ?_
        refine ew_icmp_ge g qd_M_step_17 (tgt := 57) (by decide) (fun t1 => ?_) (fun t1 => ?_)
        · exact hno (by unfold aStep; rw [hA]; simp only [rg_ge hb t1])
        · obtain ⟨u, u1, rfl, u3⟩ := rg_in hb t0 t1
          obtain ⟨eK, u2⟩ := rK_of hnn (m := xwit q p) u1
          obtain ⟨k1, k2, k3, k4⟩ := hr1 u u2
          rw [eK] at k1 k2 k4
          have eA : aStep (some q) (nI p) (nI u) kk = match inR kk (kOf q (xwit q p) u).1.length with | some i => nI ((kOf q (xwit q p) u).1.getD i 0) | none => -1 := by
            unfold aStep
            rw [hA]
            simp only [u3]
            cases inR kk (kOf q (xwit q p) u).1.length <;> rfl
          have hb2 : (kOf q (xwit q p) u).1.length < 2 ^ 31 := by omega
          refine ew_iload_n g qd_M_step_20 rfl ?_
          refine ew_if_lt g qd_M_step_21 (tgt := 57) (by decide) (fun s0 => ?_) (fun s0 => ?_)
          · exact hno (by rw [eA, rg_neg hb2 s0])
          · refine ew_iload_n g qd_M_step_24 rfl ?_
            refine ew_aload_n g qd_M_step_25 rfl ?_
            refine ew_getR g qd_M_step_26 qf_M_44 (by decide) rfl rfl ?_
            refine ew_iconst g qd_M_step_29 ic_2 ?_
            refine ew_iload_n g qd_M_step_30 rfl ?_
            refine ew_imul g qd_M_step_31 ?_
            refine en_top (pk_mul _ _) ?_
            refine ew_iload_n g qd_M_step_32 rfl ?_
            refine ew_iadd g qd_M_step_33 ?_
            refine en_top (nI_add _ _) ?_
            refine en_iald g qd_M_step_34 (by decide) rfl (by omega) (by omega) k1 ?_
            refine ew_icmp_ge g qd_M_step_35 (tgt := 57) (by decide) (fun s1 => ?_) (fun s1 => ?_)
            · exact hno (by rw [eA, rg_ge hb2 s1])
            · obtain ⟨i, i1, rfl, i3⟩ := rg_in hb2 s0 s1
              refine ew_aload_n g qd_M_step_38 rfl ?_
              refine ew_getR g qd_M_step_39 qf_M_41 (by decide) rfl rfl ?_
              refine ew_bipush g qd_M_step_42 bp_82 ?_
              refine ew_iload_n g qd_M_step_44 rfl ?_
              refine ew_imul g qd_M_step_45 ?_
              refine en_top (pk_mul _ _) ?_
              refine ew_bipush g qd_M_step_46 bp_41 ?_
              refine ew_iload_n g qd_M_step_48 rfl ?_
              refine ew_imul g qd_M_step_49 ?_
              refine en_top (pk_mul _ _) ?_
              refine ew_iadd g qd_M_step_50 ?_
              refine en_top (nI_add _ _) ?_
              refine ew_iload_n g qd_M_step_51 rfl ?_
              refine ew_iadd g qd_M_step_52 ?_
              refine en_top (show _ = nI (82 * p + (41 * u + i)) by rw [nI_add, Nat.add_assoc]) ?_
              refine en_iald g qd_M_step_53 (by decide) rfl (by omega) (by omega) (k4 i i1) ?_
              refine ew_goto g qd_M_step_54 (tgt := 58) (by decide) ?_
              refine ew_iret g qd_M_step_58 hp ?_
              rw [eA, i3]
              exact ⟨rfl, rfl⟩
theorem k_M_left (w : WC) (l : Launch) (sg : SG) {e : Option XP} (h : mEx sg e) (x y : Int32) : ew_M qS w l qy_M_left qw_M_left qr_M_left [.inr 41, .inl x, .inl y] sg (fun v sg' => v = some (.inl (aLeft e x y)) ∧ sg' = sg) := by
  refine ew_entry (ws' := qwg) (own := qR_M) (cc := qc_M_left) (nL := 3) (ret := some .int) qnk (by decide) rfl rfl (Nat.le_of_ble_eq_true rfl) ?_
  intro k g hp
  have hno : aLeft e x y = -1 → ew_E qS w 3 k 17 [some (.inr 41), some (.inl x), some (.inl y)] [] sg := by
    intro ee
    refine ew_iconst g qd_M_left_17 ic_m1 ?_
    refine ew_iret g qd_M_left_18 hp ?_
    rw [ee]
    exact ⟨rfl, rfl⟩
  refine ew_aload_n g qd_M_left_0 rfl ?_
  refine ew_iload_n g qd_M_left_1 rfl ?_
  refine ew_callV g qd_M_left_2 (k_M_isPath w k.2.1 sg h x) qv_M_163 (by decide) rfl ⟨_, _, rfl⟩ rfl rfl (Nat.le_of_ble_eq_true rfl) ⟨rfl, rfl, by decide, by decide⟩ (fun v sg1 hv => ?_)
  obtain ⟨rfl, rfl⟩ := hv
  cases hx : inR x (eN e) with
  | none =>
    refine en_top (show _ = nI 0 from rfl) ?_
    refine en_if_eq g qd_M_left_5 (tgt := 17) (by decide) (by omega) (fun hz => ?_) (fun hz => ?_)
    · exact hno (by unfold aLeft; rw [aPath_n _ hx])
    · exact absurd rfl hz
  | some p =>
    obtain ⟨q, rfl, ⟨hq, ⟨hr1, hr2, hr3, hr4, hr5, hr6⟩, h20⟩, hp4, rfl, hA⟩ := mPath_s h hx
    refine en_top (show _ = nI 1 from rfl) ?_
    refine en_if_eq g qd_M_left_5 (tgt := 17) (by decide) (by omega) (fun hz => ?_) (fun hz => ?_)
    · exact absurd hz (by decide)
    · refine ew_iload_n g qd_M_left_8 rfl ?_
      refine ew_if_lt g qd_M_left_9 (tgt := 17) (by decide) (fun t0 => ?_) (fun t0 => ?_)
      · exact hno (by unfold aLeft; rw [hA]; simp only [rg_neg (x := y) (n := 5) (by decide) t0])
      · refine ew_iload_n g qd_M_left_12 rfl ?_
        refine ew_iconst g qd_M_left_13 ic_4 ?_
        refine ew_icmp_le g qd_M_left_14 (tgt := 19) (by decide) (fun t1 => ?_) (fun t1 => ?_)
        · have t1' : ¬ nI 4 < y := fun z => by
            rw [Int32.le_iff_toInt_le] at t1
            rw [Int32.lt_iff_toInt_lt] at z
            omega
          obtain ⟨i, i1, rfl, i3⟩ := rg_it (n := 5) rfl (by decide) t0 t1'
          have eA : aLeft (some q) (nI p) (nI i) = nI (xCel q (xwit q p) i + (if xAll q (xwit q p) i = true then 16 else 0)) := by unfold aLeft; rw [hA]; simp only [i3]
          obtain ⟨b, b1, b2⟩ := hr5 i i1
          have eb : xAll q (xwit q p) i = b := by
            unfold xAll
            cases b with
            | true => exact decide_eq_true (b2.mp rfl)
            | false => exact decide_eq_false (fun z => Bool.noConfusion (b2.mpr z))
          rw [eb] at eA
          cases b with
          | true =>
            refine ew_aload_n g qd_M_left_19 rfl ?_
            refine ew_getR g qd_M_left_20 qf_M_56 (by decide) rfl rfl ?_
            refine ew_iconst g qd_M_left_23 ic_5 ?_
            refine ew_iload_n g qd_M_left_24 rfl ?_
            refine ew_imul g qd_M_left_25 ?_
            refine en_top (pk_mul _ _) ?_
            refine ew_iload_n g qd_M_left_26 rfl ?_
            refine ew_iadd g qd_M_left_27 ?_
            refine en_top (nI_add _ _) ?_
            refine en_iald g qd_M_left_28 (by decide) rfl (by omega) (by omega) (hr4 i i1) ?_
            refine ew_aload_n g qd_M_left_29 rfl ?_
            refine ew_getR g qd_M_left_30 qf_M_59 (by decide) rfl rfl ?_
            refine ew_iconst g qd_M_left_33 ic_5 ?_
            refine ew_iload_n g qd_M_left_34 rfl ?_
            refine ew_imul g qd_M_left_35 ?_
            refine en_top (pk_mul _ _) ?_
            refine ew_iload_n g qd_M_left_36 rfl ?_
            refine ew_iadd g qd_M_left_37 ?_
            refine en_top (nI_add _ _) ?_
            refine en_zald g qd_M_left_38 (by decide) rfl (by omega) (by omega) (b1.trans bI_t) ?_
            refine en_if_eq g qd_M_left_39 (tgt := 47) (by decide) (by omega) (fun hz2 => ?_) (fun hz2 => ?_)
            · exact absurd hz2 (by decide)
            · refine ew_bipush g qd_M_left_42 bp_16 ?_
              refine ew_goto g qd_M_left_44 (tgt := 48) (by decide) ?_
              refine ew_iadd g qd_M_left_48 ?_
              refine en_top (nI_add _ _) ?_
              refine ew_iret g qd_M_left_49 hp ?_
              rw [eA, if_pos rfl]
              exact ⟨rfl, rfl⟩
          | false =>
            refine ew_aload_n g qd_M_left_19 rfl ?_
            refine ew_getR g qd_M_left_20 qf_M_56 (by decide) rfl rfl ?_
            refine ew_iconst g qd_M_left_23 ic_5 ?_
            refine ew_iload_n g qd_M_left_24 rfl ?_
            refine ew_imul g qd_M_left_25 ?_
            refine en_top (pk_mul _ _) ?_
            refine ew_iload_n g qd_M_left_26 rfl ?_
            refine ew_iadd g qd_M_left_27 ?_
            refine en_top (nI_add _ _) ?_
            refine en_iald g qd_M_left_28 (by decide) rfl (by omega) (by omega) (hr4 i i1) ?_
            refine ew_aload_n g qd_M_left_29 rfl ?_
            refine ew_getR g qd_M_left_30 qf_M_59 (by decide) rfl rfl ?_
            refine ew_iconst g qd_M_left_33 ic_5 ?_
            refine ew_iload_n g qd_M_left_34 rfl ?_
            refine ew_imul g qd_M_left_35 ?_
            refine en_top (pk_mul _ _) ?_
            refine ew_iload_n g qd_M_left_36 rfl ?_
            refine ew_iadd g qd_M_left_37 ?_
            refine en_top (nI_add _ _) ?_
            refine en_zald g qd_M_left_38 (by decide) rfl (by omega) (by omega) (b1.trans bI_f) ?_
            refine en_if_eq g qd_M_left_39 (tgt := 47) (by decide) (by omega) (fun hz2 => ?_) (fun hz2 => ?_)
            · refine ew_iconst g qd_M_left_47 ic_0 ?_
              refine ew_iadd g qd_M_left_48 ?_
              refine en_top (nI_add _ _) ?_
              refine ew_iret g qd_M_left_49 hp ?_
              rw [eA, if_neg (by decide)]
              exact ⟨rfl, rfl⟩
            · exact absurd rfl hz2
        · refine hno (by
            unfold aLeft
            rw [hA]
            simp only [rg_gt (x := y) (c := 4) (n := 5) rfl (by decide) (by
              rw [Int32.le_iff_toInt_le] at t1
              rw [Int32.lt_iff_toInt_lt]
              omega)])
theorem mLe_x {sg : SG} {q : XP} {kd i : Nat} (h : mLe sg q (xN q) kd i) : sg 59 (32 * kd + i) = xLst q kd i := by
  rcases h with ⟨h1, h2⟩ | ⟨lm, h1, h2, h3, h4⟩
  · rw [h1, xLst_none h2]
  · rw [h4, xLst_some h1 h2 h3]
theorem k_M_finding (w : WC) (l : Launch) (sg : SG) {e : Option XP} (h : mEx sg e) (x y : Int32) : ew_M qS w l qy_M_finding qw_M_finding qr_M_finding [.inr 41, .inl x, .inl y] sg (fun v sg' => v = some (.inl (aFinding e x y)) ∧ sg' = sg) := by
  refine ew_entry (ws' := qwg) (own := qR_M) (cc := qc_M_finding) (nL := 3) (ret := some .int) qnk (by decide) rfl rfl (Nat.le_of_ble_eq_true rfl) ?_
  intro k g hp
  have hno : aFinding e x y = -1 → ew_E qS w 3 k 40 [some (.inr 41), some (.inl x), some (.inl y)] [] sg := by
    intro ee
    refine ew_iconst g qd_M_finding_40 ic_m1 ?_
    refine ew_iret g qd_M_finding_41 hp ?_
    rw [ee]
    exact ⟨rfl, rfl⟩
  cases e with
  | none =>
    refine ew_aload_n g qd_M_finding_0 rfl ?_
    refine ew_get g qd_M_finding_1 qf_M_148 (by decide) rfl rfl ?_
    refine en_top h.2 ?_
    refine en_if_le g qd_M_finding_4 (tgt := 40) (by decide) (by decide) (fun _ => hno rfl) (fun z => absurd z (Nat.lt_irrefl 0))
  | some q =>
    obtain ⟨hq, hE, h20⟩ := h
    have hnn := hq.2.2.2
    refine ew_aload_n g qd_M_finding_0 rfl ?_
    refine ew_get g qd_M_finding_1 qf_M_148 (by decide) rfl rfl ?_
    refine en_top h20 ?_
    refine en_if_le g qd_M_finding_4 (tgt := 40) (by decide) (by omega) (fun z => absurd z (by omega)) (fun _ => ?_)
    refine ew_iload_n g qd_M_finding_7 rfl ?_
    refine ew_if_lt g qd_M_finding_8 (tgt := 40) (by decide) (fun t0 => ?_) (fun t0 => ?_)
    · exact hno (by unfold aFinding; rw [rg_neg (x := x) (n := 5) (by decide) t0])
    · refine ew_iload_n g qd_M_finding_11 rfl ?_
      refine ew_iconst g qd_M_finding_12 ic_4 ?_
      refine ew_icmp_gt g qd_M_finding_13 (tgt := 40) (by decide) (fun t1 => ?_) (fun t1 => ?_)
      · exact hno (by unfold aFinding; rw [rg_gt (x := x) (n := 5) rfl (by decide) t1])
      · obtain ⟨kd, k1, rfl, k3⟩ := rg_it (n := 5) rfl (by decide) t0 t1
        refine ew_iload_n g qd_M_finding_16 rfl ?_
        refine ew_if_lt g qd_M_finding_17 (tgt := 40) (by decide) (fun s0 => ?_) (fun s0 => ?_)
        · exact hno (by unfold aFinding; rw [k3, rg_neg (x := y) (n := 32) (by decide) s0])
        · refine ew_iload_n g qd_M_finding_20 rfl ?_
          refine ew_bipush g qd_M_finding_21 bp_31 ?_
          refine ew_icmp_gt g qd_M_finding_23 (tgt := 40) (by decide) (fun s1 => ?_) (fun s1 => ?_)
          · exact hno (by unfold aFinding; rw [k3, rg_gt (x := y) (n := 32) rfl (by decide) s1])
          · obtain ⟨i, i1, rfl, i3⟩ := rg_it (n := 32) rfl (by decide) s0 s1
            refine ew_aload_n g qd_M_finding_26 rfl ?_
            refine ew_getR g qd_M_finding_27 qf_M_66 (by decide) rfl rfl ?_
            refine ew_bipush g qd_M_finding_30 bp_32 ?_
            refine ew_iload_n g qd_M_finding_32 rfl ?_
            refine ew_imul g qd_M_finding_33 ?_
            refine en_top (pk_mul _ _) ?_
            refine ew_iload_n g qd_M_finding_34 rfl ?_
            refine ew_iadd g qd_M_finding_35 ?_
            refine en_top (nI_add _ _) ?_
            refine en_iald g qd_M_finding_36 (by decide) rfl (by omega) (by omega) (mLe_x (hE.2.2.2 kd i k1 i1)) ?_
            refine ew_goto g qd_M_finding_37 (tgt := 41) (by decide) ?_
            refine ew_iret g qd_M_finding_41 hp ?_
            refine ⟨?_, rfl⟩
            unfold aFinding
            rw [k3, i3]
theorem k_M_risk (w : WC) (l : Launch) (sg : SG) {e : Option XP} (h : mEx sg e) (x y z : Int32) : ew_M qS w l qy_M_risk qw_M_risk qr_M_risk [.inr 41, .inl x, .inl y, .inl z] sg (fun v sg' => v = some (.inl (aRisk e x y z)) ∧ sg' = sg) := by
  refine ew_entry (ws' := qwg) (own := qR_M) (cc := qc_M_risk) (nL := 4) (ret := some .int) qnk (by decide) rfl rfl (Nat.le_of_ble_eq_true rfl) ?_
  intro k g hp
  have hno : aRisk e x y z = -1 → ew_E qS w 4 k 47 [some (.inr 41), some (.inl x), some (.inl y), some (.inl z)] [] sg := by
    intro ee
    refine ew_iconst g qd_M_risk_47 ic_m1 ?_
    refine ew_iret g qd_M_risk_48 hp ?_
    rw [ee]
    exact ⟨rfl, rfl⟩
  refine ew_aload_n g qd_M_risk_0 rfl ?_
  refine ew_iload_n g qd_M_risk_1 rfl ?_
  refine ew_callV g qd_M_risk_2 (k_M_isPath w k.2.1 sg h x) qv_M_163 (by decide) rfl ⟨_, _, rfl⟩ rfl rfl (Nat.le_of_ble_eq_true rfl) ⟨rfl, rfl, by decide, by decide⟩ (fun v sg1 hv => ?_)
  obtain ⟨rfl, rfl⟩ := hv
  cases hx : inR x (eN e) with
  | none =>
    refine en_top (show _ = nI 0 from rfl) ?_
    refine en_if_eq g qd_M_risk_5 (tgt := 47) (by decide) (by omega) (fun hz => ?_) (fun hz => ?_)
    · exact hno (by unfold aRisk; rw [aPath_n _ hx])
    · exact absurd rfl hz
  | some p =>
    obtain ⟨q, rfl, ⟨hq, ⟨hr1, hr2, hr3, hr4, hr5, hr6⟩, h20⟩, hp4, rfl, hA⟩ := mPath_s h hx
    refine en_top (show _ = nI 1 from rfl) ?_
    refine en_if_eq g qd_M_risk_5 (tgt := 47) (by decide) (by omega) (fun hz => ?_) (fun hz => ?_)
    · exact absurd hz (by decide)
    · refine ew_iload_n g qd_M_risk_8 rfl ?_
      refine ew_if_lt g qd_M_risk_9 (tgt := 47) (by decide) (fun t0 => ?_) (fun t0 => ?_)
      · exact hno (by unfold aRisk; rw [hA]; simp only [rg_neg (x := y) (n := 5) (by decide) t0])
      · refine ew_iload_n g qd_M_risk_12 rfl ?_
        refine ew_iconst g qd_M_risk_13 ic_4 ?_
        refine ew_icmp_gt g qd_M_risk_14 (tgt := 47) (by decide) (fun t1 => ?_) (fun t1 => ?_)
        · exact hno (by unfold aRisk; rw [hA]; simp only [rg_gt (x := y) (n := 5) rfl (by decide) t1])
        · obtain ⟨kd, k1, rfl, k3⟩ := rg_it (n := 5) rfl (by decide) t0 t1
          refine ew_iload_n g qd_M_risk_17 rfl ?_
          refine ew_if_lt g qd_M_risk_18 (tgt := 47) (by decide) (fun s0 => ?_) (fun s0 => ?_)
          · exact hno (by unfold aRisk; rw [hA]; simp only [k3, rg_neg (x := z) (n := 32) (by decide) s0])
          · refine ew_iload_n g qd_M_risk_21 rfl ?_
            refine ew_bipush g qd_M_risk_22 bp_31 ?_
            refine ew_icmp_gt g qd_M_risk_24 (tgt := 47) (by decide) (fun s1 => ?_) (fun s1 => ?_)
            · exact hno (by unfold aRisk; rw [hA]; simp only [k3, rg_gt (x := z) (n := 32) rfl (by decide) s1])
            · obtain ⟨i, i1, rfl, i3⟩ := rg_it (n := 32) rfl (by decide) s0 s1
              refine ew_aload_n g qd_M_risk_27 rfl ?_
              refine ew_getR g qd_M_risk_28 qf_M_63 (by decide) rfl rfl ?_
              refine ew_sipush g qd_M_risk_31 sp_160 ?_
              refine ew_iload_n g qd_M_risk_34 rfl ?_
              refine ew_imul g qd_M_risk_35 ?_
              refine en_top (pk_mul _ _) ?_
              refine ew_bipush g qd_M_risk_36 bp_32 ?_
              refine ew_iload_n g qd_M_risk_38 rfl ?_
              refine ew_imul g qd_M_risk_39 ?_
              refine en_top (pk_mul _ _) ?_
              refine ew_iadd g qd_M_risk_40 ?_
              refine en_top (nI_add _ _) ?_
              refine ew_iload_n g qd_M_risk_41 rfl ?_
              refine ew_iadd g qd_M_risk_42 ?_
              refine en_top (show _ = nI (160 * p + (32 * kd + i)) by rw [nI_add, Nat.add_assoc]) ?_
              refine en_iald g qd_M_risk_43 (by decide) rfl (by omega) (by omega) (hr6 kd i k1 i1) ?_
              refine ew_goto g qd_M_risk_44 (tgt := 48) (by decide) ?_
              refine ew_iret g qd_M_risk_48 hp ?_
              refine ⟨?_, rfl⟩
              unfold aRisk
              rw [hA]
              simp only [k3, i3]
              rfl
theorem k_M_replayed (w : WC) (l : Launch) (sg : SG) {a : AS} (h : mS sg a) (x : Int32) : ew_M qS w l qy_M_replayed qw_M_replayed qr_M_replayed [.inr 41, .inl x] sg (fun v sg' => v = some (.inl (aReplayed a x)) ∧ sg' = sg) := by
  have h5 := h.2.2.2.2
  refine ew_entry (ws' := qwg) (own := qR_M) (cc := qc_M_replayed) (nL := 2) (ret := some .int) qnk (by decide) rfl rfl (Nat.le_of_ble_eq_true rfl) ?_
  intro k g hp
  have hno : aReplayed a x = -1 → ew_E qS w 2 k 26 [some (.inr 41), some (.inl x)] [] sg := by
    intro ee
    refine ew_iconst g qd_M_replayed_26 ic_m1 ?_
    refine ew_iret g qd_M_replayed_27 hp ?_
    rw [ee]
    exact ⟨rfl, rfl⟩
  cases hrp : a.2.2.2.2 with
  | none =>
    rw [hrp] at h5
    have h5 : sg 41 30 = bI false := h5
    refine ew_aload_n g qd_M_replayed_0 rfl ?_
    refine ew_get g qd_M_replayed_1 qf_M_166 (by decide) rfl rfl ?_
    refine en_top (h5.trans bI_f) ?_
    refine en_if_eq g qd_M_replayed_4 (tgt := 26) (by decide) (by omega) (fun hz => ?_) (fun hz => ?_)
    · exact hno (by unfold aReplayed; rw [hrp])
    · exact absurd rfl hz
  | some f =>
    rw [hrp] at h5
    have h5 : sg 41 30 = bI true ∧ ∀ i, i < 7 → sg 60 i = nI (f i) := h5
    refine ew_aload_n g qd_M_replayed_0 rfl ?_
    refine ew_get g qd_M_replayed_1 qf_M_166 (by decide) rfl rfl ?_
    refine en_top (h5.1.trans bI_t) ?_
    refine en_if_eq g qd_M_replayed_4 (tgt := 26) (by decide) (by omega) (fun hz => ?_) (fun hz => ?_)
    · exact absurd hz (by decide)
    · refine ew_iload_n g qd_M_replayed_7 rfl ?_
      refine ew_if_lt g qd_M_replayed_8 (tgt := 26) (by decide) (fun t0 => ?_) (fun t0 => ?_)
      · exact hno (by unfold aReplayed; rw [hrp, rg_neg (x := x) (n := 7) (by decide) t0])
      · refine ew_iload_n g qd_M_replayed_11 rfl ?_
        refine ew_bipush g qd_M_replayed_12 bp_6 ?_
        refine ew_icmp_gt g qd_M_replayed_14 (tgt := 26) (by decide) (fun t1 => ?_) (fun t1 => ?_)
        · exact hno (by unfold aReplayed; rw [hrp, rg_gt (x := x) (n := 7) rfl (by decide) t1])
        · obtain ⟨i, i1, rfl, i3⟩ := rg_it (n := 7) rfl (by decide) t0 t1
          refine ew_aload_n g qd_M_replayed_17 rfl ?_
          refine ew_getR g qd_M_replayed_18 qf_M_69 (by decide) rfl rfl ?_
          refine ew_iload_n g qd_M_replayed_21 rfl ?_
          refine en_iald g qd_M_replayed_22 (by decide) rfl (by omega) (by omega) (h5.2 i i1) ?_
          refine ew_goto g qd_M_replayed_23 (tgt := 27) (by decide) ?_
          refine ew_iret g qd_M_replayed_27 hp ?_
          refine ⟨?_, rfl⟩
          unfold aReplayed
          rw [hrp, i3]
