theorem xEx_n {sg : SG} {e : Option XP} (h : xEx sg e) : sg 28 8 = nI (eN e) ∧ eN e ≤ 40 := by
  cases e with
  | none => exact ⟨h.1, by decide⟩
  | some q => exact ⟨h.2.2.1, h.2.1⟩
theorem aPath_n {e : Option XP} {x : Int32} (f : XP → Nat → Int32) (h : inR x (eN e) = none) : aPath e x f = -1 := by
  cases e with
  | none => rfl
  | some q =>
    have h : inR x (xCount q) = none := h
    unfold aPath
    simp only [h]
theorem aPath_s {e : Option XP} {x : Int32} {p : Nat} {sg : SG} (he : xEx sg e) (h : inR x (eN e) = some p) : ∃ q, e = some q ∧ xQ sg q ∧ p < xCount q ∧ ∀ f, aPath e x f = f q (xwit q p) := by
  have hn := (xEx_n he).2
  obtain ⟨h1, h2⟩ := inR_s (by omega) h
  cases e with
  | none => exact absurd h1 (Nat.not_lt_zero _)
  | some q =>
    refine ⟨q, rfl, he, h1, fun f => ?_⟩
    have h : inR x (xCount q) = some p := h
    unfold aPath
    simp only [h]
theorem xN_le (q : XP) : xN q ≤ 4096 := by unfold xN; split <;> decide
theorem k_X_explore (w : WC) (l : Launch) (sg : SG) {a : AS} (h : xS sg a) (x : Int32) : ew_M qS w l qy_X_explore qw_X_explore qr_X_explore [.inr 0, .inl x] sg (fun v sg' => v = some (.inl (aExplore a x).1) ∧ xS sg' (aExplore a x).2 ∧ xFo sg sg') := by
  obtain ⟨h1, h2, h3, h4, h5⟩ := id h
  have hqk : ∀ n, n = 1 ∨ n = 2 → qOK (aXp a n) := fun n hn => ⟨h1.1, h2.2, h3.2.2, hn⟩
  have fb : fgE sg 0 4 = nI a.2.1 := by rw [fgE_n (by omega)]; exact h2.1
  have fl : fgE sg 0 5 = nI a.2.2.1 := by rw [fgE_n (by omega)]; exact h3.1
  refine ew_entry (ws' := qwg) (own := qR_X) (cc := qc_X_explore) (nL := 3) (ret := some .int) qnk (by decide) rfl rfl (Nat.le_of_ble_eq_true rfl) ?_
  intro k g hp
  -- the end, behind the survey
  have hend : ∀ (n : Nat) (v0 : Option MV) (sg1 : SG), n = 1 ∨ n = 2 → x = nI n → ((v0 = some (.inl (nI 1)) ∧ svOK sg1 (aXp a n)) ∨ (v0 = some (.inl (nI 0)) ∧ svBad (aXp a n))) → (∀ o, o = 0 ∨ (2 ≤ o ∧ o < 6) ∨ 39 < o → sg1 o = sg o) → ew_E qS w 3 k 65 [some (.inr 0), some (.inl x), none] (v0.toList ++ []) sg1 := by
    intro n v0 sg1 hn hx hv hfo
    have eX : aExplore a x = aExp a n := by
      unfold aExplore
      rcases hn with rfl | rfl
      · rw [if_pos hx]
      · rw [if_neg (by rw [hx]; decide +kernel), if_pos hx]
    have hS : ∀ (sg2 : SG) (e : Option XP), xEx sg2 e → (∀ o, o = 0 ∨ (2 ≤ o ∧ o < 6) ∨ 39 < o → sg2 o = sg o) → xS sg2 (a.1, a.2.1, a.2.2.1, e, a.2.2.2.2) ∧ xFo sg sg2 := fun sg2 e he hf => by
      refine ⟨⟨?_, by rw [hf 0 (by omega)]; exact h2, by rw [hf 0 (by omega)]; exact h3, he, xRp_fr h5 (by rw [hf 0 (by omega)]) (hf 40 (by omega))⟩, fun o ho => hf o (by omega)⟩
      unfold xCode at h1 ⊢
      rw [hf 2 (by omega), hf 3 (by omega), hf 4 (by omega), hf 5 (by omega)]
      exact h1
    rcases hv with ⟨rfl, hok⟩ | ⟨rfl, hbad⟩
    · refine ew_istore_n g qd_X_explore_65 (by decide) ?_
      refine ew_aload_n g qd_X_explore_66 rfl ?_
      refine ew_getR g qd_X_explore_67 qf_X_19 (by decide) rfl rfl ?_
      refine ew_iload_n g qd_X_explore_70 rfl ?_
      refine ew_callV g qd_X_explore_71 (k_E_conclude_t w k.2.1 sg1 (hqk n hn) hok) qv_X_69 (by decide) rfl ⟨_, _, rfl⟩ rfl rfl (Nat.le_of_ble_eq_true rfl) ⟨rfl, rfl, by decide, by decide⟩ (fun v sg2 hv => ?_)
      obtain ⟨rfl, hc40, hQ, hfr⟩ := hv
      refine ew_iret g qd_X_explore_74 hp ?_
      rw [eX]
      unfold aExp
      rw [if_pos hc40]
      exact ⟨rfl, hS sg2 (some (aXp a n)) hQ (fun o ho => by rw [hfr o (by omega)]; exact hfo o ho)⟩
    · have hc := bad_count hbad
      refine ew_istore_n g qd_X_explore_65 (by decide) ?_
      refine ew_aload_n g qd_X_explore_66 rfl ?_
      refine ew_getR g qd_X_explore_67 qf_X_19 (by decide) rfl rfl ?_
      refine ew_iload_n g qd_X_explore_70 rfl ?_
      refine ew_callV g qd_X_explore_71 (k_E_conclude_f w k.2.1 sg1) qv_X_69 (by decide) rfl ⟨_, _, rfl⟩ rfl rfl (Nat.le_of_ble_eq_true rfl) ⟨rfl, rfl, by decide, by decide⟩ (fun v sg2 hv => ?_)
      obtain ⟨rfl, hQ, hfr⟩ := hv
      refine ew_iret g qd_X_explore_74 hp ?_
      rw [eX]
      unfold aExp
      rw [if_neg (by omega)]
      exact ⟨rfl, hS sg2 none hQ (fun o ho => by rw [hfr o (by omega)]; exact hfo o ho)⟩
  have hgo : ∀ n : Nat, n = 1 ∨ n = 2 → x = nI n → ew_E qS w 3 k 12 [some (.inr 0), some (.inl x), none] [] sg := by
    intro n hn hx
    refine ew_aload_n g qd_X_explore_12 rfl ?_
    refine ew_getR g qd_X_explore_13 qf_X_19 (by decide) rfl rfl ?_
    refine ew_callV g qd_X_explore_16 (k_E_forget w k.2.1 sg) qv_X_55 (by decide) rfl ⟨_, _, rfl⟩ rfl rfl (Nat.le_of_ble_eq_true rfl) ⟨rfl, rfl, by decide, by decide⟩ (fun v sg1 hv => ?_)
    obtain ⟨rfl, rfl⟩ := hv
    rcases hn with rfl | rfl
    · refine ew_iload_n g qd_X_explore_19 rfl ?_
      refine ew_iconst g qd_X_explore_20 ic_1 ?_
      refine ew_icmp_ne g qd_X_explore_21 (tgt := 46) (by decide) (fun hz => ?_) (fun hz => ?_)
      · exact absurd hx hz
      · refine ew_aload_n g qd_X_explore_24 rfl ?_
        refine ew_getR g qd_X_explore_25 qf_X_19 (by decide) rfl rfl ?_
        refine ew_aload_n g qd_X_explore_28 rfl ?_
        refine ew_getR g qd_X_explore_29 qf_X_12 (by decide) rfl rfl ?_
        refine ew_aload_n g qd_X_explore_32 rfl ?_
        refine ew_callV g qd_X_explore_33 (k_X_firstState w k.2.1 (fgE sg) fb h2.2) qv_X_58 (by decide) rfl ⟨_, _, rfl⟩ rfl rfl (Nat.le_of_ble_eq_true rfl) ⟨rfl, rfl, by decide, by decide⟩ (fun v sg1 hv => ?_)
        obtain ⟨rfl, rfl⟩ := hv
        refine en_top (show _ = nI (pk5 (xc0 a.2.1)) by rw [xc0_pk]) ?_
        refine ew_aload_n g qd_X_explore_36 rfl ?_
        refine ew_get g qd_X_explore_37 qf_X_35 (by decide) rfl rfl ?_
        refine en_top fl ?_
        refine ew_callV g qd_X_explore_40 (k_E_surveySingles w k.2.1 sg (q := aXp a 1) (hqk 1 (Or.inl rfl)) rfl h1) qv_X_62 (by decide) rfl ⟨_, _, rfl⟩ rfl rfl (Nat.le_of_ble_eq_true rfl) ⟨rfl, rfl, by decide, by decide⟩ (fun v sg1 hv => ?_)
        refine ew_goto g qd_X_explore_43 (tgt := 65) (by decide) ?_
        exact hend 1 v sg1 (Or.inl rfl) hx hv.1 hv.2
    · refine ew_iload_n g qd_X_explore_19 rfl ?_
      refine ew_iconst g qd_X_explore_20 ic_1 ?_
      refine ew_icmp_ne g qd_X_explore_21 (tgt := 46) (by decide) (fun hz => ?_) (fun hz => ?_)
      · refine ew_aload_n g qd_X_explore_46 rfl ?_
        refine ew_getR g qd_X_explore_47 qf_X_19 (by decide) rfl rfl ?_
        refine ew_aload_n g qd_X_explore_50 rfl ?_
        refine ew_getR g qd_X_explore_51 qf_X_12 (by decide) rfl rfl ?_
        refine ew_aload_n g qd_X_explore_54 rfl ?_
        refine ew_callV g qd_X_explore_55 (k_X_firstState w k.2.1 (fgE sg) fb h2.2) qv_X_58 (by decide) rfl ⟨_, _, rfl⟩ rfl rfl (Nat.le_of_ble_eq_true rfl) ⟨rfl, rfl, by decide, by decide⟩ (fun v sg1 hv => ?_)
        obtain ⟨rfl, rfl⟩ := hv
        refine en_top (show _ = nI (pk5 (xc0 a.2.1)) by rw [xc0_pk]) ?_
        refine ew_aload_n g qd_X_explore_58 rfl ?_
        refine ew_get g qd_X_explore_59 qf_X_35 (by decide) rfl rfl ?_
        refine en_top fl ?_
        refine ew_callV g qd_X_explore_62 (k_E_surveyPairs w k.2.1 sg (q := aXp a 2) (hqk 2 (Or.inr rfl)) rfl h1) qv_X_66 (by decide) rfl ⟨_, _, rfl⟩ rfl rfl (Nat.le_of_ble_eq_true rfl) ⟨rfl, rfl, by decide, by decide⟩ (fun v sg1 hv => ?_)
        exact hend 2 v sg1 (Or.inr rfl) hx hv.1 hv.2
      · rw [hx] at hz
        exact absurd hz (by decide +kernel)
  refine ew_iload_n g qd_X_explore_0 rfl ?_
  refine ew_iconst g qd_X_explore_1 ic_1 ?_
  refine ew_icmp_eq g qd_X_explore_2 (tgt := 12) (by decide) (fun hx1 => ?_) (fun hx1 => ?_)
  · exact hgo 1 (Or.inl rfl) hx1
  · refine ew_iload_n g qd_X_explore_5 rfl ?_
    refine ew_iconst g qd_X_explore_6 ic_2 ?_
    refine ew_icmp_eq g qd_X_explore_7 (tgt := 12) (by decide) (fun hx2 => ?_) (fun hx2 => ?_)
    · exact hgo 2 (Or.inr rfl) hx2
    · refine ew_iconst g qd_X_explore_10 ic_m1 ?_
      refine ew_iret g qd_X_explore_11 hp ?_
      unfold aExplore
      rw [if_neg hx1, if_neg hx2]
      exact ⟨rfl, h, fun _ _ => rfl⟩
theorem k_X_inputs (w : WC) (l : Launch) (sg : SG) {e : Option XP} (h : xEx sg e) (x : Int32) : ew_M qS w l qy_X_inputs qw_X_inputs qr_X_inputs [.inr 0, .inl x] sg (fun v sg' => v = some (.inl (aInputs e x)) ∧ sg' = sg) := by
  obtain ⟨hc, hn⟩ := xEx_n h
  refine ew_entry (ws' := qwg) (own := qR_X) (cc := qc_X_inputs) (nL := 3) (ret := some .int) qnk (by decide) rfl rfl (Nat.le_of_ble_eq_true rfl) ?_
  intro k g hp
  refine ew_aload_n g qd_X_inputs_0 rfl ?_
  refine ew_getR g qd_X_inputs_1 qf_X_19 (by decide) rfl rfl ?_
  refine ew_getR g qd_X_inputs_4 qf_X_73 (by decide) rfl rfl ?_
  refine ew_iload_n g qd_X_inputs_7 rfl ?_
  refine ew_callV g qd_X_inputs_8 (k_P_rowOf w k.2.1 sg x hc hn) qv_X_77 (by decide) rfl ⟨_, _, rfl⟩ rfl rfl (Nat.le_of_ble_eq_true rfl) ⟨rfl, rfl, by decide, by decide⟩ (fun v sg1 hv => ?_)
  obtain ⟨rfl, rfl⟩ := hv
  cases hx : inR x (eN e) with
  | none =>
    refine en_top (show _ = (-1 : Int32) from rfl) ?_
    refine ew_istore_n g qd_X_inputs_11 (by decide) ?_
    refine ew_iload_n g qd_X_inputs_12 rfl ?_
    refine ew_iconst g qd_X_inputs_13 ic_m1 ?_
    refine ew_icmp_ne g qd_X_inputs_14 (tgt := 21) (by decide) (fun hz => ?_) (fun hz => ?_)
    · exact absurd rfl hz
    · refine ew_iconst g qd_X_inputs_17 ic_m1 ?_
      refine ew_goto g qd_X_inputs_18 (tgt := 33) (by decide) ?_
      refine ew_iret g qd_X_inputs_33 hp ?_
      exact ⟨by unfold aInputs; rw [aPath_n _ hx], rfl⟩
  | some p =>
    obtain ⟨q, rfl, hQ, hp2, hA⟩ := aPath_s h hx
    obtain ⟨ka, kb, y1, y2, y3⟩ := hQ.2.2.2.2.1
    obtain ⟨r, hr1, hr2, hr3, hr4, hr5, hr6, hr7, hr8, hr9⟩ := y3 p hp2
    refine en_top (show _ = nI r from hr1) ?_
    refine ew_istore_n g qd_X_inputs_11 (by decide) ?_
    refine ew_iload_n g qd_X_inputs_12 rfl ?_
    refine ew_iconst g qd_X_inputs_13 ic_m1 ?_
    refine ew_icmp_ne g qd_X_inputs_14 (tgt := 21) (by decide) (fun hz => ?_) (fun hz => ?_)
    · refine ew_aload_n g qd_X_inputs_21 rfl ?_
      refine ew_getR g qd_X_inputs_22 qf_X_19 (by decide) rfl rfl ?_
      refine ew_getR g qd_X_inputs_25 qf_X_73 (by decide) rfl rfl ?_
      refine ew_getR g qd_X_inputs_28 qf_X_83 (by decide) rfl rfl ?_
      refine ew_iload_n g qd_X_inputs_31 rfl ?_
      refine en_iald g qd_X_inputs_32 (by decide) rfl (by omega) (by omega) hr5 ?_
      refine ew_iret g qd_X_inputs_33 hp ?_
      exact ⟨by unfold aInputs; rw [hA], rfl⟩
    · exact absurd hz (nI_m1 (by omega))
theorem k_X_witness (w : WC) (l : Launch) (sg : SG) {e : Option XP} (h : xEx sg e) (x : Int32) : ew_M qS w l qy_X_witness qw_X_witness qr_X_witness [.inr 0, .inl x] sg (fun v sg' => v = some (.inl (aWitness e x)) ∧ sg' = sg) := by
  obtain ⟨hc, hn⟩ := xEx_n h
  refine ew_entry (ws' := qwg) (own := qR_X) (cc := qc_X_witness) (nL := 3) (ret := some .int) qnk (by decide) rfl rfl (Nat.le_of_ble_eq_true rfl) ?_
  intro k g hp
  refine ew_aload_n g qd_X_witness_0 rfl ?_
  refine ew_getR g qd_X_witness_1 qf_X_19 (by decide) rfl rfl ?_
  refine ew_getR g qd_X_witness_4 qf_X_73 (by decide) rfl rfl ?_
  refine ew_iload_n g qd_X_witness_7 rfl ?_
  refine ew_callV g qd_X_witness_8 (k_P_rowOf w k.2.1 sg x hc hn) qv_X_77 (by decide) rfl ⟨_, _, rfl⟩ rfl rfl (Nat.le_of_ble_eq_true rfl) ⟨rfl, rfl, by decide, by decide⟩ (fun v sg1 hv => ?_)
  obtain ⟨rfl, rfl⟩ := hv
  cases hx : inR x (eN e) with
  | none =>
    refine en_top (show _ = (-1 : Int32) from rfl) ?_
    refine ew_istore_n g qd_X_witness_11 (by decide) ?_
    refine ew_iload_n g qd_X_witness_12 rfl ?_
    refine ew_iconst g qd_X_witness_13 ic_m1 ?_
    refine ew_icmp_ne g qd_X_witness_14 (tgt := 21) (by decide) (fun hz => ?_) (fun hz => ?_)
    · exact absurd rfl hz
    · refine ew_iconst g qd_X_witness_17 ic_m1 ?_
      refine ew_goto g qd_X_witness_18 (tgt := 33) (by decide) ?_
      refine ew_iret g qd_X_witness_33 hp ?_
      exact ⟨by unfold aWitness; rw [aPath_n _ hx], rfl⟩
  | some p =>
    obtain ⟨q, rfl, hQ, hp2, hA⟩ := aPath_s h hx
    obtain ⟨ka, kb, y1, y2, y3⟩ := hQ.2.2.2.2.1
    obtain ⟨r, hr1, hr2, hr3, hr4, hr5, hr6, hr7, hr8, hr9⟩ := y3 p hp2
    refine en_top (show _ = nI r from hr1) ?_
    refine ew_istore_n g qd_X_witness_11 (by decide) ?_
    refine ew_iload_n g qd_X_witness_12 rfl ?_
    refine ew_iconst g qd_X_witness_13 ic_m1 ?_
    refine ew_icmp_ne g qd_X_witness_14 (tgt := 21) (by decide) (fun hz => ?_) (fun hz => ?_)
    · refine ew_aload_n g qd_X_witness_21 rfl ?_
      refine ew_getR g qd_X_witness_22 qf_X_19 (by decide) rfl rfl ?_
      refine ew_getR g qd_X_witness_25 qf_X_73 (by decide) rfl rfl ?_
      refine ew_getR g qd_X_witness_28 qf_X_86 (by decide) rfl rfl ?_
      refine ew_iload_n g qd_X_witness_31 rfl ?_
      refine en_iald g qd_X_witness_32 (by decide) rfl (by omega) (by omega) hr6 ?_
      refine ew_iret g qd_X_witness_33 hp ?_
      exact ⟨by unfold aWitness; rw [hA], rfl⟩
    · exact absurd hz (nI_m1 (by omega))
theorem k_X_end (w : WC) (l : Launch) (sg : SG) {e : Option XP} (h : xEx sg e) (x t : Int32) : ew_M qS w l qy_X_end qw_X_end qr_X_end [.inr 0, .inl x, .inl t] sg (fun v sg' => v = some (.inl (aEnd e x t)) ∧ sg' = sg) := by
  obtain ⟨hc, hn⟩ := xEx_n h
  refine ew_entry (ws' := qwg) (own := qR_X) (cc := qc_X_end) (nL := 4) (ret := some .int) qnk (by decide) rfl rfl (Nat.le_of_ble_eq_true rfl) ?_
  intro k g hp
  have hno : ∀ x3 : Option MV, aEnd e x t = -1 → ew_E qS w 4 k 31 [some (.inr 0), some (.inl x), some (.inl t), x3] [] sg := by
    intro x3 ee
    refine ew_iconst g qd_X_end_31 ic_m1 ?_
    refine ew_iret g qd_X_end_32 hp ?_
    rw [ee]
    exact ⟨rfl, rfl⟩
  refine ew_aload_n g qd_X_end_0 rfl ?_
  refine ew_getR g qd_X_end_1 qf_X_19 (by decide) rfl rfl ?_
  refine ew_getR g qd_X_end_4 qf_X_73 (by decide) rfl rfl ?_
  refine ew_iload_n g qd_X_end_7 rfl ?_
  refine ew_callV g qd_X_end_8 (k_P_rowOf w k.2.1 sg x hc hn) qv_X_77 (by decide) rfl ⟨_, _, rfl⟩ rfl rfl (Nat.le_of_ble_eq_true rfl) ⟨rfl, rfl, by decide, by decide⟩ (fun v sg1 hv => ?_)
  obtain ⟨rfl, rfl⟩ := hv
  cases hx : inR x (eN e) with
  | none =>
    refine en_top (show _ = (-1 : Int32) from rfl) ?_
    refine ew_istore_n g qd_X_end_11 (by decide) ?_
    refine ew_iload_n g qd_X_end_12 rfl ?_
    refine ew_iconst g qd_X_end_13 ic_m1 ?_
    refine ew_icmp_eq g qd_X_end_14 (tgt := 31) (by decide) (fun hz => ?_) (fun hz => ?_)
    · exact hno _ (by unfold aEnd; rw [aPath_n _ hx])
    · exact absurd rfl hz
  | some p =>
    obtain ⟨q, rfl, hQ, hp2, hA⟩ := aPath_s h hx
    obtain ⟨ka, kb, y1, y2, y3⟩ := hQ.2.2.2.2.1
    obtain ⟨r, hr1, hr2, hr3, hr4, hr5, hr6, hr7, hr8, hr9⟩ := y3 p hp2
    have hnn := hQ.1.2.2.2
    have h94 := hQ.2.2.2.1
    refine en_top (show _ = nI r from hr1) ?_
    refine ew_istore_n g qd_X_end_11 (by decide) ?_
    refine ew_iload_n g qd_X_end_12 rfl ?_
    refine ew_iconst g qd_X_end_13 ic_m1 ?_
    refine ew_icmp_eq g qd_X_end_14 (tgt := 31) (by decide) (fun hz => ?_) (fun hz => ?_)
    · exact absurd hz (nI_m1 (by omega))
    · refine ew_iload_n g qd_X_end_17 rfl ?_
      refine ew_aload_n g qd_X_end_18 rfl ?_
      refine ew_getR g qd_X_end_19 qf_X_19 (by decide) rfl rfl ?_
      refine ew_get g qd_X_end_22 qf_X_89 (by decide) rfl rfl ?_
      refine en_top h94 ?_
      refine ew_callS g qd_X_end_25 (k_X_isBelow w k.2.1 sg1 _ _) qs_X_38 rfl rfl (Nat.le_of_ble_eq_true rfl) ⟨rfl, rfl, by decide, by decide⟩ (fun v sg2 hv => ?_)
      obtain ⟨rfl, rfl⟩ := hv
      cases ht : inR t q.2.2.2 with
      | none =>
        refine en_top (show _ = nI 0 by rw [inR_b (by omega), ht]) ?_
        refine en_if_ne g qd_X_end_28 (tgt := 33) (by decide) (by omega) (fun hz2 => ?_) (fun hz2 => ?_)
        · exact absurd rfl hz2
        · exact hno _ (by unfold aEnd; rw [hA]; simp only [ht])
      | some u =>
        obtain ⟨u1, rfl⟩ := inR_s (by omega) ht
        refine en_top (show _ = nI 1 by rw [inR_b (by omega), ht]) ?_
        refine en_if_ne g qd_X_end_28 (tgt := 33) (by decide) (by omega) (fun hz2 => ?_) (fun hz2 => ?_)
        · have eA : aEnd (some q) x (nI u) = nI (kOf q (xwit q p) u).2 := by unfold aEnd; rw [hA]; simp only [ht]
          refine ew_aload_n g qd_X_end_33 rfl ?_
          refine ew_getR g qd_X_end_34 qf_X_19 (by decide) rfl rfl ?_
          refine ew_iload_n g qd_X_end_37 rfl ?_
          refine ew_callV g qd_X_end_38 (k_E_waysOf w k.2.1 sg2 h94 hnn u1) qv_X_92 (by decide) rfl ⟨_, _, rfl⟩ rfl rfl (Nat.le_of_ble_eq_true rfl) ⟨rfl, rfl, by decide, by decide⟩ (fun v sg3 hv => ?_)
          obtain ⟨rfl, rfl⟩ := hv
          by_cases hu : u = q.2.2.2 - 1
          · obtain ⟨bb, hb1, hb2⟩ := hr4
            have hbl := (List.getElem?_eq_some_iff.mp hb1).1
            have hb40 := y1.1
            obtain ⟨-, -, -, q4, -, -⟩ := y1.2.2.2 bb _ hb1
            rw [if_pos hu]
            refine ew_getR g qd_X_end_41 qf_X_96 (by decide) rfl rfl ?_
            refine ew_aload_n g qd_X_end_44 rfl ?_
            refine ew_getR g qd_X_end_45 qf_X_19 (by decide) rfl rfl ?_
            refine ew_iload_n g qd_X_end_48 rfl ?_
            refine ew_iload_n g qd_X_end_49 rfl ?_
            refine ew_callV g qd_X_end_50 (k_E_wayOn w k.2.1 sg3 h94 hnn u1 hr2) qv_X_101 (by decide) rfl ⟨_, _, rfl⟩ rfl rfl (Nat.le_of_ble_eq_true rfl) ⟨rfl, rfl, by decide, by decide⟩ (fun v sg4 hv => ?_)
            obtain ⟨rfl, rfl⟩ := hv
            rw [if_pos hu]
            refine en_top hb2 ?_
            refine en_iald g qd_X_end_53 (by decide) rfl (by omega) (by omega) q4 ?_
            refine ew_iret g qd_X_end_54 hp ?_
            rw [eA]
            unfold kOf
            rw [if_pos hu]
            exact ⟨rfl, rfl⟩
          · have hn2 : q.2.2.2 = 2 := by omega
            obtain ⟨bb, hb1, hb2⟩ := hr3 hn2
            have hbl := (List.getElem?_eq_some_iff.mp hb1).1
            have hb40 := (y2 hn2).1
            obtain ⟨-, -, -, q4, -, -⟩ := (y2 hn2).2.2.2 bb _ hb1
            rw [if_neg hu]
            refine ew_getR g qd_X_end_41 qf_X_96 (by decide) rfl rfl ?_
            refine ew_aload_n g qd_X_end_44 rfl ?_
            refine ew_getR g qd_X_end_45 qf_X_19 (by decide) rfl rfl ?_
            refine ew_iload_n g qd_X_end_48 rfl ?_
            refine ew_iload_n g qd_X_end_49 rfl ?_
            refine ew_callV g qd_X_end_50 (k_E_wayOn w k.2.1 sg3 h94 hnn u1 hr2) qv_X_101 (by decide) rfl ⟨_, _, rfl⟩ rfl rfl (Nat.le_of_ble_eq_true rfl) ⟨rfl, rfl, by decide, by decide⟩ (fun v sg4 hv => ?_)
            obtain ⟨rfl, rfl⟩ := hv
            rw [if_neg hu]
            refine en_top hb2 ?_
            refine en_iald g qd_X_end_53 (by decide) rfl (by omega) (by omega) q4 ?_
            refine ew_iret g qd_X_end_54 hp ?_
            rw [eA]
            unfold kOf
            rw [if_neg hu]
            exact ⟨rfl, rfl⟩
        · exact absurd hz2 (by decide)
theorem k_X_step (w : WC) (l : Launch) (sg : SG) {e : Option XP} (h : xEx sg e) (x t kk : Int32) : ew_M qS w l qy_X_step qw_X_step qr_X_step [.inr 0, .inl x, .inl t, .inl kk] sg (fun v sg' => v = some (.inl (aStep e x t kk)) ∧ sg' = sg) := by
  obtain ⟨hc, hn⟩ := xEx_n h
  refine ew_entry (ws' := qwg) (own := qR_X) (cc := qc_X_step) (nL := 5) (ret := some .int) qnk (by decide) rfl rfl (Nat.le_of_ble_eq_true rfl) ?_
  intro k g hp
  have hno : ∀ x3 : Option MV, aStep e x t kk = -1 → ew_E qS w 5 k 33 [some (.inr 0), some (.inl x), some (.inl t), some (.inl kk), x3] [] sg := by
    intro x3 ee
    refine ew_iconst g qd_X_step_33 ic_m1 ?_
    refine ew_iret g qd_X_step_34 hp ?_
    rw [ee]
    exact ⟨rfl, rfl⟩
  refine ew_aload_n g qd_X_step_0 rfl ?_
  refine ew_getR g qd_X_step_1 qf_X_19 (by decide) rfl rfl ?_
  refine ew_getR g qd_X_step_4 qf_X_73 (by decide) rfl rfl ?_
  refine ew_iload_n g qd_X_step_7 rfl ?_
  refine ew_callV g qd_X_step_8 (k_P_rowOf w k.2.1 sg x hc hn) qv_X_77 (by decide) rfl ⟨_, _, rfl⟩ rfl rfl (Nat.le_of_ble_eq_true rfl) ⟨rfl, rfl, by decide, by decide⟩ (fun v sg1 hv => ?_)
  obtain ⟨rfl, rfl⟩ := hv
  cases hx : inR x (eN e) with
  | none =>
    refine en_top (show _ = (-1 : Int32) from rfl) ?_
    refine ew_istore g qd_X_step_11 (by decide) ?_
    refine ew_iload g qd_X_step_13 rfl ?_
    refine ew_iconst g qd_X_step_15 ic_m1 ?_
    refine ew_icmp_eq g qd_X_step_16 (tgt := 33) (by decide) (fun hz => ?_) (fun hz => ?_)
    · exact hno _ (by unfold aStep; rw [aPath_n _ hx])
    · exact absurd rfl hz
  | some p =>
    obtain ⟨q, rfl, hQ, hp2, hA⟩ := aPath_s h hx
    obtain ⟨ka, kb, y1, y2, y3⟩ := hQ.2.2.2.2.1
    obtain ⟨r, hr1, hr2, hr3, hr4, hr5, hr6, hr7, hr8, hr9⟩ := y3 p hp2
    have hnn := hQ.1.2.2.2
    have h94 := hQ.2.2.2.1
    refine en_top (show _ = nI r from hr1) ?_
    refine ew_istore g qd_X_step_11 (by decide) ?_
    refine ew_iload g qd_X_step_13 rfl ?_
    refine ew_iconst g qd_X_step_15 ic_m1 ?_
    refine ew_icmp_eq g qd_X_step_16 (tgt := 33) (by decide) (fun hz => ?_) (fun hz => ?_)
    · exact absurd hz (nI_m1 (by omega))
    · refine ew_iload_n g qd_X_step_19 rfl ?_
      refine ew_aload_n g qd_X_step_20 rfl ?_
      refine ew_getR g qd_X_step_21 qf_X_19 (by decide) rfl rfl ?_
      refine ew_get g qd_X_step_24 qf_X_89 (by decide) rfl rfl ?_
      refine en_top h94 ?_
      refine ew_callS g qd_X_step_27 (k_X_isBelow w k.2.1 sg1 _ _) qs_X_38 rfl rfl (Nat.le_of_ble_eq_true rfl) ⟨rfl, rfl, by decide, by decide⟩ (fun v sg2 hv => ?_)
      obtain ⟨rfl, rfl⟩ := hv
      cases ht : inR t q.2.2.2 with
      | none =>
        refine en_top (show _ = nI 0 by rw [inR_b (by omega), ht]) ?_
        refine en_if_ne g qd_X_step_30 (tgt := 35) (by decide) (by omega) (fun hz2 => ?_) (fun hz2 => ?_)
        · exact absurd rfl hz2
        · exact hno _ (by unfold aStep; rw [hA]; simp only [ht])
      | some u =>
        obtain ⟨u1, rfl⟩ := inR_s (by omega) ht
        refine en_top (show _ = nI 1 by rw [inR_b (by omega), ht]) ?_
        refine en_if_ne g qd_X_step_30 (tgt := 35) (by decide) (by omega) (fun hz2 => ?_) (fun hz2 => ?_)
        · have eA : aStep (some q) x (nI u) kk = match inR kk (kOf q (xwit q p) u).1.length with | some i => nI ((kOf q (xwit q p) u).1.getD i 0) | none => -1 := by
            unfold aStep
            rw [hA]
            simp only [ht]
            cases inR kk (kOf q (xwit q p) u).1.length <;> rfl
          refine ew_aload_n g qd_X_step_35 rfl ?_
          refine ew_getR g qd_X_step_36 qf_X_19 (by decide) rfl rfl ?_
          refine ew_iload_n g qd_X_step_39 rfl ?_
          refine ew_callV g qd_X_step_40 (k_E_waysOf w k.2.1 sg2 h94 hnn u1) qv_X_92 (by decide) rfl ⟨_, _, rfl⟩ rfl rfl (Nat.le_of_ble_eq_true rfl) ⟨rfl, rfl, by decide, by decide⟩ (fun v sg3 hv => ?_)
          obtain ⟨rfl, rfl⟩ := hv
          by_cases hu : u = q.2.2.2 - 1
          · obtain ⟨bb, hb1, hb2⟩ := hr4
            have hbl := (List.getElem?_eq_some_iff.mp hb1).1
            have hb40 := y1.1
            have ek : (xKey q (xwit q p)).2 = kOf q (xwit q p) u := by unfold kOf; rw [if_pos hu]
            have hE := y1.2.2.2 bb _ hb1
            rw [ek] at hE
            rw [if_pos hu]
            refine ew_aload_n g qd_X_step_43 rfl ?_
            refine ew_getR g qd_X_step_44 qf_X_19 (by decide) rfl rfl ?_
            refine ew_iload g qd_X_step_47 rfl ?_
            refine ew_iload_n g qd_X_step_49 rfl ?_
            refine ew_callV g qd_X_step_50 (k_E_wayOn w k.2.1 sg3 h94 hnn u1 hr2) qv_X_101 (by decide) rfl ⟨_, _, rfl⟩ rfl rfl (Nat.le_of_ble_eq_true rfl) ⟨rfl, rfl, by decide, by decide⟩ (fun v sg4 hv => ?_)
            obtain ⟨rfl, rfl⟩ := hv
            rw [if_pos hu]
            refine en_top hb2 ?_
            refine ew_iload_n g qd_X_step_53 rfl ?_
            refine ew_callV g qd_X_step_54 (k_Y_stepOf w k.2.1 sg4 (b := 19) kk (Or.inr rfl) (show bb < 40 by omega) hE) qv_X_104 (by decide) rfl ⟨_, _, rfl⟩ rfl rfl (Nat.le_of_ble_eq_true rfl) ⟨rfl, rfl, by decide, by decide⟩ (fun v sg5 hv => ?_)
            obtain ⟨rfl, rfl⟩ := hv
            refine ew_iret g qd_X_step_57 hp ?_
            rw [eA]
            exact ⟨rfl, rfl⟩
          · have hn2 : q.2.2.2 = 2 := by omega
            obtain ⟨bb, hb1, hb2⟩ := hr3 hn2
            have hbl := (List.getElem?_eq_some_iff.mp hb1).1
            have hb40 := (y2 hn2).1
            have ek : (xKey q (xwit q p)).1 = kOf q (xwit q p) u := by unfold kOf; rw [if_neg hu]
            have hE := (y2 hn2).2.2.2 bb _ hb1
            rw [ek] at hE
            rw [if_neg hu]
            refine ew_aload_n g qd_X_step_43 rfl ?_
            refine ew_getR g qd_X_step_44 qf_X_19 (by decide) rfl rfl ?_
            refine ew_iload g qd_X_step_47 rfl ?_
            refine ew_iload_n g qd_X_step_49 rfl ?_
            refine ew_callV g qd_X_step_50 (k_E_wayOn w k.2.1 sg3 h94 hnn u1 hr2) qv_X_101 (by decide) rfl ⟨_, _, rfl⟩ rfl rfl (Nat.le_of_ble_eq_true rfl) ⟨rfl, rfl, by decide, by decide⟩ (fun v sg4 hv => ?_)
            obtain ⟨rfl, rfl⟩ := hv
            rw [if_neg hu]
            refine en_top hb2 ?_
            refine ew_iload_n g qd_X_step_53 rfl ?_
            refine ew_callV g qd_X_step_54 (k_Y_stepOf w k.2.1 sg4 (b := 10) kk (Or.inl rfl) (show bb < 40 by omega) hE) qv_X_104 (by decide) rfl ⟨_, _, rfl⟩ rfl rfl (Nat.le_of_ble_eq_true rfl) ⟨rfl, rfl, by decide, by decide⟩ (fun v sg5 hv => ?_)
            obtain ⟨rfl, rfl⟩ := hv
            refine ew_iret g qd_X_step_57 hp ?_
            rw [eA]
            exact ⟨rfl, rfl⟩
        · exact absurd hz2 (by decide)
theorem k_X_left (w : WC) (l : Launch) (sg : SG) {e : Option XP} (h : xEx sg e) (x y : Int32) : ew_M qS w l qy_X_left qw_X_left qr_X_left [.inr 0, .inl x, .inl y] sg (fun v sg' => v = some (.inl (aLeft e x y)) ∧ sg' = sg) := by
  obtain ⟨hc, hn⟩ := xEx_n h
  refine ew_entry (ws' := qwg) (own := qR_X) (cc := qc_X_left) (nL := 6) (ret := some .int) qnk (by decide) rfl rfl (Nat.le_of_ble_eq_true rfl) ?_
  intro k g hp
  have hno : ∀ x3 : Option MV, aLeft e x y = -1 → ew_E qS w 6 k 25 [some (.inr 0), some (.inl x), some (.inl y), x3, none, none] [] sg := by
    intro x3 ee
    refine ew_iconst g qd_X_left_25 ic_m1 ?_
    refine ew_iret g qd_X_left_26 hp ?_
    rw [ee]
    exact ⟨rfl, rfl⟩
  refine ew_aload_n g qd_X_left_0 rfl ?_
  refine ew_getR g qd_X_left_1 qf_X_19 (by decide) rfl rfl ?_
  refine ew_getR g qd_X_left_4 qf_X_73 (by decide) rfl rfl ?_
  refine ew_iload_n g qd_X_left_7 rfl ?_
  refine ew_callV g qd_X_left_8 (k_P_rowOf w k.2.1 sg x hc hn) qv_X_77 (by decide) rfl ⟨_, _, rfl⟩ rfl rfl (Nat.le_of_ble_eq_true rfl) ⟨rfl, rfl, by decide, by decide⟩ (fun v sg1 hv => ?_)
  obtain ⟨rfl, rfl⟩ := hv
  cases hx : inR x (eN e) with
  | none =>
    refine en_top (show _ = (-1 : Int32) from rfl) ?_
    refine ew_istore_n g qd_X_left_11 (by decide) ?_
    refine ew_iload_n g qd_X_left_12 rfl ?_
    refine ew_iconst g qd_X_left_13 ic_m1 ?_
    refine ew_icmp_eq g qd_X_left_14 (tgt := 25) (by decide) (fun hz => ?_) (fun hz => ?_)
    · exact hno _ (by unfold aLeft; rw [aPath_n _ hx])
    · exact absurd rfl hz
  | some p =>
    obtain ⟨q, rfl, hQ, hp2, hA⟩ := aPath_s h hx
    obtain ⟨ka, kb, y1, y2, y3⟩ := hQ.2.2.2.2.1
    obtain ⟨r, hr1, hr2, hr3, hr4, hr5, hr6, hr7, ⟨df, d1, d2, d3⟩, hr9⟩ := y3 p hp2
    have hcc := (xL_ok hQ.1 (xwit q p)).1
    refine en_top (show _ = nI r from hr1) ?_
    refine ew_istore_n g qd_X_left_11 (by decide) ?_
    refine ew_iload_n g qd_X_left_12 rfl ?_
    refine ew_iconst g qd_X_left_13 ic_m1 ?_
    refine ew_icmp_eq g qd_X_left_14 (tgt := 25) (by decide) (fun hz => ?_) (fun hz => ?_)
    · exact absurd hz (nI_m1 (by omega))
    · refine ew_iload_n g qd_X_left_17 rfl ?_
      refine ew_iconst g qd_X_left_18 ic_5 ?_
      refine ew_callS g qd_X_left_19 (k_X_isBelow w k.2.1 sg1 _ _) qs_X_38 rfl rfl (Nat.le_of_ble_eq_true rfl) ⟨rfl, rfl, by decide, by decide⟩ (fun v sg2 hv => ?_)
      obtain ⟨rfl, rfl⟩ := hv
      cases ht : inR y 5 with
      | none =>
        refine en_top (show _ = nI 0 by rw [inR_b (by decide), ht]) ?_
        refine en_if_ne g qd_X_left_22 (tgt := 27) (by decide) (by omega) (fun hz2 => ?_) (fun hz2 => ?_)
        · exact absurd rfl hz2
        · exact hno _ (by unfold aLeft; rw [hA]; simp only [ht])
      | some i =>
        obtain ⟨i1, rfl⟩ := inR_s (by decide) ht
        refine en_top (show _ = nI 1 by rw [inR_b (by decide), ht]) ?_
        refine en_if_ne g qd_X_left_22 (tgt := 27) (by decide) (by omega) (fun hz2 => ?_) (fun hz2 => ?_)
        · have eA : aLeft (some q) x (nI i) = nI (xCel q (xwit q p) i + (if xAll q (xwit q p) i = true then 16 else 0)) := by unfold aLeft; rw [hA]; simp only [ht]
          have hci := hcc i i1
          refine ew_aload_n g qd_X_left_27 rfl ?_
          refine ew_getR g qd_X_left_28 qf_X_19 (by decide) rfl rfl ?_
          refine ew_getR g qd_X_left_31 qf_X_73 (by decide) rfl rfl ?_
          refine ew_getR g qd_X_left_34 qf_X_107 (by decide) rfl rfl ?_
          refine ew_iload_n g qd_X_left_37 rfl ?_
          refine en_iald g qd_X_left_38 (by decide) rfl (by omega) (by omega) hr7 ?_
          refine ew_iload_n g qd_X_left_39 rfl ?_
          refine ew_callS g qd_X_left_40 (k_X_wordOf w k.2.1 sg2 _ _) qs_X_110 rfl rfl (Nat.le_of_ble_eq_true rfl) ⟨rfl, rfl, by decide, by decide⟩ (fun v sg3 hv => ?_)
          obtain ⟨rfl, rfl⟩ := hv
          refine en_top (show _ = nI (xCel q (xwit q p) i) from wOf_c hcc i1) ?_
          refine ew_istore g qd_X_left_43 (by decide) ?_
          refine ew_aload_n g qd_X_left_45 rfl ?_
          refine ew_getR g qd_X_left_46 qf_X_19 (by decide) rfl rfl ?_
          refine ew_getR g qd_X_left_49 qf_X_73 (by decide) rfl rfl ?_
          refine ew_getR g qd_X_left_52 qf_X_113 (by decide) rfl rfl ?_
          refine ew_iload_n g qd_X_left_55 rfl ?_
          refine en_iald g qd_X_left_56 (by decide) rfl (by omega) (by omega) d2 ?_
          refine ew_iload_n g qd_X_left_57 rfl ?_
          refine ew_callS g qd_X_left_58 (k_X_wordOf w k.2.1 sg3 _ _) qs_X_110 rfl rfl (Nat.le_of_ble_eq_true rfl) ⟨rfl, rfl, by decide, by decide⟩ (fun v sg4 hv => ?_)
          obtain ⟨rfl, rfl⟩ := hv
          refine en_top (show _ = nI (df / 2 ^ (4 * i) % 16) from wOf_n (by omega) i1) ?_
          have hm16 : df / 2 ^ (4 * i) % 16 < 16 := Nat.mod_lt _ (by decide)
          generalize hdd : df / 2 ^ (4 * i) % 16 = dd at hm16
          have d3i := d3 i i1
          rw [hdd] at d3i
          refine en_if_ne g qd_X_left_61 (tgt := 68) (by decide) (by omega) (fun hz3 => ?_) (fun hz3 => ?_)
          · refine ew_iconst g qd_X_left_68 ic_0 ?_
            refine ew_istore g qd_X_left_69 (by decide) ?_
            refine ew_iload g qd_X_left_71 rfl ?_
            refine en_if_eq g qd_X_left_73 (tgt := 84) (by decide) (by omega) (fun hz4 => ?_) (fun hz4 => ?_)
            · refine ew_iload g qd_X_left_84 rfl ?_
              refine ew_iret g qd_X_left_86 hp ?_
              rw [eA, if_neg (fun z => hz3 (d3i.mpr z)), Nat.add_zero]
              exact ⟨rfl, rfl⟩
            · exact absurd rfl hz4
          · refine ew_iconst g qd_X_left_64 ic_1 ?_
            refine ew_goto g qd_X_left_65 (tgt := 69) (by decide) ?_
            refine ew_istore g qd_X_left_69 (by decide) ?_
            refine ew_iload g qd_X_left_71 rfl ?_
            refine en_if_eq g qd_X_left_73 (tgt := 84) (by decide) (by omega) (fun hz4 => ?_) (fun hz4 => ?_)
            · exact absurd hz4 (by decide)
            · refine ew_iload g qd_X_left_76 rfl ?_
              refine ew_bipush g qd_X_left_78 bp_16 ?_
              refine ew_iadd g qd_X_left_80 ?_
              refine en_top (nI_add _ _) ?_
              refine ew_goto g qd_X_left_81 (tgt := 86) (by decide) ?_
              refine ew_iret g qd_X_left_86 hp ?_
              rw [eA, if_pos (d3i.mp hz3)]
              exact ⟨rfl, rfl⟩
        · exact absurd hz2 (by decide)
theorem k_X_finding (w : WC) (l : Launch) (sg : SG) {e : Option XP} (h : xEx sg e) (x y : Int32) : ew_M qS w l qy_X_finding qw_X_finding qr_X_finding [.inr 0, .inl x, .inl y] sg (fun v sg' => v = some (.inl (aFinding e x y)) ∧ sg' = sg) := by
  refine ew_entry (ws' := qwg) (own := qR_X) (cc := qc_X_finding) (nL := 3) (ret := some .int) qnk (by decide) rfl rfl (Nat.le_of_ble_eq_true rfl) ?_
  intro k g hp
  have hno : aFinding e x y = -1 → ew_E qS w 3 k 17 [some (.inr 0), some (.inl x), some (.inl y)] [] sg := by
    intro ee
    refine ew_iconst g qd_X_finding_17 ic_m1 ?_
    refine ew_iret g qd_X_finding_18 hp ?_
    rw [ee]
    exact ⟨rfl, rfl⟩
  refine ew_iload_n g qd_X_finding_0 rfl ?_
  refine ew_iconst g qd_X_finding_1 ic_5 ?_
  refine ew_callS g qd_X_finding_2 (k_X_isBelow w k.2.1 sg _ _) qs_X_38 rfl rfl (Nat.le_of_ble_eq_true rfl) ⟨rfl, rfl, by decide, by decide⟩ (fun v sg1 hv => ?_)
  obtain ⟨rfl, rfl⟩ := hv
  cases hx : inR x 5 with
  | none =>
    refine en_top (show _ = nI 0 by rw [inR_b (by decide), hx]) ?_
    refine en_if_eq g qd_X_finding_5 (tgt := 17) (by decide) (by omega) (fun hz => ?_) (fun hz => ?_)
    · exact hno (by unfold aFinding; rw [hx]; cases e <;> rfl)
    · exact absurd rfl hz
  | some kd =>
    obtain ⟨k1, rfl⟩ := inR_s (by decide) hx
    refine en_top (show _ = nI 1 by rw [inR_b (by decide), hx]) ?_
    refine en_if_eq g qd_X_finding_5 (tgt := 17) (by decide) (by omega) (fun hz => ?_) (fun hz => ?_)
    · exact absurd hz (by decide)
    · refine ew_iload_n g qd_X_finding_8 rfl ?_
      refine ew_bipush g qd_X_finding_9 bp_32 ?_
      refine ew_callS g qd_X_finding_11 (k_X_isBelow w k.2.1 sg1 _ _) qs_X_38 rfl rfl (Nat.le_of_ble_eq_true rfl) ⟨rfl, rfl, by decide, by decide⟩ (fun v sg2 hv => ?_)
      obtain ⟨rfl, rfl⟩ := hv
      cases hy : inR y 32 with
      | none =>
        refine en_top (show _ = nI 0 by rw [inR_b (by decide), hy]) ?_
        refine en_if_ne g qd_X_finding_14 (tgt := 19) (by decide) (by omega) (fun hz2 => ?_) (fun hz2 => ?_)
        · exact absurd rfl hz2
        · exact hno (by unfold aFinding; rw [hx, hy]; cases e <;> rfl)
      | some i =>
        obtain ⟨i1, rfl⟩ := inR_s (by decide) hy
        refine en_top (show _ = nI 1 by rw [inR_b (by decide), hy]) ?_
        refine en_if_ne g qd_X_finding_14 (tgt := 19) (by decide) (by omega) (fun hz2 => ?_) (fun hz2 => ?_)
        · refine ew_aload_n g qd_X_finding_19 rfl ?_
          refine ew_getR g qd_X_finding_20 qf_X_19 (by decide) rfl rfl ?_
          refine ew_getR g qd_X_finding_23 qf_X_116 (by decide) rfl rfl ?_
          refine ew_iload_n g qd_X_finding_26 rfl ?_
          refine ew_iload_n g qd_X_finding_27 rfl ?_
          refine ew_callV g qd_X_finding_28 (k_T_leastOf w k.2.1 sg2 k1 i1) qv_X_120 (by decide) rfl ⟨_, _, rfl⟩ rfl rfl (Nat.le_of_ble_eq_true rfl) ⟨rfl, rfl, by decide, by decide⟩ (fun v sg3 hv => ?_)
          obtain ⟨rfl, rfl⟩ := hv
          refine ew_iret g qd_X_finding_31 hp ?_
          refine ⟨?_, rfl⟩
          unfold aFinding
          rw [hx, hy]
          cases e with
          | none => rw [h.2 _ (by omega)]
          | some q => rw [h.2.2.2.2.2 kd i k1 i1]
        · exact absurd hz2 (by decide)
theorem k_X_risk (w : WC) (l : Launch) (sg : SG) {e : Option XP} (h : xEx sg e) (x y z : Int32) : ew_M qS w l qy_X_risk qw_X_risk qr_X_risk [.inr 0, .inl x, .inl y, .inl z] sg (fun v sg' => v = some (.inl (aRisk e x y z)) ∧ sg' = sg) := by
  obtain ⟨hc, hn⟩ := xEx_n h
  refine ew_entry (ws' := qwg) (own := qR_X) (cc := qc_X_risk) (nL := 5) (ret := some .int) qnk (by decide) rfl rfl (Nat.le_of_ble_eq_true rfl) ?_
  intro k g hp
  have hno : ∀ x3 : Option MV, aRisk e x y z = -1 → ew_E qS w 5 k 36 [some (.inr 0), some (.inl x), some (.inl y), some (.inl z), x3] [] sg := by
    intro x3 ee
    refine ew_iconst g qd_X_risk_36 ic_m1 ?_
    refine ew_iret g qd_X_risk_37 hp ?_
    rw [ee]
    exact ⟨rfl, rfl⟩
  refine ew_aload_n g qd_X_risk_0 rfl ?_
  refine ew_getR g qd_X_risk_1 qf_X_19 (by decide) rfl rfl ?_
  refine ew_getR g qd_X_risk_4 qf_X_73 (by decide) rfl rfl ?_
  refine ew_iload_n g qd_X_risk_7 rfl ?_
  refine ew_callV g qd_X_risk_8 (k_P_rowOf w k.2.1 sg x hc hn) qv_X_77 (by decide) rfl ⟨_, _, rfl⟩ rfl rfl (Nat.le_of_ble_eq_true rfl) ⟨rfl, rfl, by decide, by decide⟩ (fun v sg1 hv => ?_)
  obtain ⟨rfl, rfl⟩ := hv
  cases hx : inR x (eN e) with
  | none =>
    refine en_top (show _ = (-1 : Int32) from rfl) ?_
    refine ew_istore g qd_X_risk_11 (by decide) ?_
    refine ew_iload g qd_X_risk_13 rfl ?_
    refine ew_iconst g qd_X_risk_15 ic_m1 ?_
    refine ew_icmp_eq g qd_X_risk_16 (tgt := 36) (by decide) (fun hz => ?_) (fun hz => ?_)
    · exact hno _ (by unfold aRisk; rw [aPath_n _ hx])
    · exact absurd rfl hz
  | some p =>
    obtain ⟨q, rfl, hQ, hp2, hA⟩ := aPath_s h hx
    obtain ⟨ka, kb, y1, y2, y3⟩ := hQ.2.2.2.2.1
    obtain ⟨r, hr1, hr2, hr3, hr4, hr5, hr6, hr7, hr8, hr9⟩ := y3 p hp2
    refine en_top (show _ = nI r from hr1) ?_
    refine ew_istore g qd_X_risk_11 (by decide) ?_
    refine ew_iload g qd_X_risk_13 rfl ?_
    refine ew_iconst g qd_X_risk_15 ic_m1 ?_
    refine ew_icmp_eq g qd_X_risk_16 (tgt := 36) (by decide) (fun hz => ?_) (fun hz => ?_)
    · exact absurd hz (nI_m1 (by omega))
    · refine ew_iload_n g qd_X_risk_19 rfl ?_
      refine ew_iconst g qd_X_risk_20 ic_5 ?_
      refine ew_callS g qd_X_risk_21 (k_X_isBelow w k.2.1 sg1 _ _) qs_X_38 rfl rfl (Nat.le_of_ble_eq_true rfl) ⟨rfl, rfl, by decide, by decide⟩ (fun v sg2 hv => ?_)
      obtain ⟨rfl, rfl⟩ := hv
      cases hy : inR y 5 with
      | none =>
        refine en_top (show _ = nI 0 by rw [inR_b (by decide), hy]) ?_
        refine en_if_eq g qd_X_risk_24 (tgt := 36) (by decide) (by omega) (fun hz2 => ?_) (fun hz2 => ?_)
        · exact hno _ (by unfold aRisk; rw [hA]; simp only [hy])
        · exact absurd rfl hz2
      | some kd =>
        obtain ⟨k1, rfl⟩ := inR_s (by decide) hy
        refine en_top (show _ = nI 1 by rw [inR_b (by decide), hy]) ?_
        refine en_if_eq g qd_X_risk_24 (tgt := 36) (by decide) (by omega) (fun hz2 => ?_) (fun hz2 => ?_)
        · exact absurd hz2 (by decide)
        · refine ew_iload_n g qd_X_risk_27 rfl ?_
          refine ew_bipush g qd_X_risk_28 bp_32 ?_
          refine ew_callS g qd_X_risk_30 (k_X_isBelow w k.2.1 sg2 _ _) qs_X_38 rfl rfl (Nat.le_of_ble_eq_true rfl) ⟨rfl, rfl, by decide, by decide⟩ (fun v sg3 hv => ?_)
          obtain ⟨rfl, rfl⟩ := hv
          cases hzz : inR z 32 with
          | none =>
            refine en_top (show _ = nI 0 by rw [inR_b (by decide), hzz]) ?_
            refine en_if_ne g qd_X_risk_33 (tgt := 38) (by decide) (by omega) (fun hz3 => ?_) (fun hz3 => ?_)
            · exact absurd rfl hz3
            · exact hno _ (by unfold aRisk; rw [hA]; simp only [hy, hzz])
          | some i =>
            obtain ⟨i1, rfl⟩ := inR_s (by decide) hzz
            refine en_top (show _ = nI 1 by rw [inR_b (by decide), hzz]) ?_
            refine en_if_ne g qd_X_risk_33 (tgt := 38) (by decide) (by omega) (fun hz3 => ?_) (fun hz3 => ?_)
            · refine ew_aload_n g qd_X_risk_38 rfl ?_
              refine ew_getR g qd_X_risk_39 qf_X_19 (by decide) rfl rfl ?_
              refine ew_getR g qd_X_risk_42 qf_X_116 (by decide) rfl rfl ?_
              refine ew_iload g qd_X_risk_45 rfl ?_
              refine ew_iload_n g qd_X_risk_47 rfl ?_
              refine ew_iload_n g qd_X_risk_48 rfl ?_
              refine ew_callV g qd_X_risk_49 (k_T_countOf w k.2.1 sg3 hr2 k1 i1) qv_X_125 (by decide) rfl ⟨_, _, rfl⟩ rfl rfl (Nat.le_of_ble_eq_true rfl) ⟨rfl, rfl, by decide, by decide⟩ (fun v sg4 hv => ?_)
              obtain ⟨rfl, rfl⟩ := hv
              refine ew_iret g qd_X_risk_52 hp ?_
              refine ⟨?_, rfl⟩
              unfold aRisk
              rw [hA, hr9 kd i k1 i1]
              simp only [hy, hzz]
            · exact absurd hz3 (by decide)
theorem k_X_replayed (w : WC) (l : Launch) (sg : SG) {a : AS} (h : xS sg a) (x : Int32) : ew_M qS w l qy_X_replayed qw_X_replayed qr_X_replayed [.inr 0, .inl x] sg (fun v sg' => v = some (.inl (aReplayed a x)) ∧ sg' = sg) := by
  have h5 := h.2.2.2.2
  refine ew_entry (ws' := qwg) (own := qR_X) (cc := qc_X_replayed) (nL := 2) (ret := some .int) qnk (by decide) rfl rfl (Nat.le_of_ble_eq_true rfl) ?_
  intro k g hp
  have hno : aReplayed a x = -1 → ew_E qS w 2 k 25 [some (.inr 0), some (.inl x)] [] sg := by
    intro ee
    refine ew_iconst g qd_X_replayed_25 ic_m1 ?_
    refine ew_iret g qd_X_replayed_26 hp ?_
    rw [ee]
    exact ⟨rfl, rfl⟩
  cases hrp : a.2.2.2.2 with
  | none =>
    rw [hrp] at h5
    have h5 : sg 0 3 = bI false := h5
    refine ew_aload_n g qd_X_replayed_0 rfl ?_
    refine ew_get g qd_X_replayed_1 qf_X_27 (by decide) rfl rfl ?_
    refine en_top (h5.trans bI_f) ?_
    refine en_if_eq g qd_X_replayed_4 (tgt := 25) (by decide) (by omega) (fun hz => ?_) (fun hz => ?_)
    · exact hno (by unfold aReplayed; rw [hrp])
    · exact absurd rfl hz
  | some f =>
    rw [hrp] at h5
    have h5 : sg 0 3 = bI true ∧ ∀ i, i < 7 → sg 40 i = nI (f i) := h5
    refine ew_aload_n g qd_X_replayed_0 rfl ?_
    refine ew_get g qd_X_replayed_1 qf_X_27 (by decide) rfl rfl ?_
    refine en_top (h5.1.trans bI_t) ?_
    refine en_if_eq g qd_X_replayed_4 (tgt := 25) (by decide) (by omega) (fun hz => ?_) (fun hz => ?_)
    · exact absurd hz (by decide)
    · refine ew_iload_n g qd_X_replayed_7 rfl ?_
      refine ew_bipush g qd_X_replayed_8 bp_7 ?_
      refine ew_callS g qd_X_replayed_10 (k_X_isBelow w k.2.1 sg _ _) qs_X_38 rfl rfl (Nat.le_of_ble_eq_true rfl) ⟨rfl, rfl, by decide, by decide⟩ (fun v sg1 hv => ?_)
      obtain ⟨rfl, rfl⟩ := hv
      cases hx : inR x 7 with
      | none =>
        refine en_top (show _ = nI 0 by rw [inR_b (by decide), hx]) ?_
        refine en_if_eq g qd_X_replayed_13 (tgt := 25) (by decide) (by omega) (fun hz2 => ?_) (fun hz2 => ?_)
        · exact hno (by unfold aReplayed; rw [hrp, hx])
        · exact absurd rfl hz2
      | some i =>
        obtain ⟨i1, rfl⟩ := inR_s (by decide) hx
        refine en_top (show _ = nI 1 by rw [inR_b (by decide), hx]) ?_
        refine en_if_eq g qd_X_replayed_13 (tgt := 25) (by decide) (by omega) (fun hz2 => ?_) (fun hz2 => ?_)
        · exact absurd hz2 (by decide)
        · refine ew_aload_n g qd_X_replayed_16 rfl ?_
          refine ew_getR g qd_X_replayed_17 qf_X_23 (by decide) rfl rfl ?_
          refine ew_iload_n g qd_X_replayed_20 rfl ?_
          refine en_iald g qd_X_replayed_21 (by decide) rfl (by omega) (by omega) (h5.2 i i1) ?_
          refine ew_goto g qd_X_replayed_22 (tgt := 26) (by decide) ?_
          refine ew_iret g qd_X_replayed_26 hp ?_
          refine ⟨?_, rfl⟩
          unfold aReplayed
          rw [hrp, hx]
theorem k_X_keepReplay (w : WC) (l : Launch) (sg : SG) {r : PM} {inp cal : Nat} (hm : xMach sg r inp cal) : ew_M qS w l qy_X_keepReplay qw_X_keepReplay qr_X_keepReplay [.inr 0] sg (fun v sg' => v = none ∧ xRp sg' (some (rpOf r)) ∧ (∀ o, o ≠ 0 → o ≠ 40 → sg' o = sg o) ∧ sg' 0 4 = sg 0 4 ∧ sg' 0 5 = sg 0 5) := by
  have hcc := hm.1.2.2.1
  refine ew_entry (ws' := qwg) (own := qR_X) (cc := qc_X_keepReplay) (nL := 2) (ret := none) qnk (by decide) rfl rfl (Nat.le_of_ble_eq_true rfl) ?_
  intro k g hp
  have key : ∀ (d i : Nat) (sg1 : SG), i + d = 5 → (∀ o, o ≠ 40 → sg1 o = sg o) → (∀ j, j < i → sg1 40 j = nI (pCe r j)) → ew_E qS w 2 k 2 [some (.inr 0), some (.inl (nI i))] [] sg1 := by
    intro d
    induction d with
    | zero =>
      intro i sg1 hi hf hr
      have e5 : i = 5 := by omega
      subst e5
      refine ew_iload_n g qd_X_keepReplay_2 rfl ?_
      refine ew_iconst g qd_X_keepReplay_3 ic_5 ?_
      refine en_ge g qd_X_keepReplay_4 (tgt := 30) (by decide) (by omega) (by omega) (fun hz => ?_) (fun hz => ?_)
      · refine ew_aload_n g qd_X_keepReplay_30 rfl ?_
        refine ew_getR g qd_X_keepReplay_31 qf_X_23 (by decide) rfl rfl ?_
        refine ew_iconst g qd_X_keepReplay_34 ic_5 ?_
        refine ew_aload_n g qd_X_keepReplay_35 rfl ?_
        refine ew_getR g qd_X_keepReplay_36 qf_X_12 (by decide) rfl rfl ?_
        refine ew_get g qd_X_keepReplay_39 qf_X_142 (by decide) rfl rfl ?_
        refine en_top (show sg1 1 4 = nI (pGa r) by rw [hf 1 (by decide)]; exact hm.2.2.2.2.1) ?_
        refine en_iast g qd_X_keepReplay_42 (by decide) rfl (by omega) (by omega) ?_
        refine ew_aload_n g qd_X_keepReplay_43 rfl ?_
        refine ew_getR g qd_X_keepReplay_44 qf_X_23 (by decide) rfl rfl ?_
        refine ew_bipush g qd_X_keepReplay_47 bp_6 ?_
        refine ew_aload_n g qd_X_keepReplay_49 rfl ?_
        refine ew_getR g qd_X_keepReplay_50 qf_X_12 (by decide) rfl rfl ?_
        refine ew_get g qd_X_keepReplay_53 qf_X_145 (by decide) rfl rfl ?_
        refine en_top (show sup sg1 40 5 (nI (pGa r)) 1 2 = nI (pDe r) by rw [sup_n (by decide), hf 1 (by decide)]; exact hm.2.1) ?_
        refine en_iast g qd_X_keepReplay_56 (by decide) rfl (by omega) (by omega) ?_
        refine ew_aload_n g qd_X_keepReplay_57 rfl ?_
        refine ew_iconst g qd_X_keepReplay_58 ic_1 ?_
        refine en_top bI_t.symm ?_
        refine ew_put g qd_X_keepReplay_59 qf_X_27 (qp_X_hasReplay _) (by decide) rfl rfl ?_
        refine ew_vret g qd_X_keepReplay_62 hp ?_
        refine ⟨rfl, ⟨by rw [sup_s, pk_us], fun i hi => ?_⟩, fun o h1 h2 => by rw [sup_n h1, sup_n h2, sup_n h2]; exact hf o h2, ?_, ?_⟩
        · rw [sup_n (by decide), sup_s, sup_s]
          unfold rpOf upd
          by_cases e6 : i = 6
          · subst e6; rfl
          · rw [if_neg e6]
            by_cases e5 : i = 5
            · subst e5; rfl
            · rw [if_neg e5, if_pos (by omega)]
              exact hr i (by omega)
        · rw [sup_s, pk_un (by decide), sup_n (by decide), sup_n (by decide), hf 0 (by decide)]
        · rw [sup_s, pk_un (by decide), sup_n (by decide), sup_n (by decide), hf 0 (by decide)]
      · omega
    | succ d ih =>
      intro i sg1 hi hf hr
      refine ew_iload_n g qd_X_keepReplay_2 rfl ?_
      refine ew_iconst g qd_X_keepReplay_3 ic_5 ?_
      refine en_ge g qd_X_keepReplay_4 (tgt := 30) (by decide) (by omega) (by omega) (fun hz => ?_) (fun hz => ?_)
      · omega
      · refine ew_aload_n g qd_X_keepReplay_7 rfl ?_
        refine ew_getR g qd_X_keepReplay_8 qf_X_23 (by decide) rfl rfl ?_
        refine ew_iload_n g qd_X_keepReplay_11 rfl ?_
        refine ew_aload_n g qd_X_keepReplay_12 rfl ?_
        refine ew_getR g qd_X_keepReplay_13 qf_X_12 (by decide) rfl rfl ?_
        refine ew_get g qd_X_keepReplay_16 qf_X_133 (by decide) rfl rfl ?_
        refine en_top (show sg1 1 3 = nI (pk5 (pCe r)) by rw [hf 1 (by decide)]; exact hm.2.2.2.1) ?_
        refine ew_iload_n g qd_X_keepReplay_19 rfl ?_
        refine ew_callS g qd_X_keepReplay_20 (k_X_wordOf w k.2.1 sg1 _ _) qs_X_110 rfl rfl (Nat.le_of_ble_eq_true rfl) ⟨rfl, rfl, by decide, by decide⟩ (fun v sg2 hv => ?_)
        obtain ⟨rfl, rfl⟩ := hv
        refine en_top (show _ = nI (pCe r i) from wOf_c hcc (by omega)) ?_
        refine en_iast g qd_X_keepReplay_23 (by decide) rfl (by omega) (by omega) ?_
        refine ew_iinc g qd_X_keepReplay_24 (by decide) rfl (ii_1 _) ?_
        refine ew_goto g qd_X_keepReplay_27 (tgt := 2) (by decide) ?_
        refine ih (i + 1) _ (by omega) (fun o ho => by rw [sup_n ho]; exact hf o ho) (fun j hj => ?_)
        rw [sup_s]
        by_cases e : j = i
        · rw [e, pk_us]
        · rw [pk_un e]; exact hr j (by omega)
  refine ew_iconst g qd_X_keepReplay_0 ic_0 ?_
  refine ew_istore_n g qd_X_keepReplay_1 (by decide) ?_
  exact key 5 0 sg rfl (fun _ _ => rfl) (fun j hj => absurd hj (Nat.not_lt_zero j))
theorem k_X_replay (w : WC) (l : Launch) (sg : SG) {a : AS} (h : xS sg a) (x y : Int32) : ew_M qS w l qy_X_replay qw_X_replay qr_X_replay [.inr 0, .inl x, .inl y] sg (fun v sg' => v = some (.inl (aReplay a x y).1) ∧ xS sg' (aReplay a x y).2 ∧ xFo sg sg') := by
  obtain ⟨h1, h2, h3, h4, h5⟩ := id h
  have hqk : ∀ n, n = 1 ∨ n = 2 → qOK (aXp a n) := fun n hn => ⟨h1.1, h2.2, h3.2.2, hn⟩
  refine ew_entry (ws' := qwg) (own := qR_X) (cc := qc_X_replay) (nL := 5) (ret := some .int) qnk (by decide) rfl rfl (Nat.le_of_ble_eq_true rfl) ?_
  intro k g hp
  have hno : aReplay a x y = (-1, a) → ew_E qS w 5 k 30 [some (.inr 0), some (.inl x), some (.inl y), none, none] [] sg := by
    intro e
    refine ew_iconst g qd_X_replay_30 ic_m1 ?_
    refine ew_iret g qd_X_replay_31 hp ?_
    rw [e]
    exact ⟨rfl, h, fun _ _ => rfl⟩
  -- the last transaction, and the end
  have hlast : ∀ (n m : Nat) (c : Nat → Nat) (dead : Bool) (sg1 : SG), x = nI n → y = nI m → m < 4096 → aReplay a x y = aRep a n m → xL (aXp a n) m = pTx a.1 a.2.2.1 (m % 64) c dead → c16 c → xFm sg sg1 → ew_E qS w 5 k 88 [some (.inr 0), some (.inl (nI n)), some (.inl (nI m)), some (.inl (nI (pk5 c))), some (.inl (bI dead))] [] sg1 := by
    intro n m c dead sg1 hx hy hm4 eR eL hc hfm
    refine ew_aload_n g qd_X_replay_88 rfl ?_
    refine ew_getR g qd_X_replay_89 qf_X_12 (by decide) rfl rfl ?_
    refine ew_iload_n g qd_X_replay_92 rfl ?_
    refine ew_bipush g qd_X_replay_93 bp_64 ?_
    refine ew_irem g qd_X_replay_95 (by decide +kernel) ?_
    refine en_top (pk_rem (by omega) (by decide) (by decide)) ?_
    refine ew_iload_n g qd_X_replay_96 rfl ?_
    refine ew_iload g qd_X_replay_97 rfl ?_
    refine ew_aload_n g qd_X_replay_99 rfl ?_
    refine ew_get g qd_X_replay_100 qf_X_35 (by decide) rfl rfl ?_
    refine en_top (show sg1 0 5 = nI a.2.2.1 by rw [hfm 0 (by decide) (by decide) (by decide) (by decide)]; exact h3.1) ?_
    refine ew_callV g qd_X_replay_103 (k_K_transact w k.2.1 sg1 (num := m % 64) (hfm.code h1) (Nat.mod_lt _ (by decide)) h3.2.2 hc) qv_X_129 (by decide) rfl ⟨_, _, rfl⟩ rfl rfl (Nat.le_of_ble_eq_true rfl) ⟨rfl, rfl, by decide, by decide⟩ (fun v sg2 hv => ?_)
    rw [← eL] at hv
    obtain ⟨rfl, hm2, hw2, hf2, h52⟩ := hv
    refine ew_aload_n g qd_X_replay_106 rfl ?_
    refine ew_callV g qd_X_replay_107 (k_X_keepReplay w k.2.1 sg2 hm2) qv_X_139 (by decide) rfl ⟨_, _, rfl⟩ rfl rfl (Nat.le_of_ble_eq_true rfl) ⟨rfl, rfl, by decide, by decide⟩ (fun v sg3 hv => ?_)
    obtain ⟨rfl, hrp, hf3, h04, h05⟩ := hv
    refine ew_aload_n g qd_X_replay_110 rfl ?_
    refine ew_getR g qd_X_replay_111 qf_X_12 (by decide) rfl rfl ?_
    refine ew_get g qd_X_replay_114 qf_X_136 (by decide) rfl rfl ?_
    refine en_top (show sg3 1 6 = nI (pHo (xL (aXp a n) m)) by rw [hf3 1 (by decide) (by decide)]; exact hm2.2.2.2.2.2.2.2.2.2.2) ?_
    refine ew_iret g qd_X_replay_117 hp ?_
    rw [eR]
    have hfs : ∀ o, o ≠ 0 → o ≠ 1 → o ≠ 6 → o ≠ 7 → o ≠ 8 → o ≠ 40 → sg3 o = sg o := fun o q0 q1 q6 q7 q8 q40 => by rw [hf3 o q0 q40, hf2 o q1 q6 q7 q8, hfm o q1 q6 q7 q8]
    have h0 : sg2 0 = sg 0 := by rw [hf2 0 (by decide) (by decide) (by decide) (by decide), hfm 0 (by decide) (by decide) (by decide) (by decide)]
    refine ⟨rfl, ⟨?_, ⟨by rw [h04, h0]; exact h2.1, h2.2⟩, ⟨by rw [h05, h0]; exact h3.1, h3.2⟩, xEx_fr h4 (fun o a b => hfs o (by omega) (by omega) (by omega) (by omega) (by omega) (by omega)), hrp⟩, fun o ho => hfs o (by omega) (by omega) (by omega) (by omega) (by omega) (by omega)⟩
    show xCode sg3 a.1
    unfold xCode at h1 ⊢
    rw [hfs 2 (by decide) (by decide) (by decide) (by decide) (by decide) (by decide), hfs 3 (by decide) (by decide) (by decide) (by decide) (by decide) (by decide), hfs 4 (by decide) (by decide) (by decide) (by decide) (by decide) (by decide), hfs 5 (by decide) (by decide) (by decide) (by decide) (by decide) (by decide)]
    exact h1
  have h32 : ∀ n m : Nat, n = 1 ∨ n = 2 → x = nI n → y = nI m → m < xN (aXp a n) → aReplay a x y = aRep a n m → ew_E qS w 5 k 32 [some (.inr 0), some (.inl (nI n)), some (.inl (nI m)), none, none] [] sg := by
    intro n m hn hx hy hm eR
    have hm4 := Nat.lt_of_lt_of_le hm (xN_le _)
    refine ew_aload_n g qd_X_replay_32 rfl ?_
    refine ew_callV g qd_X_replay_33 (k_X_firstState w k.2.1 sg h2.1 h2.2) qv_X_58 (by decide) rfl ⟨_, _, rfl⟩ rfl rfl (Nat.le_of_ble_eq_true rfl) ⟨rfl, rfl, by decide, by decide⟩ (fun v sg1 hv => ?_)
    obtain ⟨rfl, rfl⟩ := hv
    refine en_top (show _ = nI (pk5 (xc0 a.2.1)) by rw [xc0_pk]) ?_
    rcases hn with rfl | rfl
    · refine ew_istore_n g qd_X_replay_36 (by decide) ?_
      refine ew_iconst g qd_X_replay_37 ic_0 ?_
      refine ew_istore g qd_X_replay_38 (by decide) ?_
      refine ew_iload_n g qd_X_replay_40 rfl ?_
      refine ew_iconst g qd_X_replay_41 ic_2 ?_
      refine en_ne g qd_X_replay_42 (tgt := 88) (by decide) (by omega) (by omega) (fun hz => ?_) (fun hz => ?_)
      · exact hlast 1 m (xc0 a.2.1) false sg1 hx hy hm4 eR rfl (xc0_16 h2.2) (xFm.rf sg1)
      · exact absurd hz (by decide)
    · refine ew_istore_n g qd_X_replay_36 (by decide) ?_
      refine ew_iconst g qd_X_replay_37 ic_0 ?_
      refine ew_istore g qd_X_replay_38 (by decide) ?_
      refine ew_iload_n g qd_X_replay_40 rfl ?_
      refine ew_iconst g qd_X_replay_41 ic_2 ?_
      refine en_ne g qd_X_replay_42 (tgt := 88) (by decide) (by omega) (by omega) (fun hz => ?_) (fun hz => ?_)
      · exact absurd rfl hz
      · have hxf : pTx a.1 a.2.2.1 (m / 64) (xc0 a.2.1) false = xF (aXp a 2) (m / 64) := by
          show _ = pTx a.1 a.2.2.1 (m / 64 % 64) (xc0 a.2.1) false
          rw [Nat.mod_eq_of_lt (by omega)]
        refine ew_aload_n g qd_X_replay_45 rfl ?_
        refine ew_getR g qd_X_replay_46 qf_X_12 (by decide) rfl rfl ?_
        refine ew_iload_n g qd_X_replay_49 rfl ?_
        refine ew_bipush g qd_X_replay_50 bp_64 ?_
        refine ew_idiv g qd_X_replay_52 (by decide +kernel) ?_
        refine en_top (pk_div (by omega) (by decide) (by decide)) ?_
        refine ew_iload_n g qd_X_replay_53 rfl ?_
        refine ew_iconst g qd_X_replay_54 ic_0 ?_
        refine en_top bI_f.symm ?_
        refine ew_aload_n g qd_X_replay_55 rfl ?_
        refine ew_get g qd_X_replay_56 qf_X_35 (by decide) rfl rfl ?_
        refine en_top h3.1 ?_
        refine ew_callV g qd_X_replay_59 (k_K_transact w k.2.1 sg1 (num := m / 64) (dead := false) h1 (by omega) h3.2.2 (xc0_16 h2.2)) qv_X_129 (by decide) rfl ⟨_, _, rfl⟩ rfl rfl (Nat.le_of_ble_eq_true rfl) ⟨rfl, rfl, by decide, by decide⟩ (fun v sg2 hv => ?_)
        rw [hxf] at hv
        obtain ⟨rfl, hm2, hw2, hf2, h52⟩ := hv
        have hst := hm2.2.2.2.1
        have hen := hm2.2.2.2.2.2.2.2.2.2.2
        have eL : xL (aXp a 2) m = pTx a.1 a.2.2.1 (m % 64) (pCe (xF (aXp a 2) (m / 64))) (decide (pHo (xF (aXp a 2) (m / 64)) = 3)) := rfl
        refine ew_aload_n g qd_X_replay_62 rfl ?_
        refine ew_getR g qd_X_replay_63 qf_X_12 (by decide) rfl rfl ?_
        refine ew_get g qd_X_replay_66 qf_X_133 (by decide) rfl rfl ?_
        refine en_top hst ?_
        refine ew_istore_n g qd_X_replay_69 (by decide) ?_
        refine ew_aload_n g qd_X_replay_70 rfl ?_
        refine ew_getR g qd_X_replay_71 qf_X_12 (by decide) rfl rfl ?_
        refine ew_get g qd_X_replay_74 qf_X_136 (by decide) rfl rfl ?_
        refine en_top hen ?_
        refine ew_iconst g qd_X_replay_77 ic_3 ?_
        refine en_ne g qd_X_replay_78 (tgt := 85) (by decide) (by omega) (by omega) (fun h3n => ?_) (fun h3n => ?_)
        · rw [decide_eq_false h3n] at eL
          refine ew_iconst g qd_X_replay_85 ic_0 ?_
          refine en_top bI_f.symm ?_
          refine ew_istore g qd_X_replay_86 (by decide) ?_
          exact hlast 2 m _ false sg2 hx hy hm4 eR eL hm2.1.2.2.1 hf2
        · rw [decide_eq_true h3n] at eL
          refine ew_iconst g qd_X_replay_81 ic_1 ?_
          refine en_top bI_t.symm ?_
          refine ew_goto g qd_X_replay_82 (tgt := 86) (by decide) ?_
          refine ew_istore g qd_X_replay_86 (by decide) ?_
          exact hlast 2 m _ true sg2 hx hy hm4 eR eL hm2.1.2.2.1 hf2
  have h10 : ∀ n : Nat, n = 1 ∨ n = 2 → x = nI n → ew_E qS w 5 k 10 [some (.inr 0), some (.inl (nI n)), some (.inl y), none, none] [] sg := by
    intro n hn hx
    have hb : xN (aXp a n) < 2 ^ 31 := Nat.lt_of_le_of_lt (xN_le _) (by decide)
    have hR : aReplay a x y = match inR y (xN (aXp a n)) with | some m => aRep a n m | none => (-1, a) := by
      unfold aReplay
      rcases hn with rfl | rfl
      · rw [if_pos hx]; rfl
      · rw [if_neg (by rw [hx]; decide +kernel), if_pos hx]; rfl
    have h24 : ew_E qS w 5 k 24 [some (.inr 0), some (.inl (nI n)), some (.inl y), none, none] [.inl (nI (xN (aXp a n))), .inl y] sg := by
      refine ew_callS g qd_X_replay_24 (k_X_isBelow w k.2.1 sg _ _) qs_X_38 rfl rfl (Nat.le_of_ble_eq_true rfl) ⟨rfl, rfl, by decide, by decide⟩ (fun v sg1 hv => ?_)
      obtain ⟨rfl, rfl⟩ := hv
      cases hy : inR y (xN (aXp a n)) with
      | none =>
        refine en_top (show _ = nI 0 by rw [inR_b hb, hy]) ?_
        refine en_if_ne g qd_X_replay_27 (tgt := 32) (by decide) (by omega) (fun hz => ?_) (fun hz => ?_)
        · exact absurd rfl hz
        · rw [← hx]
          exact hno (by rw [hR, hy])
      | some m =>
        obtain ⟨m1, m2⟩ := inR_s hb hy
        refine en_top (show _ = nI 1 by rw [inR_b hb, hy]) ?_
        refine en_if_ne g qd_X_replay_27 (tgt := 32) (by decide) (by omega) (fun hz => ?_) (fun hz => ?_)
        · rw [m2]
          exact h32 n m hn hx m2 m1 (by rw [hR, hy])
        · exact absurd hz (by decide)
    rcases hn with rfl | rfl
    · refine ew_iload_n g qd_X_replay_10 rfl ?_
      refine ew_iload_n g qd_X_replay_11 rfl ?_
      refine ew_iconst g qd_X_replay_12 ic_1 ?_
      refine en_ne g qd_X_replay_13 (tgt := 21) (by decide) (by omega) (by omega) (fun hz => ?_) (fun hz => ?_)
      · exact absurd rfl hz
      · refine ew_bipush g qd_X_replay_16 bp_64 ?_
        refine ew_goto g qd_X_replay_18 (tgt := 24) (by decide) ?_
        exact h24
    · refine ew_iload_n g qd_X_replay_10 rfl ?_
      refine ew_iload_n g qd_X_replay_11 rfl ?_
      refine ew_iconst g qd_X_replay_12 ic_1 ?_
      refine en_ne g qd_X_replay_13 (tgt := 21) (by decide) (by omega) (by omega) (fun hz => ?_) (fun hz => ?_)
      · refine ew_sipush g qd_X_replay_21 sp_4096 ?_
        exact h24
      · exact absurd hz (by decide)
  refine ew_iload_n g qd_X_replay_0 rfl ?_
  refine ew_iconst g qd_X_replay_1 ic_1 ?_
  refine ew_icmp_eq g qd_X_replay_2 (tgt := 10) (by decide) (fun hx1 => ?_) (fun hx1 => ?_)
  · rw [hx1]
    exact h10 1 (Or.inl rfl) hx1
  · refine ew_iload_n g qd_X_replay_5 rfl ?_
    refine ew_iconst g qd_X_replay_6 ic_2 ?_
    refine ew_icmp_ne g qd_X_replay_7 (tgt := 30) (by decide) (fun hx2 => ?_) (fun hx2 => ?_)
    · exact hno (by unfold aReplay; rw [if_neg hx1, if_neg hx2])
    · rw [hx2]
      exact h10 2 (Or.inr rfl) hx2
