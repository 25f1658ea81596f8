/-! two transactions -/
noncomputable def tB (P : Prop) : Bool := @decide P (Classical.propDecidable P)
theorem tB_t {P : Prop} : tB P = true ↔ P := by
  unfold tB
  exact @decide_eq_true_iff P (Classical.propDecidable P)
theorem tB_f {P : Prop} (h : ¬ P) : tB P = false := by
  cases e : tB P with
  | false => rfl
  | true => exact absurd (tB_t.mp e) h
theorem tB_c {P Q : Prop} (h : P ↔ Q) : tB P = tB Q := by rw [propext h]
noncomputable def dF (q : XP) (f : Nat) : Nat → Bool := fun j => tB (j / 64 < 64 ∧ ∃ e, e < f ∧ alk (xF q e) (xF q (j / 64)))
noncomputable def dA (q : XP) (f al : Nat) : Nat → Bool := fun j => tB ((j / 64 < 64 ∧ ∃ e, e < f ∧ alk (xF q e) (xF q (j / 64))) ∨ (f ≤ j / 64 ∧ j / 64 < al ∧ alk (xF q f) (xF q (j / 64))))
theorem dA_0 (q : XP) (f : Nat) : dA q f f = dF q f := by
  funext j
  refine tB_c ⟨fun h => ?_, Or.inl⟩
  rcases h with h | h
  · exact h
  · omega
theorem dA_no {q : XP} {f al : Nat} (h : ¬ alk (xF q f) (xF q al)) : dA q f (al + 1) = dA q f al := by
  funext j
  refine tB_c ⟨fun z => ?_, fun z => ?_⟩
  · rcases z with z | ⟨z1, z2, z3⟩
    · exact Or.inl z
    · by_cases e : j / 64 = al
      · rw [e] at z3; exact absurd z3 h
      · exact Or.inr ⟨z1, by omega, z3⟩
  · rcases z with z | ⟨z1, z2, z3⟩
    · exact Or.inl z
    · exact Or.inr ⟨z1, by omega, z3⟩
theorem dA_yes {q : XP} {f al : Nat} (hf : f ≤ al) (h : alk (xF q f) (xF q al)) : dRng (dA q f al) (al * 64) 64 = dA q f (al + 1) := by
  funext j
  unfold dRng
  by_cases e : j / 64 = al
  · have h1 : dA q f (al + 1) j = true := tB_t.mpr (Or.inr ⟨by omega, by omega, by rw [e]; exact h⟩)
    rw [h1]
    have h2 : al * 64 ≤ j := by omega
    have h3 : j < al * 64 + 64 := by omega
    simp [h2, h3]
  · have h2 : ¬ (al * 64 ≤ j ∧ j < al * 64 + 64) := by omega
    have h3 : (decide (al * 64 ≤ j) && decide (j < al * 64 + 64)) = false := by
      cases hq : (decide (al * 64 ≤ j) && decide (j < al * 64 + 64)) with
      | false => rfl
      | true => simp at hq; exact absurd hq h2
    rw [h3, Bool.or_false]
    refine tB_c ⟨fun z => ?_, fun z => ?_⟩
    · rcases z with z | ⟨z1, z2, z3⟩
      · exact Or.inl z
      · exact Or.inr ⟨z1, by omega, z3⟩
    · rcases z with z | ⟨z1, z2, z3⟩
      · exact Or.inl z
      · exact Or.inr ⟨z1, by omega, z3⟩
theorem dA_end (q : XP) (f : Nat) : dA q f 64 = dF q (f + 1) := by
  funext j
  refine tB_c ⟨fun z => ?_, fun z => ?_⟩
  · rcases z with ⟨z1, e, z2, z3⟩ | ⟨z1, z2, z3⟩
    · exact ⟨z1, e, by omega, z3⟩
    · exact ⟨z2, f, by omega, z3⟩
  · obtain ⟨z1, e, z2, z3⟩ := z
    by_cases he : e = f
    · subst he
      by_cases hl : e ≤ j / 64
      · exact Or.inr ⟨hl, z1, z3⟩
      · exact Or.inl ⟨z1, j / 64, by omega, alk_rf _⟩
    · exact Or.inl ⟨z1, e, by omega, z3⟩
theorem dF_skip {q : XP} {f : Nat} (h : ∃ e, e < f ∧ alk (xF q e) (xF q f)) : dF q (f + 1) = dF q f := by
  obtain ⟨e0, h0, h1⟩ := h
  funext j
  refine tB_c ⟨fun z => ?_, fun z => ?_⟩
  · obtain ⟨z1, e, z2, z3⟩ := z
    by_cases he : e = f
    · subst he
      exact ⟨z1, e0, h0, alk_tr h1 z3⟩
    · exact ⟨z1, e, by omega, z3⟩
  · obtain ⟨z1, e, z2, z3⟩ := z
    exact ⟨z1, e, by omega, z3⟩
theorem dF_0 (q : XP) : dF q 0 = fun _ => false := by
  funext j
  exact tB_f (fun z => by obtain ⟨-, e, z, -⟩ := z; omega)
theorem dF_end {q : XP} (hn : xN q = 4096) : dF q 64 = fun j => decide (j < xN q) := by
  funext j
  rw [hn]
  by_cases h : j < 4096
  · have : dF q 64 j = true := tB_t.mpr ⟨by omega, j / 64, by omega, alk_rf _⟩
    rw [this]
    simp [h]
  · have : dF q 64 j = false := tB_f (fun z => by have := z.1; omega)
    rw [this]
    simp [h]
theorem bE_sg {sg sg' : SG} {b m : Nat} {ks : WKL} {r : PM} (h : bE sg b ks r m) (hf : ∀ o, b + 6 ≤ o → o ≤ b + 8 → sg' o = sg o) : bE sg' b ks r m := bE_fr (t := []) h (by simp) (by rw [hf _ (by omega) (by omega)]) (by rw [hf _ (by omega) (by omega)]) (fun kd _ => by rw [hf _ (by omega) (by omega)])
theorem pRel_kb {sg : SG} {ka kb kb' t : WKL} {rows : List KEY} {D : Nat → Bool} {ky : Nat → KEY} {cel : Nat → Nat → Nat} (h : pRel sg ka kb rows D ky cel) (hk : kb' = kb ++ t) (hn : kb'.Nodup) : pRel sg ka kb' rows D ky cel := by
  obtain ⟨r1, r2, r3, r4, r5, r6⟩ := h
  have up : ∀ (b : Nat) (q : List Nat × Nat), kb[b]? = some q → kb'[b]? = some q := fun b q hq => by
    rw [hk, List.getElem?_append_left (List.getElem?_eq_some_iff.mp hq).1]
    exact hq
  refine ⟨r1, r2, r3, r4, fun a b ha hb => ?_, fun r q hr => ?_⟩
  · rcases r5 a b ha hb with ⟨r, q1, q2, z1, z2, z3, z4⟩ | ⟨z1, z2⟩
    · exact Or.inl ⟨r, q1, q2, z1, up b q2 z2, z3, z4⟩
    · refine Or.inr ⟨fun q1 q2 y1 y2 hm => ?_, z2⟩
      obtain ⟨r, hr⟩ := List.getElem?_of_mem hm
      obtain ⟨-, ⟨b0, hb0, -⟩, -⟩ := r6 r _ hr
      have e := nod_at hn (up b0 _ hb0) y2
      subst e
      exact z1 q1 q2 y1 hb0 hm
  · obtain ⟨p1, ⟨b0, hb0, p2⟩, p3⟩ := r6 r q hr
    exact ⟨p1, ⟨b0, up b0 _ hb0, p2⟩, p3⟩
theorem k_E_countFollowersOfAllAlike (w : WC) (l : Launch) (sg : SG) {q : XP} {f : Nat} {ka kb : WKL} {rows : List KEY} (hq : qOK q) (hn2 : q.2.2.2 = 2) (hf : f < 64) (hfirst : ∀ e, e < f → ¬ alk (xF q e) (xF q f)) (hka : yW sg 10 ka) (hA : ∀ j, j < 64 → bE sg 10 ka (xF q j) j) (hkb : yW sg 19 kb) (hB : ∀ j, j < 64 → bE sg 19 kb (pTx q.1 q.2.2.1 j (pCe (xF q f)) (decide (pHo (xF q f) = 3))) j) (hP : pRel sg ka kb rows (dF q f) (xKey q) (xCel q)) (hT : ∀ kd, kd < 5 → tK1 sg rows (dF q f) (xKey q) (xFnd q) kd) : ew_M qS w l qy_E_countFollowersOfAllAlike qw_E_countFollowersOfAllAlike qr_E_countFollowersOfAllAlike [.inr 9, .inl (nI f)] sg (fun v sg' => ((v = some (.inl (nI 1)) ∧ ∃ rows', pRel sg' ka kb rows' (dF q (f + 1)) (xKey q) (xCel q) ∧ ∀ kd, kd < 5 → tK1 sg' rows' (dF q (f + 1)) (xKey q) (xFnd q) kd) ∨ (v = some (.inl (nI 0)) ∧ svBad q)) ∧ eFr sg sg') := by
  have hne : ¬ q.2.2.2 = 1 := by omega
  have hxN : xN q = 4096 := by unfold xN; rw [if_neg hne]
  have hk40 := hka.1
  refine ew_entry (ws' := qwg) (own := qR_E) (cc := qc_E_countFollowersOfAllAlike) (nL := 3) (ret := some .boolean) qnk (by decide) rfl rfl (Nat.le_of_ble_eq_true rfl) ?_
  intro k g hp
  have key : ∀ (d al : Nat) (sg1 : SG) (rows1 : List KEY), al + d = 64 → f ≤ al → pRel sg1 ka kb rows1 (dA q f al) (xKey q) (xCel q) → (∀ kd, kd < 5 → tK1 sg1 rows1 (dA q f al) (xKey q) (xFnd q) kd) → eFr sg sg1 → ew_E qS w 3 k 2 [some (.inr 9), some (.inl (nI f)), some (.inl (nI al))] [] sg1 := by
    intro d
    induction d with
    | zero =>
      intro al sg1 rows1 hal hfa hP1 hT1 hfr
      refine ew_iload_n g qd_E_countFollowersOfAllAlike_2 rfl ?_
      refine ew_bipush g qd_E_countFollowersOfAllAlike_3 bp_64 ?_
      refine en_ge g qd_E_countFollowersOfAllAlike_5 (tgt := 36) (by decide) (by omega) (by omega) (fun h => ?_) (fun h => ?_)
      · refine ew_iconst g qd_E_countFollowersOfAllAlike_36 ic_1 ?_
        refine ew_zret g qd_E_countFollowersOfAllAlike_37 hp (by first | exact bI_nar _ | decide +kernel) ?_
        have e : al = 64 := by omega
        subst e
        rw [dA_end] at hP1 hT1
        exact ⟨Or.inl ⟨rfl, rows1, hP1, hT1⟩, hfr⟩
      · omega
    | succ d ih =>
      intro al sg1 rows1 hal hfa hP1 hT1 hfr
      have hka1 : yW sg1 10 ka := yW_fr hka (fun o h1 h2 => hfr o (by omega))
      have hA1 : ∀ j, j < 64 → bE sg1 10 ka (xF q j) j := fun j hj => bE_sg (hA j hj) (fun o h1 h2 => hfr o (by omega))
      refine ew_iload_n g qd_E_countFollowersOfAllAlike_2 rfl ?_
      refine ew_bipush g qd_E_countFollowersOfAllAlike_3 bp_64 ?_
      refine en_ge g qd_E_countFollowersOfAllAlike_5 (tgt := 36) (by decide) (by omega) (by omega) (fun h => ?_) (fun h => ?_)
      · omega
      · refine ew_aload_n g qd_E_countFollowersOfAllAlike_8 rfl ?_
        refine ew_getR g qd_E_countFollowersOfAllAlike_9 qf_E_12 (by decide) rfl rfl ?_
        refine ew_iload_n g qd_E_countFollowersOfAllAlike_12 rfl ?_
        refine ew_iload_n g qd_E_countFollowersOfAllAlike_13 rfl ?_
        refine ew_callV g qd_E_countFollowersOfAllAlike_14 (k_B_areFollowedAlike w k.2.1 sg1 (b := 10) (Or.inl rfl) hka1 hf (show al < 64 by omega) (hA1 f hf) (hA1 al (by omega)) (xF_ok hq f).1 (xF_ok hq al).1) qv_E_82 (by decide) rfl ⟨_, _, rfl⟩ rfl rfl (Nat.le_of_ble_eq_true rfl) ⟨rfl, rfl, by decide, by decide⟩ (fun v sg2 hv => ?_)
        obtain ⟨hv, rfl⟩ := hv
        rcases hv with ⟨ha, rfl⟩ | ⟨ha, rfl⟩
        · refine en_if_eq g qd_E_countFollowersOfAllAlike_17 (tgt := 30) (by decide) (by omega) (fun hz => ?_) (fun hz => ?_)
          · exact absurd hz (by decide)
          · obtain ⟨⟨a0, ha0, h16⟩, -, h18⟩ := hA1 al (by omega)
            have ha40 := (List.getElem?_eq_some_iff.mp ha0).1
            obtain ⟨ecel, edead⟩ := alk_eq hq ha
            have hkb1 : yW sg2 19 kb := yW_fr hkb (fun o h1 h2 => hfr o (by omega))
            have hdiv : ∀ j, j < 64 → (al * 64 + j) / 64 = al ∧ (al * 64 + j) % 64 = j := fun j hj => by omega
            have hxl : ∀ j, j < 64 → xL q (al * 64 + j) = pTx q.1 q.2.2.1 j (pCe (xF q f)) (decide (pHo (xF q f) = 3)) := fun j hj => by
              unfold xL
              rw [if_neg hne, (hdiv j hj).1, (hdiv j hj).2, ← ecel, ← edead]
            have hDf : ∀ j, j < 64 → dA q f al (al * 64 + j) = false := fun j hj => tB_f (fun z => by
              rw [(hdiv j hj).1] at z
              rcases z with ⟨-, e, z1, z2⟩ | z
              · exact hfirst e z1 (alk_tr z2 (alk_sy ha))
              · omega)
            refine ew_aload_n g qd_E_countFollowersOfAllAlike_20 rfl ?_
            refine ew_iload_n g qd_E_countFollowersOfAllAlike_21 rfl ?_
            refine ew_callV g qd_E_countFollowersOfAllAlike_22 (k_E_countFollowers w k.2.1 sg2 (f := al) (a0 := a0) (fk := tK (xF q al)) (ff := pFo (xF q al)) (ka := ka) (kb := kb) (rows := rows1) (D := dA q f al) (ky := xKey q) (cel := xCel q) (fb := xFnd q) (R := fun j => pTx q.1 q.2.2.1 j (pCe (xF q f)) (decide (pHo (xF q f) = 3))) h h16 ha0 (by omega) hka.2.2.1 h18 hkb1 (fun j hj => bE_sg (hB j hj) (fun o h1 h2 => hfr o (by omega))) hP1 hT1 (fun j hj => (xL_ok hq j).1) (fun j hj => by unfold xKey; rw [if_neg hne, (hdiv j hj).1, hxl j hj]) (fun j hj => by unfold xCel; rw [hxl j hj]) (fun j hj kd i => by unfold xFnd; rw [if_neg hne, (hdiv j hj).1, hxl j hj]) hDf) qv_E_48 (by decide) rfl ⟨_, _, rfl⟩ rfl rfl (Nat.le_of_ble_eq_true rfl) ⟨rfl, rfl, by decide, by decide⟩ (fun v sg3 hv => ?_)
            rw [dA_yes hfa ha] at hv
            obtain ⟨hv, hfr3⟩ := hv
            rcases hv with ⟨rfl, rows', hP', hT'⟩ | ⟨rfl, big, b1, b2, b3⟩
            · refine en_if_ne g qd_E_countFollowersOfAllAlike_25 (tgt := 30) (by decide) (by omega) (fun hz2 => ?_) (fun hz2 => ?_)
              · refine ew_iinc g qd_E_countFollowersOfAllAlike_30 (by decide) rfl (ii_1 _) ?_
                refine ew_goto g qd_E_countFollowersOfAllAlike_33 (tgt := 2) (by decide) ?_
                exact ih (al + 1) sg3 rows' (by omega) (by omega) hP' hT' (hfr.tr hfr3)
              · exact absurd hz2 (by decide)
            · refine en_if_ne g qd_E_countFollowersOfAllAlike_25 (tgt := 30) (by decide) (by omega) (fun hz2 => ?_) (fun hz2 => ?_)
              · exact absurd rfl hz2
              · refine ew_iconst g qd_E_countFollowersOfAllAlike_28 ic_0 ?_
                refine ew_zret g qd_E_countFollowersOfAllAlike_29 hp (by first | exact bI_nar _ | decide +kernel) ?_
                refine ⟨Or.inr ⟨rfl, svBad_of (xKey q) id (fun m => rfl) b1 b2 (fun x hx => ?_)⟩, hfr.tr hfr3⟩
                obtain ⟨j, j1, j2, j3⟩ := b3 x hx
                exact ⟨j, by rw [hxN]; exact j1, j3⟩
        · refine en_if_eq g qd_E_countFollowersOfAllAlike_17 (tgt := 30) (by decide) (by omega) (fun hz => ?_) (fun hz => ?_)
          · refine ew_iinc g qd_E_countFollowersOfAllAlike_30 (by decide) rfl (ii_1 _) ?_
            refine ew_goto g qd_E_countFollowersOfAllAlike_33 (tgt := 2) (by decide) ?_
            rw [← dA_no ha] at hP1 hT1
            exact ih (al + 1) sg2 rows1 (by omega) (by omega) hP1 hT1 hfr
          · exact absurd rfl hz
  refine ew_iload_n g qd_E_countFollowersOfAllAlike_0 rfl ?_
  refine ew_istore_n g qd_E_countFollowersOfAllAlike_1 (by decide) ?_
  exact key (64 - f) f sg rows (by omega) (Nat.le_refl _) (by rw [dA_0]; exact hP) (by rw [dA_0]; exact hT) (eFr.rf sg)
theorem k_E_surveyPairs (w : WC) (l : Launch) (sg : SG) {q : XP} (hq : qOK q) (hn2 : q.2.2.2 = 2) (hcd : xCode sg q.1) : ew_M qS w l qy_E_surveyPairs qw_E_surveyPairs qr_E_surveyPairs [.inr 9, .inr 1, .inl (nI (pk5 (xc0 q.2.1))), .inl (nI q.2.2.1)] (fgE sg) (fun v sg' => ((v = some (.inl (nI 1)) ∧ svOK sg' q) ∨ (v = some (.inl (nI 0)) ∧ svBad q)) ∧ ∀ o, o = 0 ∨ (2 ≤ o ∧ o < 6) ∨ 39 < o → sg' o = sg o) := by
  have hne : ¬ q.2.2.2 = 1 := by omega
  have hxN : xN q = 4096 := by unfold xN; rw [if_neg hne]
  have code_of : ∀ {sg1 : SG}, (∀ o, o = 0 ∨ (2 ≤ o ∧ o < 6) ∨ 39 < o → sg1 o = sg o) → xCode sg1 q.1 := fun {sg1} hf => by
    unfold xCode at hcd ⊢
    rw [hf 2 (by omega), hf 3 (by omega), hf 4 (by omega), hf 5 (by omega)]
    exact hcd
  have hcd1 : xCode (sup (fgE sg) 9 4 (nI 2)) q.1 := code_of (fun o ho => by rw [sup_n (by omega), fgE_n (by omega)])
  have hy1 : yW (sup (fgE sg) 9 4 (nI 2)) 10 [] := fg_yW (by rw [sup_n (by decide)]; exact fgE_11 sg)
  have hmod : ∀ m, m < 64 → pTx q.1 q.2.2.1 m (xc0 q.2.1) false = xF q m := fun m hm => by unfold xF; rw [Nat.mod_eq_of_lt hm]
  refine ew_entry (ws' := qwg) (own := qR_E) (cc := qc_E_surveyPairs) (nL := 5) (ret := some .boolean) qnk (by decide) rfl rfl (Nat.le_of_ble_eq_true rfl) ?_
  intro k g hp
  have hmain : ∀ (ka : WKL) (d f : Nat) (sg1 : SG) (kb : WKL) (rows : List KEY), f + d = 64 → yW sg1 10 ka → (∀ j, j < 64 → bE sg1 10 ka (xF q j) j) → yW sg1 19 kb → (∀ x, x ∈ kb → ∃ j, j < xN q ∧ (xKey q j).2 = x) → pRel sg1 ka kb rows (dF q f) (xKey q) (xCel q) → (∀ kd, kd < 5 → tK1 sg1 rows (dF q f) (xKey q) (xFnd q) kd) → sg1 9 4 = nI 2 → (∀ o, o = 0 ∨ (2 ≤ o ∧ o < 6) ∨ 39 < o → sg1 o = sg o) → ew_E qS w 5 k 24 [some (.inr 9), some (.inr 1), some (.inl (nI (pk5 (xc0 q.2.1)))), some (.inl (nI q.2.2.1)), some (.inl (nI f))] [] sg1 := by
    intro ka d
    induction d with
    | zero =>
      intro f sg1 kb rows hfd hka hA hkb hre hP hT h94 hfo
      refine ew_iload g qd_E_surveyPairs_24 rfl ?_
      refine ew_bipush g qd_E_surveyPairs_26 bp_64 ?_
      refine en_ge g qd_E_surveyPairs_28 (tgt := 94) (by decide) (by omega) (by omega) (fun h => ?_) (fun h => ?_)
      · refine ew_iconst g qd_E_surveyPairs_94 ic_1 ?_
        refine ew_zret g qd_E_surveyPairs_95 hp (by first | exact bI_nar _ | decide +kernel) ?_
        have e : f = 64 := by omega
        subst e
        rw [dF_end hxN] at hP hT
        exact ⟨Or.inl ⟨rfl, ka, kb, rows, hP, hT, hkb, fun _ => hka, by rw [hn2]; exact h94⟩, hfo⟩
      · omega
    | succ d ih =>
      intro f sg1 kb rows hfd hka hA hkb hre hP hT h94 hfo
      refine ew_iload g qd_E_surveyPairs_24 rfl ?_
      refine ew_bipush g qd_E_surveyPairs_26 bp_64 ?_
      refine en_ge g qd_E_surveyPairs_28 (tgt := 94) (by decide) (by omega) (by omega) (fun h => ?_) (fun h => ?_)
      · omega
      · refine ew_aload_n g qd_E_surveyPairs_31 rfl ?_
        refine ew_getR g qd_E_surveyPairs_32 qf_E_12 (by decide) rfl rfl ?_
        refine ew_iload g qd_E_surveyPairs_35 rfl ?_
        refine ew_callV g qd_E_surveyPairs_37 (k_B_isFollowedLikeAnEarlierOne w k.2.1 sg1 (b := 10) (Or.inl rfl) hka h hA (fun j hj => (xF_ok hq j).1)) qv_E_52 (by decide) rfl ⟨_, _, rfl⟩ rfl rfl (Nat.le_of_ble_eq_true rfl) ⟨rfl, rfl, by decide, by decide⟩ (fun v sg2 hv => ?_)
        obtain ⟨hv, rfl⟩ := hv
        rcases hv with ⟨he, rfl⟩ | ⟨he, rfl⟩
        · refine en_if_eq g qd_E_surveyPairs_40 (tgt := 46) (by decide) (by omega) (fun hz => ?_) (fun hz => ?_)
          · exact absurd hz (by decide)
          · refine ew_goto g qd_E_surveyPairs_43 (tgt := 88) (by decide) ?_
            refine ew_iinc g qd_E_surveyPairs_88 (by decide) rfl (ii_1 _) ?_
            refine ew_goto g qd_E_surveyPairs_91 (tgt := 24) (by decide) ?_
            rw [← dF_skip he] at hP hT
            exact ih (f + 1) sg2 kb rows (by omega) hka hA hkb hre hP hT h94 hfo
        · refine en_if_eq g qd_E_surveyPairs_40 (tgt := 46) (by decide) (by omega) (fun hz => ?_) (fun hz => ?_)
          · refine ew_aload_n g qd_E_surveyPairs_46 rfl ?_
            refine ew_getR g qd_E_surveyPairs_47 qf_E_18 (by decide) rfl rfl ?_
            refine ew_aload_n g qd_E_surveyPairs_50 rfl ?_
            refine ew_aload_n g qd_E_surveyPairs_51 rfl ?_
            refine ew_getR g qd_E_surveyPairs_52 qf_E_12 (by decide) rfl rfl ?_
            refine ew_getR g qd_E_surveyPairs_55 qf_E_55 (by decide) rfl rfl ?_
            refine ew_iload g qd_E_surveyPairs_58 rfl ?_
            refine en_iald g qd_E_surveyPairs_60 (by decide) rfl (by omega) (by omega) (hA f h).2.1 ?_
            refine ew_aload_n g qd_E_surveyPairs_61 rfl ?_
            refine ew_getR g qd_E_surveyPairs_62 qf_E_12 (by decide) rfl rfl ?_
            refine ew_iload g qd_E_surveyPairs_65 rfl ?_
            refine ew_callV g qd_E_surveyPairs_67 (k_B_isDestroyed w k.2.1 sg2 (b := 10) (Or.inl rfl) hka h (hA f h)) qv_E_59 (by decide) rfl ⟨_, _, rfl⟩ rfl rfl (Nat.le_of_ble_eq_true rfl) ⟨rfl, rfl, by decide, by decide⟩ (fun v sg3 hv => ?_)
            obtain ⟨rfl, rfl⟩ := hv
            refine ew_iload_n g qd_E_surveyPairs_70 rfl ?_
            refine ew_callV g qd_E_surveyPairs_71 (k_B_fill w k.2.1 sg3 (b := 19) (dead := decide (pHo (xF q f) = 3)) (Or.inr rfl) (code_of hfo) hkb hq.2.2.1 (xF_ok hq f).1) qv_E_44 (by decide) rfl ⟨_, _, rfl⟩ rfl rfl (Nat.le_of_ble_eq_true rfl) ⟨rfl, rfl, by decide, by decide⟩ (fun v sg4 hv => ?_)
            have hxl : ∀ m, m < 64 → xL q (f * 64 + m) = pTx q.1 q.2.2.1 m (pCe (xF q f)) (decide (pHo (xF q f) = 3)) := fun m hm => by
              unfold xL
              rw [if_neg hne, show (f * 64 + m) / 64 = f by omega, show (f * 64 + m) % 64 = m by omega]
            have hreal : ∀ x, x ∈ kb ∨ (∃ m, m < 64 ∧ x = tK (pTx q.1 q.2.2.1 m (pCe (xF q f)) (decide (pHo (xF q f) = 3)))) → ∃ j, j < xN q ∧ (xKey q j).2 = x := fun x hx => by
              rcases hx with z | ⟨m, m1, m2⟩
              · exact hre x z
              · refine ⟨f * 64 + m, by rw [hxN]; omega, ?_⟩
                show tK (xL q (f * 64 + m)) = x
                rw [hxl m m1, m2]
            rcases hv with ⟨rfl, ⟨kb', t, hkb', hkt, hkr, hB⟩, hfr⟩ | ⟨rfl, ⟨big, b1, b2, b3⟩, hfr⟩
            · have ho : ∀ o, o = 0 ∨ (2 ≤ o ∧ o < 6) ∨ (9 ≤ o ∧ o < 20) ∨ 27 < o → sg4 o = sg3 o := fun o hh => hfr o (by omega) (by omega) (by omega) (by omega) (by omega)
              refine en_if_eq g qd_E_surveyPairs_74 (tgt := 86) (by decide) (by omega) (fun hz2 => ?_) (fun hz2 => ?_)
              · exact absurd hz2 (by decide)
              · refine ew_aload_n g qd_E_surveyPairs_77 rfl ?_
                refine ew_iload g qd_E_surveyPairs_78 rfl ?_
                refine ew_callV g qd_E_surveyPairs_80 (k_E_countFollowersOfAllAlike w k.2.1 sg4 hq hn2 h he (yW_fr hka (fun o h1 h2 => ho o (by omega))) (fun j hj => bE_sg (hA j hj) (fun o h1 h2 => ho o (by omega))) hkb' hB (pRel_fr (pRel_kb hP hkt hkb'.2.2.1) (fun o h1 h2 => ho o (by omega))) (fun kd hk => tK1_fr (hT kd hk) (ho 38 (by omega)) (ho 39 (by omega)))) qv_E_62 (by decide) rfl ⟨_, _, rfl⟩ rfl rfl (Nat.le_of_ble_eq_true rfl) ⟨rfl, rfl, by decide, by decide⟩ (fun v sg5 hv => ?_)
                obtain ⟨hv, hfr5⟩ := hv
                have hfo5 : ∀ o, o = 0 ∨ (2 ≤ o ∧ o < 6) ∨ 39 < o → sg5 o = sg o := fun o hh => by rw [hfr5 o (by omega), ho o (by omega)]; exact hfo o hh
                rcases hv with ⟨rfl, rows', hP', hT'⟩ | ⟨rfl, hbad⟩
                · refine en_if_ne g qd_E_surveyPairs_83 (tgt := 88) (by decide) (by omega) (fun hz3 => ?_) (fun hz3 => ?_)
                  · refine ew_iinc g qd_E_surveyPairs_88 (by decide) rfl (ii_1 _) ?_
                    refine ew_goto g qd_E_surveyPairs_91 (tgt := 24) (by decide) ?_
                    refine ih (f + 1) sg5 kb' rows' (by omega) (yW_fr hka (fun o h1 h2 => by rw [hfr5 o (by omega)]; exact ho o (by omega))) (fun j hj => bE_sg (hA j hj) (fun o h1 h2 => by rw [hfr5 o (by omega)]; exact ho o (by omega))) (yW_fr hkb' (fun o h1 h2 => hfr5 o (by omega))) (fun x hx => hreal x (hkr x hx)) hP' hT' ?_ hfo5
                    rw [hfr5 9 (by omega), ho 9 (by omega)]
                    exact h94
                  · exact absurd hz3 (by decide)
                · refine en_if_ne g qd_E_surveyPairs_83 (tgt := 88) (by decide) (by omega) (fun hz3 => ?_) (fun hz3 => ?_)
                  · exact absurd rfl hz3
                  · refine ew_iconst g qd_E_surveyPairs_86 ic_0 ?_
                    refine ew_zret g qd_E_surveyPairs_87 hp (by first | exact bI_nar _ | decide +kernel) ?_
                    exact ⟨Or.inr ⟨rfl, hbad⟩, hfo5⟩
            · refine en_if_eq g qd_E_surveyPairs_74 (tgt := 86) (by decide) (by omega) (fun hz2 => ?_) (fun hz2 => ?_)
              · refine ew_iconst g qd_E_surveyPairs_86 ic_0 ?_
                refine ew_zret g qd_E_surveyPairs_87 hp (by first | exact bI_nar _ | decide +kernel) ?_
                refine ⟨Or.inr ⟨rfl, svBad_of (fun m => (xKey q m).2) (fun z => z.2) (fun m => rfl) b1 b2 (fun x hx => hreal x (b3 x hx))⟩, fun o hh => ?_⟩
                rw [hfr o (by omega) (by omega) (by omega) (by omega) (by omega)]
                exact hfo o hh
              · exact absurd rfl hz2
          · exact absurd rfl hz
  refine ew_aload_n g qd_E_surveyPairs_0 rfl ?_
  refine ew_iconst g qd_E_surveyPairs_1 ic_2 ?_
  refine ew_put g qd_E_surveyPairs_2 qf_E_35 (qp_E_transactions _) (by decide) rfl rfl ?_
  refine ew_aload_n g qd_E_surveyPairs_5 rfl ?_
  refine ew_getR g qd_E_surveyPairs_6 qf_E_12 (by decide) rfl rfl ?_
  refine ew_aload_n g qd_E_surveyPairs_9 rfl ?_
  refine ew_iload_n g qd_E_surveyPairs_10 rfl ?_
  refine ew_iconst g qd_E_surveyPairs_11 ic_0 ?_
  refine en_top bI_f.symm ?_
  refine ew_iload_n g qd_E_surveyPairs_12 rfl ?_
  refine ew_callV g qd_E_surveyPairs_13 (k_B_fill w k.2.1 _ (b := 10) (dead := false) (Or.inl rfl) hcd1 hy1 hq.2.2.1 (xc0_16 hq.2.1)) qv_E_44 (by decide) rfl ⟨_, _, rfl⟩ rfl rfl (Nat.le_of_ble_eq_true rfl) ⟨rfl, rfl, by decide, by decide⟩ (fun v sg1 hv => ?_)
  have hfo : ∀ {sg1 : SG}, bFr 10 (sup (fgE sg) 9 4 (nI 2)) sg1 → ∀ o, o = 0 ∨ (2 ≤ o ∧ o < 6) ∨ 39 < o → sg1 o = sg o := fun {sg1} hfr o ho => by
    rw [hfr o (by omega) (by omega) (by omega) (by omega) (by omega), sup_n (by omega), fgE_n (by omega)]
  rcases hv with ⟨rfl, ⟨ka, t, hka, -, -, hA⟩, hfr⟩ | ⟨rfl, ⟨big, b1, b2, b3⟩, hfr⟩
  · refine en_if_ne g qd_E_surveyPairs_16 (tgt := 21) (by decide) (by omega) (fun hz => ?_) (fun hz => ?_)
    · have hg : ∀ o, 19 ≤ o → sg1 o = fgE sg o := fun o h1 => by
        rw [hfr o (by omega) (by omega) (by omega) (by omega) (by omega), sup_n (by omega)]
      refine ew_iconst g qd_E_surveyPairs_21 ic_0 ?_
      refine ew_istore g qd_E_surveyPairs_22 (by decide) ?_
      refine hmain ka 64 0 sg1 [] [] rfl hka (fun j hj => by rw [← hmod j hj]; exact hA j hj) (fg_yW (by rw [hg 20 (by decide)]; exact fgE_20 sg)) (fun x hx => by cases hx) ?_ ?_ ?_ (hfo hfr)
      · rw [dF_0]
        exact fg_rel _ _ _ _ (by rw [hg 28 (by decide)]; exact fgE_28 sg) (fun p hp => by rw [hg 29 (by decide)]; exact fgE_29 sg hp)
      · rw [dF_0]
        exact fun kd hk => fg_tly _ _ (fun p hp => by rw [hg 38 (by decide)]; exact fgE_38 sg hp) (fun p hp => by rw [hg 39 (by decide)]; exact fgE_39 sg hp) hk
      · rw [hfr 9 (by decide) (by decide) (by decide) (by decide) (by decide), sup_s, pk_us]
    · exact absurd hz (by decide)
  · refine en_if_ne g qd_E_surveyPairs_16 (tgt := 21) (by decide) (by omega) (fun hz => ?_) (fun hz => ?_)
    · exact absurd rfl hz
    · refine ew_iconst g qd_E_surveyPairs_19 ic_0 ?_
      refine ew_zret g qd_E_surveyPairs_20 hp (by first | exact bI_nar _ | decide +kernel) ?_
      refine ⟨Or.inr ⟨rfl, svBad_of (fun m => (xKey q m).1) (fun z => z.1) (fun m => rfl) b1 b2 (fun x hx => ?_)⟩, hfo hfr⟩
      rcases b3 x hx with z | ⟨m, m1, m2⟩
      · cases z
      · refine ⟨m * 64, by rw [hxN]; omega, ?_⟩
        unfold xKey
        rw [if_neg hne, show m * 64 / 64 = m by omega, ← hmod m m1]
        exact m2.symm
