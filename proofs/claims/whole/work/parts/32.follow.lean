/-! the tally's relation; countFollowers -/
def tLe (sg : SG) (D : Nat → Bool) (fb : Nat → Nat → Nat → Bool) (kd i : Nat) : Prop := (sg 38 (kd * 32 + i) = -1 ∧ ∀ m, m < 4096 → D m = true → fb m kd i = false) ∨ ∃ lm, lm < 4096 ∧ D lm = true ∧ fb lm kd i = true ∧ (∀ m, m < 4096 → D m = true → fb m kd i = true → lm ≤ m) ∧ sg 38 (kd * 32 + i) = nI lm
def tK1 (sg : SG) (rows : List KEY) (D : Nat → Bool) (ky : Nat → KEY) (fb : Nat → Nat → Nat → Bool) (kd : Nat) : Prop := ∀ i, i < 32 → tLe sg D fb kd i ∧ ∀ r, r < 40 → sg 39 (r * 5 * 32 + (kd * 32 + i)) = nI (cntB 4096 (fun m => D m && (decide (rows[r]? = some (ky m)) && fb m kd i)))
theorem tK1_fr {sg sg' : SG} {rows : List KEY} {D : Nat → Bool} {ky : Nat → KEY} {fb : Nat → Nat → Nat → Bool} {kd : Nat} (h : tK1 sg rows D ky fb kd) (h8 : sg' 38 = sg 38) (h9 : sg' 39 = sg 39) : tK1 sg' rows D ky fb kd := by
  unfold tK1 tLe at h ⊢
  rw [h8, h9]
  exact h
theorem tK1_rows {sg : SG} {rows : List KEY} {D : Nat → Bool} {ky : Nat → KEY} {fb : Nat → Nat → Nat → Bool} {kd : Nat} {q : KEY} (h : tK1 sg rows D ky fb kd) (hq : ∀ j, j < 4096 → D j = true → ky j ≠ q) : tK1 sg (rows ++ [q]) D ky fb kd := by
  intro i hi
  obtain ⟨h1, h2⟩ := h i hi
  refine ⟨h1, fun r hr => ?_⟩
  rw [h2 r hr]
  refine congrArg nI (cntB_congr (fun j hj => ?_))
  cases hd : D j with
  | false => rfl
  | true =>
    have hne := hq j hj hd
    have e : (rows[r]? = some (ky j)) ↔ ((rows ++ [q])[r]? = some (ky j)) := by
      by_cases hl : r < rows.length
      · rw [List.getElem?_append_left hl]
      · rw [List.getElem?_append_right (by omega), List.getElem?_eq_none (by omega)]
        constructor
        · intro z; cases z
        · intro z
          have := List.mem_of_getElem? z
          exact absurd (List.mem_singleton.mp this) hne
    simp only [e]
theorem tK1_other {sg : SG} {rows : List KEY} {D : Nat → Bool} {ky : Nat → KEY} {fb : Nat → Nat → Nat → Bool} {kd kd' r m : Nat} {x : Int32} (h : tK1 sg rows D ky fb kd') (hne : kd' ≠ kd) (hk : kd < 5) (hk' : kd' < 5) : tK1 (noF sg r kd x m 32) rows D ky fb kd' := by
  intro i hi
  obtain ⟨h1, h2⟩ := h i hi
  have e8 : noF sg r kd x m 32 38 (kd' * 32 + i) = sg 38 (kd' * 32 + i) := by rw [noF_38, if_neg (by omega)]
  refine ⟨?_, fun r' hr' => ?_⟩
  · unfold tLe at h1 ⊢
    rw [e8]
    exact h1
  · rw [noF_39, if_neg (by omega)]
    exact h2 r' hr'
theorem tK1_note {sg : SG} {rows : List KEY} {D : Nat → Bool} {ky : Nat → KEY} {fb : Nat → Nat → Nat → Bool} {kd r m : Nat} {x : Int32} (h : tK1 sg rows D ky fb kd) (hm : m < 4096) (hD : D m = false) (hr : rows[r]? = some (ky m)) (hn : rows.Nodup) (hk : kd < 5) (hx : ∀ i, i < 32 → bt x i = fb m kd i) : tK1 (noF sg r kd x m 32) rows (dAdd D m) ky fb kd := by
  intro i hi
  obtain ⟨h1, h2⟩ := h i hi
  refine ⟨?_, fun r' hr' => ?_⟩
  · have e8 : noF sg r kd x m 32 38 (kd * 32 + i) = if fb m kd i = true ∧ (sg 38 (kd * 32 + i) = -1 ∨ nI m < sg 38 (kd * 32 + i)) then nI m else sg 38 (kd * 32 + i) := by
      rw [noF_38, Nat.add_sub_cancel_left, hx i hi]
      by_cases c : fb m kd i = true ∧ (sg 38 (kd * 32 + i) = -1 ∨ nI m < sg 38 (kd * 32 + i))
      · rw [if_pos c, if_pos ⟨by omega, by omega, c⟩]
      · rw [if_neg c, if_neg (fun z => c z.2.2)]
    unfold tLe
    rw [e8]
    cases hf : fb m kd i with
    | false =>
      rw [if_neg (by simp)]
      rcases h1 with ⟨z1, z2⟩ | ⟨lm, y1, y2, y3, y4, y5⟩
      · left
        refine ⟨z1, fun j hj hd => ?_⟩
        rcases dAdd_or hd with q | q
        · exact z2 j hj q
        · rw [q]; exact hf
      · right
        refine ⟨lm, y1, dAdd_t y2, y3, fun j hj hd q => ?_, y5⟩
        rcases dAdd_or hd with p | p
        · exact y4 j hj p q
        · rw [p, hf] at q; cases q
    | true =>
      right
      rcases h1 with ⟨z1, z2⟩ | ⟨lm, y1, y2, y3, y4, y5⟩
      · rw [if_pos ⟨rfl, Or.inl z1⟩]
        refine ⟨m, hm, dAdd_m D m, hf, fun j hj hd q => ?_, rfl⟩
        rcases dAdd_or hd with p | p
        · rw [z2 j hj p] at q; cases q
        · omega
      · rw [y5]
        by_cases hlt : m < lm
        · rw [if_pos ⟨rfl, Or.inr (nI_lt hlt (by omega))⟩]
          refine ⟨m, hm, dAdd_m D m, hf, fun j hj hd q => ?_, rfl⟩
          rcases dAdd_or hd with p | p
          · have := y4 j hj p q; omega
          · omega
        · rw [if_neg (fun z => by rcases z.2 with p | p; exact nI_m1 (by omega) p; exact nI_nlt (by omega) (by omega) p)]
          refine ⟨lm, y1, dAdd_t y2, y3, fun j hj hd q => ?_, rfl⟩
          rcases dAdd_or hd with p | p
          · exact y4 j hj p q
          · omega
  · rw [cntB_add hm hD, noF_39]
    by_cases er : r' = r
    · subst er
      have e1 : r' * 5 * 32 + (kd * 32 + i) - (r' * 5 * 32 + kd * 32) = i := by omega
      rw [e1, hx i hi, decide_eq_true hr]
      cases hf : fb m kd i with
      | true =>
        rw [if_pos ⟨by omega, by omega, rfl⟩, h2 r' hr', nI_inc, if_pos (by rfl)]
      | false =>
        rw [if_neg (by simp), h2 r' hr', if_neg (by simp), Nat.add_zero]
    · rw [if_neg (by omega), h2 r' hr', decide_eq_false (fun z => er (nod_at hn z hr)), if_neg (by simp), Nat.add_zero]
theorem pRel_fr {sg sg' : SG} {ka kb : WKL} {rows : List KEY} {D : Nat → Bool} {ky : Nat → KEY} {cel : Nat → Nat → Nat} (h : pRel sg ka kb rows D ky cel) (hf : ∀ o, 28 ≤ o → o ≤ 35 → sg' o = sg o) : pRel sg' ka kb rows D ky cel := by
  unfold pRel rbw pRow at h ⊢
  rw [hf 28 (by decide) (by decide), hf 29 (by decide) (by decide), hf 30 (by decide) (by decide), hf 31 (by decide) (by decide), hf 32 (by decide) (by decide), hf 33 (by decide) (by decide), hf 34 (by decide) (by decide), hf 35 (by decide) (by decide)]
  exact h
def dRng (D : Nat → Bool) (f n : Nat) : Nat → Bool := fun j => D j || (decide (f ≤ j) && decide (j < f + n))
theorem dRng_0 (D : Nat → Bool) (f : Nat) : dRng D f 0 = D := by
  funext j
  unfold dRng
  by_cases h : f ≤ j
  · have : ¬ j < f := by omega
    simp [this]
  · simp [h]
theorem dRng_s (D : Nat → Bool) (f n : Nat) : dAdd (dRng D f n) (f + n) = dRng D f (n + 1) := by
  funext j
  unfold dAdd dRng
  by_cases h : j = f + n
  · subst h; simp
  · by_cases h1 : f ≤ j
    · by_cases h2 : j < f + n
      · have : j < f + (n + 1) := by omega
        simp [h1, h2, this, h]
      · have : ¬ j < f + (n + 1) := by omega
        simp [h1, h2, this, h]
    · simp [h1, h]
theorem pRel_big {sg : SG} {ka kb : WKL} {rows : List KEY} {D : Nat → Bool} {ky : Nat → KEY} {cel : Nat → Nat → Nat} (h : pRel sg ka kb rows D ky cel) : ∀ x, x ∈ rows → ∃ j, j < 4096 ∧ D j = true ∧ ky j = x := by
  intro x hx
  obtain ⟨r, hr⟩ := List.getElem?_of_mem hx
  obtain ⟨-, -, -, wt, w1, w2, w3, -⟩ := h.2.2.2.2.2 r x hr
  exact ⟨wt, w1, w2, w3⟩
def eFr (sg sg' : SG) : Prop := ∀ o, o < 28 ∨ 39 < o ∨ o = 36 ∨ o = 37 → sg' o = sg o
theorem eFr.rf (sg : SG) : eFr sg sg := fun _ _ => rfl
theorem eFr.tr {a b c : SG} (h : eFr a b) (h' : eFr b c) : eFr a c := fun o q => (h' o q).trans (h o q)
theorem poF_fr {sg : SG} {a b m : Nat} {st : Int32} {c o : Nat} (h : o < 28 ∨ 35 < o) : poF sg a b m st c o = sg o := by
  unfold poF
  rw [sup_n (by omega), sup_n (by omega), sup_n (by omega), sup_n (by omega), sup_n (by omega), sup_n (by omega), sup_n (by omega), sup_n (by omega)]
theorem pmF_fr {sg : SG} {r m : Nat} {st : Int32} {wt o : Nat} (h : o < 28 ∨ 35 < o) : pmF sg r m st wt o = sg o := by
  unfold pmF pmB
  split
  · rw [sup_n (by omega), sup_n (by omega), sup_n (by omega), sup_n (by omega)]
  · rw [sup_n (by omega), sup_n (by omega)]
theorem k_E_countFollowers (w : WC) (l : Launch) (sg : SG) {f a0 : Nat} {fk : List Nat × Nat} {ff : Nat → Nat → Bool} {ka kb : WKL} {rows : List KEY} {D : Nat → Bool} {ky : Nat → KEY} {cel : Nat → Nat → Nat} {fb : Nat → Nat → Nat → Bool} {R : Nat → PM} (hf : f < 64) (h16 : sg 16 f = nI a0) (ha0 : ka[a0]? = some fk) (ha40 : a0 < 40) (hna : ka.Nodup) (h18 : ∀ kd, kd < 5 → ∀ i, i < 32 → bt (sg 18 (f * 5 + kd)) i = ff kd i) (hkb : yW sg 19 kb) (hB : ∀ j, j < 64 → bE sg 19 kb (R j) j) (hP : pRel sg ka kb rows D ky cel) (hT : ∀ kd, kd < 5 → tK1 sg rows D ky fb kd) (hc : ∀ j, j < 4096 → c16 (cel j)) (hky : ∀ j, j < 64 → ky (f * 64 + j) = (fk, tK (R j))) (hcel : ∀ j, j < 64 → cel (f * 64 + j) = pCe (R j)) (hfb : ∀ j, j < 64 → ∀ kd i, fb (f * 64 + j) kd i = (ff kd i || pFo (R j) kd i)) (hD : ∀ j, j < 64 → D (f * 64 + j) = false) : ew_M qS w l qy_E_countFollowers qw_E_countFollowers qr_E_countFollowers [.inr 9, .inl (nI f)] sg (fun v sg' => ((v = some (.inl (nI 1)) ∧ ∃ rows', pRel sg' ka kb rows' (dRng D (f * 64) 64) ky cel ∧ ∀ kd, kd < 5 → tK1 sg' rows' (dRng D (f * 64) 64) ky fb kd) ∨ (v = some (.inl (nI 0)) ∧ ∃ big : List KEY, big.Nodup ∧ big.length = 41 ∧ ∀ x, x ∈ big → ∃ j, j < 4096 ∧ dRng D (f * 64) 64 j = true ∧ ky j = x)) ∧ eFr sg sg') := by
  refine ew_entry (ws' := qwg) (own := qR_E) (cc := qc_E_countFollowers) (nL := 7) (ret := some .boolean) qnk (by decide) rfl rfl (Nat.le_of_ble_eq_true rfl) ?_
  intro k g hp
  have key : ∀ (d i : Nat) (sg1 : SG) (rows1 : List KEY) (x3 x4 x5 x6 : Option MV), i + d = 64 → pRel sg1 ka kb rows1 (dRng D (f * 64) i) ky cel → (∀ kd, kd < 5 → tK1 sg1 rows1 (dRng D (f * 64) i) ky fb kd) → eFr sg sg1 → ew_E qS w 7 k 2 [some (.inr 9), some (.inl (nI f)), some (.inl (nI i)), x3, x4, x5, x6] [] sg1 := by
    intro d
    induction d with
    | zero =>
      intro i sg1 rows1 x3 x4 x5 x6 hi hP1 hT1 hfr
      refine ew_iload_n g qd_E_countFollowers_2 rfl ?_
      refine ew_bipush g qd_E_countFollowers_3 bp_64 ?_
      refine en_ge g qd_E_countFollowers_5 (tgt := 126) (by decide) (by omega) (by omega) (fun h => ?_) (fun h => ?_)
      · refine ew_iconst g qd_E_countFollowers_126 ic_1 ?_
        refine ew_zret g qd_E_countFollowers_127 hp (by first | exact bI_nar _ | decide +kernel) ?_
        have e : i = 64 := by omega
        subst e
        exact ⟨Or.inl ⟨rfl, rows1, hP1, hT1⟩, hfr⟩
      · omega
    | succ d ih =>
      intro i sg1 rows1 x3 x4 x5 x6 hi hP1 hT1 hfr
      refine ew_iload_n g qd_E_countFollowers_2 rfl ?_
      refine ew_bipush g qd_E_countFollowers_3 bp_64 ?_
      refine en_ge g qd_E_countFollowers_5 (tgt := 126) (by decide) (by omega) (by omega) (fun h => ?_) (fun h => ?_)
      · omega
      · obtain ⟨⟨j0, hj0, e6⟩, e7, e8⟩ := hB i h
        have hj40 := hkb.1
        have hj0l := (List.getElem?_eq_some_iff.mp hj0).1
        have hD1 : dRng D (f * 64) i (f * 64 + i) = false := by
          unfold dRng
          rw [hD i h]
          simp
        have hm4 : f * 64 + i < 4096 := by omega
        have hr40 := hP1.1
        have hka : ka[a0]? = some (ky (f * 64 + i)).1 := by rw [hky i h]; exact ha0
        have hkb' : kb[j0]? = some (ky (f * 64 + i)).2 := by rw [hky i h]; exact hj0
        have hmeet : sg1 29 (a0 * 40 + j0) = -1 ∨ ∃ r wt, r < 40 ∧ wt < 2 ^ 31 ∧ sg1 29 (a0 * 40 + j0) = nI r ∧ sg1 33 r = nI wt := by
          rcases hP1.2.2.2.2.1 a0 j0 ha40 (by omega) with ⟨r, q1, q2, z1, z2, z3, z4⟩ | ⟨z1, z2⟩
          · right
            obtain ⟨-, -, -, wt, w1, -, -, -, w5, -⟩ := hP1.2.2.2.2.2 r _ z3
            exact ⟨r, wt, by have := (List.getElem?_eq_some_iff.mp z3).1; omega, by omega, z4, w5⟩
          · exact Or.inl z2
        refine ew_iload_n g qd_E_countFollowers_8 rfl ?_
        refine ew_bipush g qd_E_countFollowers_9 bp_64 ?_
        refine ew_imul g qd_E_countFollowers_11 ?_
        refine en_top (pk_mul _ _) ?_
        refine ew_iload_n g qd_E_countFollowers_12 rfl ?_
        refine ew_iadd g qd_E_countFollowers_13 ?_
        refine en_top (nI_add _ _) ?_
        refine ew_istore_n g qd_E_countFollowers_14 (by decide) ?_
        refine ew_aload_n g qd_E_countFollowers_15 rfl ?_
        refine ew_getR g qd_E_countFollowers_16 qf_E_24 (by decide) rfl rfl ?_
        refine ew_aload_n g qd_E_countFollowers_19 rfl ?_
        refine ew_getR g qd_E_countFollowers_20 qf_E_12 (by decide) rfl rfl ?_
        refine ew_getR g qd_E_countFollowers_23 qf_E_86 (by decide) rfl rfl ?_
        refine ew_iload_n g qd_E_countFollowers_26 rfl ?_
        refine en_iald g qd_E_countFollowers_27 (by decide) rfl (by omega) (by omega) (show sg1 16 f = nI a0 by rw [hfr 16 (by omega)]; exact h16) ?_
        refine ew_aload_n g qd_E_countFollowers_28 rfl ?_
        refine ew_getR g qd_E_countFollowers_29 qf_E_18 (by decide) rfl rfl ?_
        refine ew_getR g qd_E_countFollowers_32 qf_E_86 (by decide) rfl rfl ?_
        refine ew_iload_n g qd_E_countFollowers_35 rfl ?_
        refine en_iald g qd_E_countFollowers_36 (by decide) rfl (by omega) (by omega) (show sg1 25 i = nI j0 by rw [hfr 25 (by omega)]; exact e6) ?_
        refine ew_iload_n g qd_E_countFollowers_37 rfl ?_
        refine ew_aload_n g qd_E_countFollowers_38 rfl ?_
        refine ew_getR g qd_E_countFollowers_39 qf_E_18 (by decide) rfl rfl ?_
        refine ew_getR g qd_E_countFollowers_42 qf_E_55 (by decide) rfl rfl ?_
        refine ew_iload_n g qd_E_countFollowers_45 rfl ?_
        refine en_iald g qd_E_countFollowers_46 (by decide) rfl (by omega) (by omega) (show sg1 26 i = nI (pk5 (cel (f * 64 + i))) by rw [hfr 26 (by omega), hcel i h]; exact e7) ?_
        refine ew_callV g qd_E_countFollowers_47 (k_P_meet w k.2.1 sg1 (nI (pk5 (cel (f * 64 + i)))) hP1.2.1 hr40 ha40 (show j0 < 40 by omega) (show f * 64 + i < 2 ^ 31 by omega) hmeet) qv_E_89 (by decide) rfl ⟨_, _, rfl⟩ rfl rfl (Nat.le_of_ble_eq_true rfl) ⟨rfl, rfl, by decide, by decide⟩ (fun v sg2 hv => ?_)
        have hgo : ∀ (r : Nat) (rows2 : List KEY), v = some (.inl (nI r)) → r < 40 → pRel sg2 ka kb rows2 (dAdd (dRng D (f * 64) i) (f * 64 + i)) ky cel → (∀ kd, kd < 5 → tK1 sg2 rows2 (dRng D (f * 64) i) ky fb kd) → rows2[r]? = some (ky (f * 64 + i)) → eFr sg sg2 → ew_E qS w 7 k 50 [some (.inr 9), some (.inl (nI f)), some (.inl (nI i)), some (.inl (nI (f * 64 + i))), x4, x5, x6] [.inl (nI r)] sg2 := by
          intro r rows2 hv hr hP2 hT2 hrr hfr2
          refine ew_istore g qd_E_countFollowers_50 (by decide) ?_
          refine ew_iload g qd_E_countFollowers_52 rfl ?_
          refine ew_iconst g qd_E_countFollowers_54 ic_m1 ?_
          refine ew_icmp_ne g qd_E_countFollowers_55 (tgt := 60) (by decide) (fun hz => ?_) (fun hz => ?_)
          · have inner : ∀ (d' kd : Nat) (sg3 : SG) (y6 : Option MV), kd + d' = 5 → pRel sg3 ka kb rows2 (dAdd (dRng D (f * 64) i) (f * 64 + i)) ky cel → (∀ kd', kd' < kd → tK1 sg3 rows2 (dAdd (dRng D (f * 64) i) (f * 64 + i)) ky fb kd') → (∀ kd', kd ≤ kd' → kd' < 5 → tK1 sg3 rows2 (dRng D (f * 64) i) ky fb kd') → eFr sg sg3 → ew_E qS w 7 k 63 [some (.inr 9), some (.inl (nI f)), some (.inl (nI i)), some (.inl (nI (f * 64 + i))), some (.inl (nI r)), some (.inl (nI kd)), y6] [] sg3 := by
              intro d'
              induction d' with
              | zero =>
                intro kd sg3 y6 hkd hP3 hTa hTb hfr3
                refine ew_iload g qd_E_countFollowers_63 rfl ?_
                refine ew_iconst g qd_E_countFollowers_65 ic_5 ?_
                refine en_ge g qd_E_countFollowers_66 (tgt := 120) (by decide) (by omega) (by omega) (fun hh => ?_) (fun hh => ?_)
                · refine ew_iinc g qd_E_countFollowers_120 (by decide) rfl (ii_1 _) ?_
                  refine ew_goto g qd_E_countFollowers_123 (tgt := 2) (by decide) ?_
                  rw [dRng_s] at hP3 hTa
                  exact ih (i + 1) sg3 rows2 _ _ _ _ (by omega) hP3 (fun kd' hk' => hTa kd' (by omega)) hfr3
                · omega
              | succ d' ih' =>
                intro kd sg3 y6 hkd hP3 hTa hTb hfr3
                refine ew_iload g qd_E_countFollowers_63 rfl ?_
                refine ew_iconst g qd_E_countFollowers_65 ic_5 ?_
                refine en_ge g qd_E_countFollowers_66 (tgt := 120) (by decide) (by omega) (by omega) (fun hh => ?_) (fun hh => ?_)
                · omega
                · refine ew_aload_n g qd_E_countFollowers_69 rfl ?_
                  refine ew_getR g qd_E_countFollowers_70 qf_E_12 (by decide) rfl rfl ?_
                  refine ew_getR g qd_E_countFollowers_73 qf_E_93 (by decide) rfl rfl ?_
                  refine ew_iload_n g qd_E_countFollowers_76 rfl ?_
                  refine ew_iconst g qd_E_countFollowers_77 ic_5 ?_
                  refine ew_imul g qd_E_countFollowers_78 ?_
                  refine en_top (pk_mul _ _) ?_
                  refine ew_iload g qd_E_countFollowers_79 rfl ?_
                  refine ew_iadd g qd_E_countFollowers_81 ?_
                  refine en_top (nI_add _ _) ?_
                  refine en_iald g qd_E_countFollowers_82 (by decide) rfl (by omega) (by omega) (show sg3 18 (f * 5 + kd) = sg 18 (f * 5 + kd) by rw [hfr3 18 (by omega)]) ?_
                  refine ew_aload_n g qd_E_countFollowers_83 rfl ?_
                  refine ew_getR g qd_E_countFollowers_84 qf_E_18 (by decide) rfl rfl ?_
                  refine ew_getR g qd_E_countFollowers_87 qf_E_93 (by decide) rfl rfl ?_
                  refine ew_iload_n g qd_E_countFollowers_90 rfl ?_
                  refine ew_iconst g qd_E_countFollowers_91 ic_5 ?_
                  refine ew_imul g qd_E_countFollowers_92 ?_
                  refine en_top (pk_mul _ _) ?_
                  refine ew_iload g qd_E_countFollowers_93 rfl ?_
                  refine ew_iadd g qd_E_countFollowers_95 ?_
                  refine en_top (nI_add _ _) ?_
                  refine en_iald g qd_E_countFollowers_96 (by decide) rfl (by omega) (by omega) (show sg3 27 (i * 5 + kd) = sg 27 (i * 5 + kd) by rw [hfr3 27 (by omega)]) ?_
                  refine ew_ior g qd_E_countFollowers_97 ?_
                  refine ew_istore g qd_E_countFollowers_98 (by decide) ?_
                  refine ew_aload_n g qd_E_countFollowers_100 rfl ?_
                  refine ew_getR g qd_E_countFollowers_101 qf_E_31 (by decide) rfl rfl ?_
                  refine ew_iload g qd_E_countFollowers_104 rfl ?_
                  refine ew_iload g qd_E_countFollowers_106 rfl ?_
                  refine ew_iload g qd_E_countFollowers_108 rfl ?_
                  refine ew_iload_n g qd_E_countFollowers_110 rfl ?_
                  refine ew_callV g qd_E_countFollowers_111 (k_T_note w k.2.1 sg3 (m := f * 64 + i) (sg 18 (f * 5 + kd) ||| sg 27 (i * 5 + kd)) hr hh) qv_E_96 (by decide) rfl ⟨_, _, rfl⟩ rfl rfl (Nat.le_of_ble_eq_true rfl) ⟨rfl, rfl, by decide, by decide⟩ (fun v sg4 hv => ?_)
                  obtain ⟨rfl, rfl⟩ := hv
                  have hbits : ∀ t, t < 32 → bt (sg 18 (f * 5 + kd) ||| sg 27 (i * 5 + kd)) t = fb (f * 64 + i) kd t := fun t ht => by
                    rw [b_or, h18 kd hh t ht, hfb i h kd t]
                    rw [show bt (sg 27 (i * 5 + kd)) t = pFo (R i) kd t from e8 kd hh t ht]
                  refine ew_iinc g qd_E_countFollowers_114 (by decide) rfl (ii_1 _) ?_
                  refine ew_goto g qd_E_countFollowers_117 (tgt := 63) (by decide) ?_
                  refine ih' (kd + 1) _ _ (by omega) (pRel_fr hP3 (fun o q1 q2 => noF_n (by omega) (by omega))) (fun kd' hk' => ?_) (fun kd' hk1 hk2 => ?_) (fun o q => ?_)
                  · by_cases ek : kd' = kd
                    · subst ek
                      exact tK1_note (hTb kd' (Nat.le_refl _) hh) hm4 hD1 hrr hP3.2.2.1 hh hbits
                    · exact tK1_other (hTa kd' (by omega)) ek hh (by omega)
                  · exact tK1_other (hTb kd' (by omega) hk2) (by omega) hh hk2
                  · rw [noF_n (by omega) (by omega)]
                    exact hfr3 o q
            refine ew_iconst g qd_E_countFollowers_60 ic_0 ?_
            refine ew_istore g qd_E_countFollowers_61 (by decide) ?_
            exact inner 5 0 sg2 _ rfl hP2 (fun kd' hk' => absurd hk' (Nat.not_lt_zero kd')) (fun kd' _ hk' => hT2 kd' hk') hfr2
          · exact absurd hz (nI_m1 (by omega))
        rcases hv with ⟨h29, hv⟩ | ⟨r, wt, hr, hwt, h29, h33, rfl, rfl⟩
        · have hni : ky (f * 64 + i) ∉ rows1 := by
            rcases hP1.2.2.2.2.1 a0 j0 ha40 (by omega) with ⟨r, q1, q2, z1, z2, z3, z4⟩ | ⟨z1, z2⟩
            · rw [h29] at z4
              exact absurd z4.symm (nI_m1 (by have := (List.getElem?_eq_some_iff.mp z3).1; omega))
            · exact z1 _ _ hka hkb'
          rcases hv with ⟨hl4, rfl, rfl⟩ | ⟨hl4, rfl, rfl⟩
          · refine hgo rows1.length (rows1 ++ [ky (f * 64 + i)]) rfl hl4 (pRel_open hP1 hm4 hD1 hka hkb' ha40 (by omega) hna hkb.2.2.1 hni hl4) (fun kd hk => ?_) ?_ (fun o q => ?_)
            · exact tK1_fr (tK1_rows (hT1 kd hk) (fun j hj hd z => hni (z ▸ hP1.2.2.2.1 j hj hd))) (poF_fr (by omega)) (poF_fr (by omega))
            · rw [List.getElem?_append_right (Nat.le_refl _), Nat.sub_self]; rfl
            · rw [poF_fr (by omega)]
              exact hfr o q
          · refine ew_istore g qd_E_countFollowers_50 (by decide) ?_
            refine ew_iload g qd_E_countFollowers_52 rfl ?_
            refine ew_iconst g qd_E_countFollowers_54 ic_m1 ?_
            refine ew_icmp_ne g qd_E_countFollowers_55 (tgt := 60) (by decide) (fun hz => ?_) (fun hz => ?_)
            · exact absurd rfl hz
            · refine ew_iconst g qd_E_countFollowers_58 ic_0 ?_
              refine ew_zret g qd_E_countFollowers_59 hp (by first | exact bI_nar _ | decide +kernel) ?_
              refine ⟨Or.inr ⟨rfl, rows1 ++ [ky (f * 64 + i)], List.nodup_append.mpr ⟨hP1.2.2.1, by simp, fun x hx y hy => by simp at hy; subst hy; exact fun z => hni (z ▸ hx)⟩, by simp [hl4], fun x hx => ?_⟩, hfr⟩
              have hsub : ∀ j, dRng D (f * 64) i j = true → dRng D (f * 64) 64 j = true := fun j hj => by
                unfold dRng at hj ⊢
                simp only [Bool.or_eq_true, Bool.and_eq_true, decide_eq_true_eq] at hj ⊢
                rcases hj with z | z
                · exact Or.inl z
                · exact Or.inr ⟨z.1, by omega⟩
              rcases List.mem_append.mp hx with z | z
              · obtain ⟨j, q1, q2, q3⟩ := pRel_big hP1 x z
                exact ⟨j, q1, hsub j q2, q3⟩
              · refine ⟨f * 64 + i, hm4, ?_, (List.mem_singleton.mp z).symm⟩
                unfold dRng
                simp
                omega
        · have hrr : rows1[r]? = some (ky (f * 64 + i)) := by
            rcases hP1.2.2.2.2.1 a0 j0 ha40 (by omega) with ⟨r', q1, q2, z1, z2, z3, z4⟩ | ⟨z1, z2⟩
            · have er : r' = r := (nI_eq (by have := (List.getElem?_eq_some_iff.mp z3).1; omega) (by omega)).mp (z4.symm.trans h29)
              rw [← er, z3]
              rw [hka] at z1
              rw [hkb'] at z2
              cases z1
              cases z2
              rfl
            · rw [h29] at z2
              exact absurd z2 (nI_m1 (by omega))
          refine hgo r rows1 rfl hr (pRel_meet hP1 hm4 hD1 hc hrr h33 hwt) (fun kd hk => tK1_fr (hT1 kd hk) (pmF_fr (by omega)) (pmF_fr (by omega))) hrr (fun o q => ?_)
          rw [pmF_fr (by omega)]
          exact hfr o q
  refine ew_iconst g qd_E_countFollowers_0 ic_0 ?_
  refine ew_istore_n g qd_E_countFollowers_1 (by decide) ?_
  exact key 64 0 sg rows _ _ _ _ rfl (by rw [dRng_0]; exact hP) (by rw [dRng_0]; exact hT) (eFr.rf sg)
