/-! bounds of the machine, its end -/
def cdOK (cd : CDE) : Prop := cd.1 ≤ 32 ∧ ∀ i, i < cd.1 → cd.2.1 i < 25 ∧ cd.2.2 i < 16
def pOK (s : PM) : Prop := pDe s ≤ 6 ∧ (∀ i, i < pDe s → pSt s i < 16) ∧ c16 (pCe s) ∧ pGa s ≤ 40 ∧ pAt s ≤ 32
theorem mkAt_lt {cd : CDE} {a k : Nat} (h : mkAt cd a = some k) : k < cd.1 ∧ cd.2.1 k = 16 ∧ cd.2.2 k = a := by
  unfold mkAt at h
  have h1 := List.mem_of_find?_eq_some h
  have h2 := List.find?_some h
  exact ⟨List.mem_range.mp h1, of_decide_eq_true h2⟩
theorem pUn_lt {s : PM} (h : pOK s) (i : Nat) : pUn s i < 16 := by
  unfold pUn
  split
  · exact h.2.1 _ (by omega)
  · omega
theorem it_lt {c : Prop} [Decidable c] {a b n : Nat} (h1 : a < n) (h2 : b < n) : (if c then a else b) < n := by split <;> assumption
theorem pPut_lt {inp cal : Nat} {s : PM} {o a y x : Nat} (h : pOK s) (hi : inp < 16) (hc : cal < 4) (ha : a < 16) (hy : y < 16) (hx : x < 16) : pPut inp cal s o a y x < 16 := by
  have hu := pUn_lt h a
  have h4 := h.2.2.1 4 (by omega)
  have hm := h.2.2.1 (x % 4) (by omega)
  have hand := w_and16 (x := x) hy
  have hxor := w_xor16 hy hx
  unfold pPut
  generalize pUn s a = u at hu ⊢
  repeat' apply it_lt
  all_goals omega
theorem nup_lt {f : Nat → Nat} {n k x m : Nat} (h : ∀ i, i < n → f i < m) (hx : x < m) : ∀ i, i < n → nup f k x i < m := by
  intro i hi
  unfold nup
  split
  · exact hx
  · exact h i hi
/-- where nothing faults: gas and words are there -/
theorem pFault_none {cd : CDE} {s : PM} {o a : Nat} (h : pFault cd s o a = none) : oCost o ≤ pGa s ∧ oTake o ≤ pDe s ∧ pDe s - oTake o + oPuts o ≤ 6 ∧ (o = 3 → a < pDe s) ∧ (o = 4 → a + 1 < pDe s) ∧ (o = 17 → (mkAt cd (pUn s 0)).isSome = true) ∧ (o = 18 → pUn s 1 ≠ 0 → (mkAt cd (pUn s 0)).isSome = true) ∧ (o = 21 → pUn s 0 ≠ 0) := by
  unfold pFault at h
  split at h
  · cases h
  · rename_i h0
    refine ⟨by omega, by omega, by omega, ?_, ?_, ?_, ?_, ?_⟩
    · rintro rfl
      simp at h
      exact h
    · rintro rfl
      simp at h
      exact h
    · rintro rfl
      simp at h
      exact Option.isSome_iff_ne_none.mpr h
    · rintro rfl hy
      simp at h
      exact Option.isSome_iff_ne_none.mpr (h hy)
    · rintro rfl
      simp at h
      exact h
theorem oCost_pos (o : Nat) : 1 ≤ oCost o := by
  unfold oCost
  split
  · omega
  · split <;> omega
theorem getD_lt {cd : CDE} {a : Nat} (hc : cd.1 ≤ 32) : (mkAt cd a).getD 0 ≤ 32 := by
  cases h : mkAt cd a with
  | none => simp
  | some k => have := (mkAt_lt h).1; simp; omega
theorem pStep_ok {cd : CDE} {inp cal : Nat} {s : PM} (hcd : cdOK cd) (hi : inp < 16) (hc : cal < 4) (hat : pAt s < cd.1) (h : pOK s) : pOK (pStep cd inp cal s) := by
  have hx := pUn_lt h 0
  have hy := pUn_lt h 1
  have ha := (hcd.2 _ hat).2
  have h32 := hcd.1
  obtain ⟨h1, h2, h3, h4, h5⟩ := h
  unfold pStep
  simp only []
  split
  · exact ⟨h1, h2, h3, h4, h5⟩
  · rename_i hf
    obtain ⟨f1, f2, f3, f4, f5, -⟩ := pFault_none hf
    have hput := pPut_lt (o := cd.2.1 (pAt s)) (a := cd.2.2 (pAt s)) (y := pUn s 1) (x := pUn s 0) ⟨h1, h2, h3, h4, h5⟩ hi hc ha hy hx
    have hsub : ∀ i, i < pDe s - oTake (cd.2.1 (pAt s)) → pSt s i < 16 := fun i hi => h2 i (by omega)
    split
    · rename_i hp
      refine ⟨?_, ?_, ?_, ?_, ?_⟩
      · show pDe s - oTake _ + 1 ≤ 6
        omega
      · intro i hi
        show nup (pSt s) _ _ i < 16
        unfold nup
        split
        · exact hput
        · exact hsub i (by have : i < pDe s - oTake (cd.2.1 (pAt s)) + 1 := hi; omega)
      · show c16 (if _ then _ else _)
        split
        · exact nup_c16 h3 (by have := h3 4 (by omega); omega)
        · exact h3
      · show pGa s - _ ≤ 40
        omega
      · show pAt s + 1 ≤ 32
        omega
    · have gd := getD_lt (cd := cd) (a := pUn s 0) h32
      have hga : pGa s - oCost (cd.2.1 (pAt s)) ≤ 40 := by omega
      have hde : pDe s - oTake (cd.2.1 (pAt s)) ≤ 6 := by omega
      have hgo : pAt s + 1 ≤ 32 := by omega
      split
      · rename_i ho
        have f5 := f5 ho
        rw [ho] at hde hga hsub ⊢
        refine ⟨hde, ?_, h3, hga, hgo⟩
        have ht : oTake 4 = 0 := by decide
        rw [ht] at hsub ⊢
        intro i hi
        have hi : i < pDe s - 0 := hi
        show nup (nup (pSt s) _ _) _ _ i < 16
        unfold nup
        repeat' split
        · exact hsub _ (by omega)
        · exact hsub _ (by omega)
        · exact hsub _ (by omega)
      · split
        · exact ⟨hde, hsub, nup_c16 h3 hy, hga, hgo⟩
        · split
          · exact ⟨hde, hsub, h3, hga, gd⟩
          · split
            · refine ⟨hde, hsub, h3, hga, ?_⟩
              show (if _ then _ else _) ≤ 32
              split
              · exact gd
              · exact hgo
            · repeat' split
              all_goals exact ⟨hde, hsub, h3, hga, hgo⟩
theorem pStep_ga {cd : CDE} {inp cal : Nat} {s : PM} : pHo (pStep cd inp cal s) ≠ 5 ∨ pGa (pStep cd inp cal s) + 1 ≤ pGa s := by
  unfold pStep
  simp only []
  split
  · left
    show (2 : Nat) ≠ 5
    decide
  · rename_i hf
    right
    obtain ⟨f1, -⟩ := pFault_none hf
    have := oCost_pos (cd.2.1 (pAt s))
    have e : ∀ z, z = pGa s - oCost (cd.2.1 (pAt s)) → z + 1 ≤ pGa s := fun z hz => by omega
    repeat' split
    all_goals exact e _ rfl
theorem pRun_stop {cd : CDE} {inp cal : Nat} {s : PM} (h : pHo s ≠ 5) (n : Nat) : pRun cd inp cal n s = s := by
  cases n with
  | zero => rfl
  | succ n => unfold pRun; rw [if_pos h]
theorem pRun_end {cd : CDE} {inp cal : Nat} : ∀ (n : Nat) (s : PM), pGa s < n → pHo (pRun cd inp cal n s) ≠ 5 := by
  intro n
  induction n with
  | zero => intro s h; omega
  | succ n ih =>
    intro s h
    unfold pRun
    split
    · assumption
    · split
      · show (0 : Nat) ≠ 5
        decide
      · rcases pStep_ga (cd := cd) (inp := inp) (cal := cal) (s := s) with h1 | h1
        · rw [pRun_stop h1]; exact h1
        · exact ih _ (by omega)
