/-! bounds of the machine, its end -/
def cdOK (cd : CDE) : Prop := cd.1 ≤ 32 ∧ ∀ i, i < cd.1 → cd.2.1 i < 25 ∧ cd.2.2 i < 16
def pOK (s : PM) : Prop := pDe s ≤ 6 ∧ (∀ i, i < pDe s → pSt s i < 16) ∧ c16 (pCe s) ∧ pGa s ≤ 40 ∧ pAt s ≤ 32
theorem mkAt_lt {cd : CDE} {a k : Nat} (h : mkAt cd a = some k) : k < cd.1 ∧ cd.2.1 k = 16 ∧ cd.2.2 k = a := by
  unfold mkAt at h
  have h1 := List.mem_of_find?_eq_some h
  have h2 := List.find?_some h
  exact ⟨List.mem_range.mp h1, of_decide_eq_true h2⟩
theorem pUn_lt {s : PM} (h : pOK s) (i : Nat) : pUn s i < 16 := by
  unfold pUn
  split
  · exact h.2.1 _ (by omega)
  · omega
theorem it_lt {c : Prop} [Decidable c] {a b n : Nat} (h1 : a < n) (h2 : b < n) : (if c then a else b) < n := by split <;> assumption
theorem pPut_lt {inp cal : Nat} {s : PM} {o a y x : Nat} (h : pOK s) (hi : inp < 16) (hc : cal < 4) (ha : a < 16) (hy : y < 16) (hx : x < 16) : pPut inp cal s o a y x < 16 := by
  have hu := pUn_lt h a
  have h4 := h.2.2.1 4 (by omega)
  have hm := h.2.2.1 (x % 4) (by omega)
  have hand := w_and16 (x := x) hy
  have hxor := w_xor16 hy hx
  unfold pPut
  generalize pUn s a = u at hu ⊢
  repeat' apply it_lt
  all_goals omega
theorem nup_lt {f : Nat → Nat} {n k x m : Nat} (h : ∀ i, i < n → f i < m) (hx : x < m) : ∀ i, i < n → nup f k x i < m := by
  intro i hi
  unfold nup
  split
  · exact hx
  · exact h i hi
/-- where nothing faults: gas and words are there -/
theorem pFault_none {cd : CDE} {s : PM} {o a : Nat} (h : pFault cd s o a = none) : oCost o ≤ pGa s ∧ oTake o ≤ pDe s ∧ pDe s - oTake o + oPuts o ≤ 6 ∧ (o = 3 → a < pDe s) ∧ (o = 4 → a + 1 < pDe s) ∧ (o = 17 → (mkAt cd (pUn s 0)).isSome = true) ∧ (o = 18 → pUn s 1 ≠ 0 → (mkAt cd (pUn s 0)).isSome = true) ∧ (o = 21 → pUn s 0 ≠ 0) := by
  unfold pFault at h
  split at h
  · cases h
  · rename_i h0
    refine ⟨by omega, by omega, by omega, ?_, ?_, ?_, ?_, ?_⟩
    · rintro rfl
      simp at h
      exact h
    · rintro rfl
      simp at h
      exact h
    · rintro rfl
      simp at h
      exact Option.isSome_iff_ne_none.mpr h
    · rintro rfl hy
      simp at h
      exact Option.isSome_iff_ne_none.mpr (h hy)
    · rintro rfl
      simp at h
      exact h
theorem oCost_pos (o : Nat) : 1 ≤ oCost o := by
  unfold oCost
  split
  · omega
  · split <;> omega
theorem getD_lt {cd : CDE} {a : Nat} (hc : cd.1 ≤ 32) : (mkAt cd a).getD 0 ≤ 32 := by
  cases h : mkAt cd a with
  | none => simp
  | some k => have := (mkAt_lt h).1; simp; omega
theorem pS1_ok {cal : Nat} {s : PM} {o y x : Nat} (h : pOK s) (hat : pAt s < 32) : pOK (pS1 cal s o y x) := by
  obtain ⟨h1, h2, h3, h4, h5⟩ := h
  refine ⟨?_, fun i hi => h2 i ?_, h3, ?_, hat⟩
  · show pDe s - oTake o ≤ 6
    omega
  · have : i < pDe s - oTake o := hi
    omega
  · show pGa s - oCost o ≤ 40
    omega
theorem pSnd_ok {s : PM} {o x : Nat} (h : pOK s) : pOK (pSnd s o x) := by
  unfold pSnd
  split
  · exact ⟨h.1, h.2.1, nup_c16 h.2.2.1 (by have := h.2.2.1 4 (by omega); omega), h.2.2.2.1, h.2.2.2.2⟩
  · exact h
theorem pPush_ok {s : PM} {v : Nat} (h : pOK s) (hd : pDe s < 6) (hv : v < 16) : pOK (pPush s v) := by
  refine ⟨hd, fun i hi => ?_, h.2.2⟩
  show nup (pSt s) (pDe s) v i < 16
  unfold nup
  split
  · exact hv
  · exact h.2.1 i (by have : i < pDe s + 1 := hi; omega)
theorem pJmp_ok {s : PM} {i : Nat} (h : pOK s) (hi : i ≤ 32) : pOK (pJmp s i) := ⟨h.1, h.2.1, h.2.2.1, h.2.2.2.1, hi⟩
theorem pEnd_ok {s : PM} {i : Nat} (h : pOK s) : pOK (pEnd s i) := h
theorem pNote_ok {s : PM} {f : Nat → Nat → Bool} (h : pOK s) : pOK (pNote s f) := h
theorem pWay_ok {s : PM} {f : List Nat} (h : pOK s) : pOK (pWay s f) := h
theorem pCel_ok {s : PM} {c : Nat → Nat} (h : pOK s) (hc : c16 c) : pOK (pCel s c) := ⟨h.1, h.2.1, hc, h.2.2.2⟩
theorem pSwp_ok {s : PM} {i j : Nat} (h : pOK s) (hi : i < pDe s) (hj : j < pDe s) : pOK (pSwp s i j) := ⟨h.1, nup_lt (nup_lt h.2.1 (h.2.1 j hj)) (h.2.1 i hi), h.2.2⟩
theorem pAct_ok {cd : CDE} {s : PM} {o a y x : Nat} (hc : cd.1 ≤ 32) (h : pOK s) (hy : y < 16) (h4 : o = 4 → a + 1 < pDe s) : pOK (pAct cd s o a y x) := by
  have gd := getD_lt (cd := cd) (a := x) hc
  unfold pAct
  split
  · rename_i e
    exact pSwp_ok h (by have := h4 e; omega) (by have := h4 e; omega)
  · split
    · exact pCel_ok h (nup_c16 h.2.2.1 hy)
    · split
      · exact pJmp_ok h gd
      · split
        · split
          · exact pJmp_ok h gd
          · exact h
        · split
          · exact h
          · split
            · exact h
            · split
              · exact h
              · exact h
theorem oPuts_take : ∀ o, o < 25 → oPuts o ≤ 1 ∧ (o = 4 → oPuts o = 0 ∧ oTake o = 0) ∧ (o = 3 → oTake o = 0) := by decide +kernel
theorem pSnd_de (s : PM) (o x : Nat) : pDe (pSnd s o x) = pDe s := by unfold pSnd; split <;> rfl
theorem pPer_ok {cd : CDE} {inp cal : Nat} {s : PM} {o a : Nat} (hcd : cdOK cd) (hi : inp < 16) (hc : cal < 4) (hat : pAt s < 32) (ho : o < 25) (ha : a < 16) (h : pOK s) : pOK (pPer cd inp cal s o a) := by
  have hx := pUn_lt h 0
  have hy := pUn_lt h 1
  unfold pPer
  split
  · exact h
  · rename_i hf
    obtain ⟨f1, f2, f3, f4, f5, -⟩ := pFault_none hf
    obtain ⟨-, o2, -⟩ := oPuts_take o ho
    have k1 := pS1_ok (cal := cal) (o := o) (y := pUn s 1) (x := pUn s 0) h hat
    unfold pDo
    split
    · rename_i hp
      refine pPush_ok (pSnd_ok k1) ?_ (pPut_lt k1 hi hc ha hy hx)
      rw [pSnd_de]
      show pDe s - oTake o < 6
      omega
    · refine pAct_ok hcd.1 k1 hy (fun e => ?_)
      have := f5 e
      have := o2 e
      show a + 1 < pDe s - oTake o
      omega
theorem pStep_ok {cd : CDE} {inp cal : Nat} {s : PM} (hcd : cdOK cd) (hi : inp < 16) (hc : cal < 4) (hat : pAt s < cd.1) (h : pOK s) : pOK (pStep cd inp cal s) := by
  have := hcd.1
  exact pPer_ok (s := pWay s _) hcd hi hc (by show pAt s < 32; omega) (hcd.2 _ hat).1 (hcd.2 _ hat).2 h
theorem pSnd_ga (s : PM) (o x : Nat) : pGa (pSnd s o x) = pGa s := by unfold pSnd; split <;> rfl
theorem pAct_ga (cd : CDE) (s : PM) (o a y x : Nat) : pGa (pAct cd s o a y x) = pGa s := by
  unfold pAct
  split
  · rfl
  · split
    · rfl
    · split
      · rfl
      · split
        · split <;> rfl
        · split
          · rfl
          · split
            · rfl
            · split <;> rfl
theorem pStep_ga {cd : CDE} {inp cal : Nat} {s : PM} : pHo (pStep cd inp cal s) ≠ 5 ∨ pGa (pStep cd inp cal s) + 1 ≤ pGa s := by
  unfold pStep pPer
  split
  · left
    show (2 : Nat) ≠ 5
    decide
  · rename_i hf
    right
    obtain ⟨f1, -⟩ := pFault_none hf
    have f1 : oCost (cd.2.1 (pAt s)) ≤ pGa s := f1
    have := oCost_pos (cd.2.1 (pAt s))
    unfold pDo
    split
    · show pGa (pSnd _ _ _) + 1 ≤ _
      rw [pSnd_ga]
      show pGa s - oCost (cd.2.1 (pAt s)) + 1 ≤ _
      omega
    · rw [pAct_ga]
      show pGa s - oCost (cd.2.1 (pAt s)) + 1 ≤ _
      omega
theorem pRun_stop {cd : CDE} {inp cal : Nat} {s : PM} (h : pHo s ≠ 5) (n : Nat) : pRun cd inp cal n s = s := by
  cases n with
  | zero => rfl
  | succ n => unfold pRun; rw [if_pos h]
theorem pRun_end {cd : CDE} {inp cal : Nat} : ∀ (n : Nat) (s : PM), pGa s < n → pHo (pRun cd inp cal n s) ≠ 5 := by
  intro n
  induction n with
  | zero => intro s h; omega
  | succ n ih =>
    intro s h
    unfold pRun
    split
    · assumption
    · split
      · show (0 : Nat) ≠ 5
        decide
      · rcases pStep_ga (cd := cd) (inp := inp) (cal := cal) (s := s) with h1 | h1
        · rw [pRun_stop h1]; exact h1
        · exact ih _ (by omega)
