/-! the object under test holds a code, a machine -/
def mkI (cd : CDE) (a : Nat) : Int32 := match mkAt cd a with
  | none => -1
  | some k => nI k
def fI (f : Option Nat) : Int32 := match f with
  | none => -1
  | some k => nI k
def xCode (sg : SG) (cd : CDE) : Prop := cdOK cd ∧ sg 2 3 = nI cd.1 ∧ (∀ i, i < cd.1 → sg 3 i = nI (cd.2.1 i) ∧ sg 4 i = nI (cd.2.2 i)) ∧ ∀ a, a < 16 → sg 5 a = mkI cd a
def xMach (sg : SG) (s : PM) (inp cal : Nat) : Prop := pOK s ∧ sg 1 2 = nI (pDe s) ∧ (∀ i, i < pDe s → sg 6 i = nI (pSt s i)) ∧ sg 1 3 = nI (pk5 (pCe s)) ∧ sg 1 4 = nI (pGa s) ∧ sg 1 5 = nI (pAt s) ∧ sg 1 9 = bI (pSe s) ∧ (∀ kd, kd < 5 → ∀ i, i < 32 → bt (sg 8 kd) i = pFo s kd i) ∧ (sg 1 7 = nI inp ∧ inp < 16) ∧ (sg 1 8 = nI cal ∧ cal < 4) ∧ sg 1 6 = nI (pHo s)
def xFr (sg sg' : SG) : Prop := (∀ o, o ≠ 1 → o ≠ 6 → o ≠ 8 → sg' o = sg o) ∧ sg' 1 11 = sg 1 11 ∧ sg' 1 12 = sg 1 12
theorem xFr.rf (sg : SG) : xFr sg sg := ⟨fun _ _ _ _ => rfl, rfl, rfl⟩
theorem xFr.tr {a b c : SG} (h : xFr a b) (h' : xFr b c) : xFr a c := ⟨fun o h1 h2 h3 => (h'.1 o h1 h2 h3).trans (h.1 o h1 h2 h3), h'.2.1.trans h.2.1, h'.2.2.trans h.2.2⟩
theorem xFr.code {sg sg' : SG} {cd : CDE} (h : xFr sg sg') (hc : xCode sg cd) : xCode sg' cd := by
  unfold xCode at hc ⊢
  rw [h.1 2 (by decide) (by decide) (by decide), h.1 3 (by decide) (by decide) (by decide), h.1 4 (by decide) (by decide) (by decide), h.1 5 (by decide) (by decide) (by decide)]
  exact hc
theorem xFr_f {sg : SG} {i : Nat} {x : Int32} (h : i ≠ 11) (h' : i ≠ 12) : xFr sg (sup sg 1 i x) := ⟨fun o h1 _ _ => sup_n h1, by rw [sup_s, pk_un (by omega)], by rw [sup_s, pk_un (by omega)]⟩
theorem xFr_a {sg : SG} {o i : Nat} {x : Int32} (h : o = 6 ∨ o = 8) : xFr sg (sup sg o i x) := ⟨fun q _ h2 h3 => sup_n (by rcases h with rfl | rfl <;> assumption), by rw [sup_n (by omega)], by rw [sup_n (by omega)]⟩
theorem xM_un {sg : SG} {s : PM} {inp cal : Nat} (h : xMach sg s inp cal) (i : Nat) : (if i < pDe s then sg 6 (pDe s - 1 - i) else nI 0) = nI (pUn s i) := by
  unfold pUn
  split
  · exact h.2.2.1 _ (by omega)
  · rfl
theorem b_one (a : Nat) (ha : a < 32) {i : Nat} (hi : i < 32) : bt (nI 1 <<< (nI a &&& 31)) i = decide (i = a) := by
  rw [b_shl a ha (nI 1) hi]
  have h1 : ∀ j, j < 32 → bt (nI 1) j = decide (j = 0) := by decide +kernel
  rw [h1 _ (by omega)]
  by_cases h : i = a
  · subst h; simp
  · by_cases h2 : a ≤ i
    · have : ¬ i - a = 0 := by omega
      simp [h, this]
    · simp [h, h2]
theorem xM_note {sg : SG} {s : PM} {inp cal kd : Nat} (h : xMach sg s inp cal) (ha : pAt s < 32) (hk : kd < 5) : xMach (sup sg 8 kd (sg 8 kd ||| (nI 1 <<< (nI (pAt s) &&& 31)))) (pNote s (fup (pFo s) kd (pAt s))) inp cal := by
  obtain ⟨h1, h2, h3, h4, h5, h6, h7, h8, h9, h10, h11⟩ := h
  have e1 : sup sg 8 kd (sg 8 kd ||| (nI 1 <<< (nI (pAt s) &&& 31))) 1 = sg 1 := sup_n (by decide)
  have e6 : sup sg 8 kd (sg 8 kd ||| (nI 1 <<< (nI (pAt s) &&& 31))) 6 = sg 6 := sup_n (by decide)
  unfold xMach
  rw [e1, e6]
  refine ⟨pNote_ok h1, h2, h3, h4, h5, h6, h7, fun k hk' i hi => ?_, h9, h10, h11⟩
  rw [sup_s]
  show _ = fup (pFo s) kd (pAt s) k i
  unfold upd fup
  by_cases e : k = kd
  · subst e
    rw [if_pos rfl, b_or, h8 k hk i hi, b_one _ ha hi]
    by_cases e2 : i = pAt s
    · simp [e2]
    · simp [e2]
  · rw [if_neg e, if_neg (fun q => e q.1)]
    exact h8 k hk' i hi
/-- a write of one field: what else stays -/
theorem xM_at {sg : SG} {s s' : PM} {inp cal i : Nat} {x : Int32} (h : xMach sg s inp cal) (hok : pOK s') (hst : ∀ j, j < pDe s' → j < pDe s ∧ pSt s' j = pSt s j) (hfo : pFo s' = pFo s) (hi : i = 2 ∨ i = 3 ∨ i = 4 ∨ i = 5 ∨ i = 6 ∨ i = 9)
    (h2 : upd (sg 1) i x 2 = nI (pDe s')) (h3 : upd (sg 1) i x 3 = nI (pk5 (pCe s'))) (h4 : upd (sg 1) i x 4 = nI (pGa s')) (h5 : upd (sg 1) i x 5 = nI (pAt s')) (h6 : upd (sg 1) i x 6 = nI (pHo s')) (h9 : upd (sg 1) i x 9 = bI (pSe s')) : xMach (sup sg 1 i x) s' inp cal := by
  have e1 : sup sg 1 i x 1 = upd (sg 1) i x := sup_s
  have e6 : sup sg 1 i x 6 = sg 6 := sup_n (by decide)
  have e8 : sup sg 1 i x 8 = sg 8 := sup_n (by decide)
  unfold xMach
  rw [e1, e6, e8, hfo]
  refine ⟨hok, h2, fun j hj => ?_, h3, h4, h5, h9, h.2.2.2.2.2.2.2.1, ?_, ?_, h6⟩
  · rw [(hst j hj).2]
    exact h.2.2.1 j (hst j hj).1
  · rw [pk_un (by omega)]
    exact h.2.2.2.2.2.2.2.2.1
  · rw [pk_un (by omega)]
    exact h.2.2.2.2.2.2.2.2.2.1
