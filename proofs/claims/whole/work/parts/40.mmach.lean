/-! the reference: its code, its machine -/
def mCode (sg : SG) (cd : CDE) : Prop := cdOK cd ∧ sg 41 0 = nI cd.1 ∧ ∀ i, i < cd.1 → sg 42 i = nI (cd.2.1 i) ∧ sg 43 i = nI (cd.2.2 i)
def mM (sg : SG) (s : PM) (inp cal : Nat) (f0 : Nat → Nat → Bool) : Prop := pOK s ∧ sg 41 8 = nI (pDe s) ∧ (∀ i, i < pDe s → sg 46 i = nI (pSt s i)) ∧ (∀ i, i < 5 → sg 44 i = nI (pCe s i)) ∧ sg 41 9 = nI (pGa s) ∧ sg 41 10 = nI (pAt s) ∧ sg 41 14 = bI (pSe s) ∧ (∀ kd, kd < 5 → ∀ i, i < 32 → bt (sg 50 kd) i = (f0 kd i || pFo s kd i)) ∧ (sg 41 11 = nI inp ∧ inp < 16) ∧ (sg 41 12 = nI cal ∧ cal < 4)
/-- what the machine of the reference leaves alone -/
def mFr (sg sg' : SG) : Prop := (∀ o, o ≠ 41 → o ≠ 44 → o ≠ 46 → o ≠ 50 → sg' o = sg o) ∧ ∀ i, i ≠ 8 → i ≠ 9 → i ≠ 10 → i ≠ 13 → i ≠ 14 → sg' 41 i = sg 41 i
theorem mFr.rf (sg : SG) : mFr sg sg := ⟨fun _ _ _ _ _ => rfl, fun _ _ _ _ _ _ => rfl⟩
theorem mFr.tr {a b c : SG} (h : mFr a b) (h' : mFr b c) : mFr a c := ⟨fun o h1 h2 h3 h4 => (h'.1 o h1 h2 h3 h4).trans (h.1 o h1 h2 h3 h4), fun i h1 h2 h3 h4 h5 => (h'.2 i h1 h2 h3 h4 h5).trans (h.2 i h1 h2 h3 h4 h5)⟩
theorem mFr.code {sg sg' : SG} {cd : CDE} (h : mFr sg sg') (hc : mCode sg cd) : mCode sg' cd := by
  unfold mCode at hc ⊢
  rw [h.2 0 (by decide) (by decide) (by decide) (by decide) (by decide), h.1 42 (by decide) (by decide) (by decide) (by decide), h.1 43 (by decide) (by decide) (by decide) (by decide)]
  exact hc
theorem mFr_f {sg : SG} {i : Nat} {x : Int32} (h : i = 8 ∨ i = 9 ∨ i = 10 ∨ i = 13 ∨ i = 14) : mFr sg (sup sg 41 i x) := ⟨fun o h1 _ _ _ => sup_n h1, fun j h1 h2 h3 h4 h5 => by rw [sup_s, pk_un (by omega)]⟩
theorem mFr_a {sg : SG} {o i : Nat} {x : Int32} (h : o = 44 ∨ o = 46 ∨ o = 50) : mFr sg (sup sg o i x) := ⟨fun q h1 h2 h3 h4 => sup_n (by omega), fun j _ _ _ _ _ => by rw [sup_n (by omega)]⟩
theorem mM_un {sg : SG} {s : PM} {inp cal : Nat} {f0 : Nat → Nat → Bool} (h : mM sg s inp cal f0) {i : Nat} (hi : i < pDe s) : sg 46 (pDe s - 1 - i) = nI (pUn s i) := by
  unfold pUn
  rw [if_pos hi]
  exact h.2.2.1 _ (by omega)
theorem mM_at {sg : SG} {s s' : PM} {inp cal i : Nat} {x : Int32} {f0 : Nat → Nat → Bool} (h : mM sg s inp cal f0) (hok : pOK s') (hst : ∀ j, j < pDe s' → j < pDe s ∧ pSt s' j = pSt s j) (hce : pCe s' = pCe s) (hfo : pFo s' = pFo s) (hi : i = 8 ∨ i = 9 ∨ i = 10 ∨ i = 13 ∨ i = 14)
    (h8 : upd (sg 41) i x 8 = nI (pDe s')) (h9 : upd (sg 41) i x 9 = nI (pGa s')) (h10 : upd (sg 41) i x 10 = nI (pAt s')) (h14 : upd (sg 41) i x 14 = bI (pSe s')) : mM (sup sg 41 i x) s' inp cal f0 := by
  have e1 : sup sg 41 i x 41 = upd (sg 41) i x := sup_s
  have e6 : sup sg 41 i x 46 = sg 46 := sup_n (by decide)
  have e4 : sup sg 41 i x 44 = sg 44 := sup_n (by decide)
  have e0 : sup sg 41 i x 50 = sg 50 := sup_n (by decide)
  unfold mM
  rw [e1, e6, e4, e0, hfo, hce]
  refine ⟨hok, h8, fun j hj => ?_, h.2.2.2.1, h9, h10, h14, h.2.2.2.2.2.2.2.1, ?_, ?_⟩
  · rw [(hst j hj).2]
    exact h.2.2.1 j (hst j hj).1
  · rw [pk_un (by omega)]
    exact h.2.2.2.2.2.2.2.2.1
  · rw [pk_un (by omega)]
    exact h.2.2.2.2.2.2.2.2.2
theorem mM_f8 {sg : SG} {s : PM} {inp cal : Nat} {f0 : Nat → Nat → Bool} {d : Nat} (hd : d ≤ pDe s) (h : mM sg s inp cal f0) : mM (sup sg 41 8 (nI d)) (pAt s, d, pGa s, pSt s, pCe s, pSe s, pFo s, pHo s, pWa s) inp cal f0 := mM_at h ⟨Nat.le_trans hd h.1.1, fun i hi => h.1.2.1 i (Nat.lt_of_lt_of_le hi hd), h.1.2.2⟩ (fun j hj => ⟨Nat.lt_of_lt_of_le hj hd, rfl⟩) rfl rfl (by omega) pk_us (by rw [pk_un (by decide)]; exact h.2.2.2.2.1) (by rw [pk_un (by decide)]; exact h.2.2.2.2.2.1) (by rw [pk_un (by decide)]; exact h.2.2.2.2.2.2.1)
theorem mM_f9 {sg : SG} {s : PM} {inp cal : Nat} {f0 : Nat → Nat → Bool} {d : Nat} (hd : d ≤ 40) (h : mM sg s inp cal f0) : mM (sup sg 41 9 (nI d)) (pAt s, pDe s, d, pSt s, pCe s, pSe s, pFo s, pHo s, pWa s) inp cal f0 := mM_at h ⟨h.1.1, h.1.2.1, h.1.2.2.1, hd, h.1.2.2.2.2⟩ (fun j hj => ⟨hj, rfl⟩) rfl rfl (by omega) (by rw [pk_un (by decide)]; exact h.2.1) pk_us (by rw [pk_un (by decide)]; exact h.2.2.2.2.2.1) (by rw [pk_un (by decide)]; exact h.2.2.2.2.2.2.1)
theorem mM_f10 {sg : SG} {s : PM} {inp cal : Nat} {f0 : Nat → Nat → Bool} {d : Nat} (hd : d ≤ 32) (h : mM sg s inp cal f0) : mM (sup sg 41 10 (nI d)) (pJmp s d) inp cal f0 := mM_at h (pJmp_ok h.1 hd) (fun j hj => ⟨hj, rfl⟩) rfl rfl (by omega) (by rw [pk_un (by decide)]; exact h.2.1) (by rw [pk_un (by decide)]; exact h.2.2.2.2.1) pk_us (by rw [pk_un (by decide)]; exact h.2.2.2.2.2.2.1)
theorem mM_f13 {sg : SG} {s : PM} {inp cal : Nat} {f0 : Nat → Nat → Bool} {x : Int32} (h : mM sg s inp cal f0) : mM (sup sg 41 13 x) s inp cal f0 := mM_at h h.1 (fun j hj => ⟨hj, rfl⟩) rfl rfl (by omega) (by rw [pk_un (by decide)]; exact h.2.1) (by rw [pk_un (by decide)]; exact h.2.2.2.2.1) (by rw [pk_un (by decide)]; exact h.2.2.2.2.2.1) (by rw [pk_un (by decide)]; exact h.2.2.2.2.2.2.1)
theorem mM_f14 {sg : SG} {s : PM} {inp cal : Nat} {f0 : Nat → Nat → Bool} {d : Bool} (h : mM sg s inp cal f0) : mM (sup sg 41 14 (bI d)) (pAt s, pDe s, pGa s, pSt s, pCe s, d, pFo s, pHo s, pWa s) inp cal f0 := mM_at h h.1 (fun j hj => ⟨hj, rfl⟩) rfl rfl (by omega) (by rw [pk_un (by decide)]; exact h.2.1) (by rw [pk_un (by decide)]; exact h.2.2.2.2.1) (by rw [pk_un (by decide)]; exact h.2.2.2.2.2.1) pk_us
theorem mM_note {sg : SG} {s : PM} {inp cal kd : Nat} {f0 : Nat → Nat → Bool} (h : mM sg s inp cal f0) (ha : pAt s < 32) (hk : kd < 5) : mM (sup sg 50 kd (sg 50 kd ||| (nI 1 <<< (nI (pAt s) &&& 31)))) (pNote s (fup (pFo s) kd (pAt s))) inp cal f0 := by
  obtain ⟨h1, h2, h3, h4, h5, h6, h7, h8, h9, h10⟩ := h
  unfold mM
  rw [sup_n (show (41 : Nat) ≠ 50 by decide), sup_n (show (46 : Nat) ≠ 50 by decide), sup_n (show (44 : Nat) ≠ 50 by decide)]
  refine ⟨pNote_ok h1, h2, h3, h4, h5, h6, h7, fun k hk' i hi => ?_, h9, h10⟩
  rw [sup_s]
  show _ = (f0 k i || fup (pFo s) kd (pAt s) k i)
  unfold upd fup
  by_cases e : k = kd
  · subst e
    rw [if_pos rfl, b_or, h8 k hk i hi, b_one _ ha hi]
    by_cases e2 : i = pAt s
    · simp [e2]
    · simp [e2]
  · rw [if_neg e, if_neg (fun q => e q.1)]
    exact h8 k hk' i hi
theorem mM_cel {sg : SG} {s : PM} {inp cal i v : Nat} {f0 : Nat → Nat → Bool} (h : mM sg s inp cal f0) (hv : v < 16) : mM (sup sg 44 i (nI v)) (pCel s (nup (pCe s) i v)) inp cal f0 := by
  obtain ⟨h1, h2, h3, h4, h5, h6, h7, h8, h9, h10⟩ := h
  unfold mM
  rw [sup_n (show (41 : Nat) ≠ 44 by decide), sup_n (show (46 : Nat) ≠ 44 by decide), sup_n (show (50 : Nat) ≠ 44 by decide)]
  refine ⟨pCel_ok h1 (nup_c16 h1.2.2.1 hv), h2, h3, fun j hj => ?_, h5, h6, h7, h8, h9, h10⟩
  rw [sup_s]
  show upd (sg 44) i (nI v) j = nI (nup (pCe s) i v j)
  unfold upd nup
  split
  · rfl
  · exact h4 j hj
theorem mM_s46 {sg : SG} {s : PM} {inp cal v i : Nat} {f0 : Nat → Nat → Bool} (h : mM sg s inp cal f0) (hv : v < 16) : mM (sup sg 46 i (nI v)) (pAt s, pDe s, pGa s, nup (pSt s) i v, pCe s, pSe s, pFo s, pHo s, pWa s) inp cal f0 := by
  unfold mM
  rw [sup_n (show (41 : Nat) ≠ 46 by decide), sup_n (show (44 : Nat) ≠ 46 by decide), sup_n (show (50 : Nat) ≠ 46 by decide), sup_s]
  refine ⟨⟨h.1.1, nup_lt h.1.2.1 hv, h.1.2.2⟩, h.2.1, fun j hj => ?_, h.2.2.2⟩
  show upd (sg 46) i (nI v) j = nI (nup (pSt s) i v j)
  unfold upd nup
  split
  · rfl
  · exact h.2.2.1 j hj
theorem mM_push {sg : SG} {s : PM} {inp cal v : Nat} {f0 : Nat → Nat → Bool} (h : mM sg s inp cal f0) (hv : v < 16) (hd : pDe s < 6) : mM (sup (sup sg 46 (pDe s) (nI v)) 41 8 (nI (pDe s + 1))) (pPush s v) inp cal f0 := by
  obtain ⟨h1, h2, h3, h4, h5, h6, h7, h8, h9, h10⟩ := h
  have e1 : sup (sup sg 46 (pDe s) (nI v)) 41 8 (nI (pDe s + 1)) 41 = upd (sg 41) 8 (nI (pDe s + 1)) := by rw [sup_s, sup_n (by decide)]
  have e6 : sup (sup sg 46 (pDe s) (nI v)) 41 8 (nI (pDe s + 1)) 46 = upd (sg 46) (pDe s) (nI v) := by rw [sup_n (by decide), sup_s]
  have e4 : sup (sup sg 46 (pDe s) (nI v)) 41 8 (nI (pDe s + 1)) 44 = sg 44 := by rw [sup_n (by decide), sup_n (by decide)]
  have e0 : sup (sup sg 46 (pDe s) (nI v)) 41 8 (nI (pDe s + 1)) 50 = sg 50 := by rw [sup_n (by decide), sup_n (by decide)]
  have u : ∀ j, j ≠ 8 → upd (sg 41) 8 (nI (pDe s + 1)) j = sg 41 j := fun j hj => pk_un hj
  unfold mM
  rw [e1, e6, e4, e0, u 9 (by decide), u 10 (by decide), u 14 (by decide), u 11 (by decide), u 12 (by decide), pk_us]
  refine ⟨pPush_ok h1 hd hv, rfl, fun j hj => ?_, h4, h5, h6, h7, h8, h9, h10⟩
  show upd (sg 46) (pDe s) (nI v) j = nI (nup (pSt s) (pDe s) v j)
  unfold upd nup
  split
  · rfl
  · have : j < pDe s + 1 := hj
    exact h3 j (by omega)
theorem k_M_takes (w : WC) (l : Launch) (sg : SG) {o : Nat} (ho : o < 25) : ew_M qS w l qy_M_takes qw_M_takes qr_M_takes [.inl (nI o)] sg (fun v sg' => v = some (.inl (nI (oTake o))) ∧ sg' = sg) := by
  refine ew_entry (ws' := qwg) (own := qR_M) (cc := qc_M_takes) (nL := 1) (ret := some .int) qnk (by decide) rfl rfl (Nat.le_of_ble_eq_true rfl) ?_
  intro k g hp
  rcases (by omega : o = 0 ∨ o = 1 ∨ o = 2 ∨ o = 3 ∨ o = 4 ∨ o = 5 ∨ o = 6 ∨ o = 7 ∨ o = 8 ∨ o = 9 ∨ o = 10 ∨ o = 11 ∨ o = 12 ∨ o = 13 ∨ o = 14 ∨ o = 15 ∨ o = 16 ∨ o = 17 ∨ o = 18 ∨ o = 19 ∨ o = 20 ∨ o = 21 ∨ o = 22 ∨ o = 23 ∨ o = 24) with rfl | rfl | rfl | rfl | rfl | rfl | rfl | rfl | rfl | rfl | rfl | rfl | rfl | rfl | rfl | rfl | rfl | rfl | rfl | rfl | rfl | rfl | rfl | rfl | rfl
  · skip
    refine ew_iload_n g qd_M_takes_0 rfl ?_
    refine ew_bipush g qd_M_takes_1 bp_6 ?_
    refine en_lt g qd_M_takes_3 (tgt := 12) (by decide) (by decide) (by decide) (fun h => ?_) (fun h => ?_)
    rotate_left
    · exact absurd h (by decide)
    refine ew_iload_n g qd_M_takes_12 rfl ?_
    refine ew_bipush g qd_M_takes_13 bp_15 ?_
    refine en_eq g qd_M_takes_15 (tgt := 24) (by decide) (by decide) (by decide) (fun h => ?_) (fun h => ?_)
    · exact absurd h (by decide)
    refine ew_iload_n g qd_M_takes_18 rfl ?_
    refine ew_bipush g qd_M_takes_19 bp_18 ?_
    refine en_ne g qd_M_takes_21 (tgt := 26) (by decide) (by decide) (by decide) (fun h => ?_) (fun h => ?_)
    rotate_left
    · exact absurd h (by decide)
    refine ew_iload_n g qd_M_takes_26 rfl ?_
    refine ew_iconst g qd_M_takes_27 ic_5 ?_
    refine en_eq g qd_M_takes_28 (tgt := 61) (by decide) (by decide) (by decide) (fun h => ?_) (fun h => ?_)
    · exact absurd h (by decide)
    refine ew_iload_n g qd_M_takes_31 rfl ?_
    refine ew_bipush g qd_M_takes_32 bp_13 ?_
    refine en_eq g qd_M_takes_34 (tgt := 61) (by decide) (by decide) (by decide) (fun h => ?_) (fun h => ?_)
    · exact absurd h (by decide)
    refine ew_iload_n g qd_M_takes_37 rfl ?_
    refine ew_bipush g qd_M_takes_38 bp_14 ?_
    refine en_eq g qd_M_takes_40 (tgt := 61) (by decide) (by decide) (by decide) (fun h => ?_) (fun h => ?_)
    · exact absurd h (by decide)
    refine ew_iload_n g qd_M_takes_43 rfl ?_
    refine ew_bipush g qd_M_takes_44 bp_17 ?_
    refine en_eq g qd_M_takes_46 (tgt := 61) (by decide) (by decide) (by decide) (fun h => ?_) (fun h => ?_)
    · exact absurd h (by decide)
    refine ew_iload_n g qd_M_takes_49 rfl ?_
    refine ew_bipush g qd_M_takes_50 bp_19 ?_
    refine en_eq g qd_M_takes_52 (tgt := 61) (by decide) (by decide) (by decide) (fun h => ?_) (fun h => ?_)
    · exact absurd h (by decide)
    refine ew_iload_n g qd_M_takes_55 rfl ?_
    refine ew_bipush g qd_M_takes_56 bp_21 ?_
    refine en_ne g qd_M_takes_58 (tgt := 65) (by decide) (by decide) (by decide) (fun h => ?_) (fun h => ?_)
    rotate_left
    · exact absurd h (by decide)
    refine ew_iconst g qd_M_takes_65 ic_0 ?_
    refine ew_iret g qd_M_takes_66 hp ?_
    exact ⟨rfl, rfl⟩
  · skip
    refine ew_iload_n g qd_M_takes_0 rfl ?_
    refine ew_bipush g qd_M_takes_1 bp_6 ?_
    refine en_lt g qd_M_takes_3 (tgt := 12) (by decide) (by decide) (by decide) (fun h => ?_) (fun h => ?_)
    rotate_left
    · exact absurd h (by decide)
    refine ew_iload_n g qd_M_takes_12 rfl ?_
    refine ew_bipush g qd_M_takes_13 bp_15 ?_
    refine en_eq g qd_M_takes_15 (tgt := 24) (by decide) (by decide) (by decide) (fun h => ?_) (fun h => ?_)
    · exact absurd h (by decide)
    refine ew_iload_n g qd_M_takes_18 rfl ?_
    refine ew_bipush g qd_M_takes_19 bp_18 ?_
    refine en_ne g qd_M_takes_21 (tgt := 26) (by decide) (by decide) (by decide) (fun h => ?_) (fun h => ?_)
    rotate_left
    · exact absurd h (by decide)
    refine ew_iload_n g qd_M_takes_26 rfl ?_
    refine ew_iconst g qd_M_takes_27 ic_5 ?_
    refine en_eq g qd_M_takes_28 (tgt := 61) (by decide) (by decide) (by decide) (fun h => ?_) (fun h => ?_)
    · exact absurd h (by decide)
    refine ew_iload_n g qd_M_takes_31 rfl ?_
    refine ew_bipush g qd_M_takes_32 bp_13 ?_
    refine en_eq g qd_M_takes_34 (tgt := 61) (by decide) (by decide) (by decide) (fun h => ?_) (fun h => ?_)
    · exact absurd h (by decide)
    refine ew_iload_n g qd_M_takes_37 rfl ?_
    refine ew_bipush g qd_M_takes_38 bp_14 ?_
    refine en_eq g qd_M_takes_40 (tgt := 61) (by decide) (by decide) (by decide) (fun h => ?_) (fun h => ?_)
    · exact absurd h (by decide)
    refine ew_iload_n g qd_M_takes_43 rfl ?_
    refine ew_bipush g qd_M_takes_44 bp_17 ?_
    refine en_eq g qd_M_takes_46 (tgt := 61) (by decide) (by decide) (by decide) (fun h => ?_) (fun h => ?_)
    · exact absurd h (by decide)
    refine ew_iload_n g qd_M_takes_49 rfl ?_
    refine ew_bipush g qd_M_takes_50 bp_19 ?_
    refine en_eq g qd_M_takes_52 (tgt := 61) (by decide) (by decide) (by decide) (fun h => ?_) (fun h => ?_)
    · exact absurd h (by decide)
    refine ew_iload_n g qd_M_takes_55 rfl ?_
    refine ew_bipush g qd_M_takes_56 bp_21 ?_
    refine en_ne g qd_M_takes_58 (tgt := 65) (by decide) (by decide) (by decide) (fun h => ?_) (fun h => ?_)
    rotate_left
    · exact absurd h (by decide)
    refine ew_iconst g qd_M_takes_65 ic_0 ?_
    refine ew_iret g qd_M_takes_66 hp ?_
    exact ⟨rfl, rfl⟩
  · skip
    refine ew_iload_n g qd_M_takes_0 rfl ?_
    refine ew_bipush g qd_M_takes_1 bp_6 ?_
    refine en_lt g qd_M_takes_3 (tgt := 12) (by decide) (by decide) (by decide) (fun h => ?_) (fun h => ?_)
    rotate_left
    · exact absurd h (by decide)
    refine ew_iload_n g qd_M_takes_12 rfl ?_
    refine ew_bipush g qd_M_takes_13 bp_15 ?_
    refine en_eq g qd_M_takes_15 (tgt := 24) (by decide) (by decide) (by decide) (fun h => ?_) (fun h => ?_)
    · exact absurd h (by decide)
    refine ew_iload_n g qd_M_takes_18 rfl ?_
    refine ew_bipush g qd_M_takes_19 bp_18 ?_
    refine en_ne g qd_M_takes_21 (tgt := 26) (by decide) (by decide) (by decide) (fun h => ?_) (fun h => ?_)
    rotate_left
    · exact absurd h (by decide)
    refine ew_iload_n g qd_M_takes_26 rfl ?_
    refine ew_iconst g qd_M_takes_27 ic_5 ?_
    refine en_eq g qd_M_takes_28 (tgt := 61) (by decide) (by decide) (by decide) (fun h => ?_) (fun h => ?_)
    · exact absurd h (by decide)
    refine ew_iload_n g qd_M_takes_31 rfl ?_
    refine ew_bipush g qd_M_takes_32 bp_13 ?_
    refine en_eq g qd_M_takes_34 (tgt := 61) (by decide) (by decide) (by decide) (fun h => ?_) (fun h => ?_)
    · exact absurd h (by decide)
    refine ew_iload_n g qd_M_takes_37 rfl ?_
    refine ew_bipush g qd_M_takes_38 bp_14 ?_
    refine en_eq g qd_M_takes_40 (tgt := 61) (by decide) (by decide) (by decide) (fun h => ?_) (fun h => ?_)
    · exact absurd h (by decide)
    refine ew_iload_n g qd_M_takes_43 rfl ?_
    refine ew_bipush g qd_M_takes_44 bp_17 ?_
    refine en_eq g qd_M_takes_46 (tgt := 61) (by decide) (by decide) (by decide) (fun h => ?_) (fun h => ?_)
    · exact absurd h (by decide)
    refine ew_iload_n g qd_M_takes_49 rfl ?_
    refine ew_bipush g qd_M_takes_50 bp_19 ?_
    refine en_eq g qd_M_takes_52 (tgt := 61) (by decide) (by decide) (by decide) (fun h => ?_) (fun h => ?_)
    · exact absurd h (by decide)
    refine ew_iload_n g qd_M_takes_55 rfl ?_
    refine ew_bipush g qd_M_takes_56 bp_21 ?_
    refine en_ne g qd_M_takes_58 (tgt := 65) (by decide) (by decide) (by decide) (fun h => ?_) (fun h => ?_)
    rotate_left
    · exact absurd h (by decide)
    refine ew_iconst g qd_M_takes_65 ic_0 ?_
    refine ew_iret g qd_M_takes_66 hp ?_
    exact ⟨rfl, rfl⟩
  · skip
    refine ew_iload_n g qd_M_takes_0 rfl ?_
    refine ew_bipush g qd_M_takes_1 bp_6 ?_
    refine en_lt g qd_M_takes_3 (tgt := 12) (by decide) (by decide) (by decide) (fun h => ?_) (fun h => ?_)
    rotate_left
    · exact absurd h (by decide)
    refine ew_iload_n g qd_M_takes_12 rfl ?_
    refine ew_bipush g qd_M_takes_13 bp_15 ?_
    refine en_eq g qd_M_takes_15 (tgt := 24) (by decide) (by decide) (by decide) (fun h => ?_) (fun h => ?_)
    · exact absurd h (by decide)
    refine ew_iload_n g qd_M_takes_18 rfl ?_
    refine ew_bipush g qd_M_takes_19 bp_18 ?_
    refine en_ne g qd_M_takes_21 (tgt := 26) (by decide) (by decide) (by decide) (fun h => ?_) (fun h => ?_)
    rotate_left
    · exact absurd h (by decide)
    refine ew_iload_n g qd_M_takes_26 rfl ?_
    refine ew_iconst g qd_M_takes_27 ic_5 ?_
    refine en_eq g qd_M_takes_28 (tgt := 61) (by decide) (by decide) (by decide) (fun h => ?_) (fun h => ?_)
    · exact absurd h (by decide)
    refine ew_iload_n g qd_M_takes_31 rfl ?_
    refine ew_bipush g qd_M_takes_32 bp_13 ?_
    refine en_eq g qd_M_takes_34 (tgt := 61) (by decide) (by decide) (by decide) (fun h => ?_) (fun h => ?_)
    · exact absurd h (by decide)
    refine ew_iload_n g qd_M_takes_37 rfl ?_
    refine ew_bipush g qd_M_takes_38 bp_14 ?_
    refine en_eq g qd_M_takes_40 (tgt := 61) (by decide) (by decide) (by decide) (fun h => ?_) (fun h => ?_)
    · exact absurd h (by decide)
    refine ew_iload_n g qd_M_takes_43 rfl ?_
    refine ew_bipush g qd_M_takes_44 bp_17 ?_
    refine en_eq g qd_M_takes_46 (tgt := 61) (by decide) (by decide) (by decide) (fun h => ?_) (fun h => ?_)
    · exact absurd h (by decide)
    refine ew_iload_n g qd_M_takes_49 rfl ?_
    refine ew_bipush g qd_M_takes_50 bp_19 ?_
    refine en_eq g qd_M_takes_52 (tgt := 61) (by decide) (by decide) (by decide) (fun h => ?_) (fun h => ?_)
    · exact absurd h (by decide)
    refine ew_iload_n g qd_M_takes_55 rfl ?_
    refine ew_bipush g qd_M_takes_56 bp_21 ?_
    refine en_ne g qd_M_takes_58 (tgt := 65) (by decide) (by decide) (by decide) (fun h => ?_) (fun h => ?_)
    rotate_left
    · exact absurd h (by decide)
    refine ew_iconst g qd_M_takes_65 ic_0 ?_
    refine ew_iret g qd_M_takes_66 hp ?_
    exact ⟨rfl, rfl⟩
  · skip
    refine ew_iload_n g qd_M_takes_0 rfl ?_
    refine ew_bipush g qd_M_takes_1 bp_6 ?_
    refine en_lt g qd_M_takes_3 (tgt := 12) (by decide) (by decide) (by decide) (fun h => ?_) (fun h => ?_)
    rotate_left
    · exact absurd h (by decide)
    refine ew_iload_n g qd_M_takes_12 rfl ?_
    refine ew_bipush g qd_M_takes_13 bp_15 ?_
    refine en_eq g qd_M_takes_15 (tgt := 24) (by decide) (by decide) (by decide) (fun h => ?_) (fun h => ?_)
    · exact absurd h (by decide)
    refine ew_iload_n g qd_M_takes_18 rfl ?_
    refine ew_bipush g qd_M_takes_19 bp_18 ?_
    refine en_ne g qd_M_takes_21 (tgt := 26) (by decide) (by decide) (by decide) (fun h => ?_) (fun h => ?_)
    rotate_left
    · exact absurd h (by decide)
    refine ew_iload_n g qd_M_takes_26 rfl ?_
    refine ew_iconst g qd_M_takes_27 ic_5 ?_
    refine en_eq g qd_M_takes_28 (tgt := 61) (by decide) (by decide) (by decide) (fun h => ?_) (fun h => ?_)
    · exact absurd h (by decide)
    refine ew_iload_n g qd_M_takes_31 rfl ?_
    refine ew_bipush g qd_M_takes_32 bp_13 ?_
    refine en_eq g qd_M_takes_34 (tgt := 61) (by decide) (by decide) (by decide) (fun h => ?_) (fun h => ?_)
    · exact absurd h (by decide)
    refine ew_iload_n g qd_M_takes_37 rfl ?_
    refine ew_bipush g qd_M_takes_38 bp_14 ?_
    refine en_eq g qd_M_takes_40 (tgt := 61) (by decide) (by decide) (by decide) (fun h => ?_) (fun h => ?_)
    · exact absurd h (by decide)
    refine ew_iload_n g qd_M_takes_43 rfl ?_
    refine ew_bipush g qd_M_takes_44 bp_17 ?_
    refine en_eq g qd_M_takes_46 (tgt := 61) (by decide) (by decide) (by decide) (fun h => ?_) (fun h => ?_)
    · exact absurd h (by decide)
    refine ew_iload_n g qd_M_takes_49 rfl ?_
    refine ew_bipush g qd_M_takes_50 bp_19 ?_
    refine en_eq g qd_M_takes_52 (tgt := 61) (by decide) (by decide) (by decide) (fun h => ?_) (fun h => ?_)
    · exact absurd h (by decide)
    refine ew_iload_n g qd_M_takes_55 rfl ?_
    refine ew_bipush g qd_M_takes_56 bp_21 ?_
    refine en_ne g qd_M_takes_58 (tgt := 65) (by decide) (by decide) (by decide) (fun h => ?_) (fun h => ?_)
    rotate_left
    · exact absurd h (by decide)
    refine ew_iconst g qd_M_takes_65 ic_0 ?_
    refine ew_iret g qd_M_takes_66 hp ?_
    exact ⟨rfl, rfl⟩
  · skip
    refine ew_iload_n g qd_M_takes_0 rfl ?_
    refine ew_bipush g qd_M_takes_1 bp_6 ?_
    refine en_lt g qd_M_takes_3 (tgt := 12) (by decide) (by decide) (by decide) (fun h => ?_) (fun h => ?_)
    rotate_left
    · exact absurd h (by decide)
    refine ew_iload_n g qd_M_takes_12 rfl ?_
    refine ew_bipush g qd_M_takes_13 bp_15 ?_
    refine en_eq g qd_M_takes_15 (tgt := 24) (by decide) (by decide) (by decide) (fun h => ?_) (fun h => ?_)
    · exact absurd h (by decide)
    refine ew_iload_n g qd_M_takes_18 rfl ?_
    refine ew_bipush g qd_M_takes_19 bp_18 ?_
    refine en_ne g qd_M_takes_21 (tgt := 26) (by decide) (by decide) (by decide) (fun h => ?_) (fun h => ?_)
    rotate_left
    · exact absurd h (by decide)
    refine ew_iload_n g qd_M_takes_26 rfl ?_
    refine ew_iconst g qd_M_takes_27 ic_5 ?_
    refine en_eq g qd_M_takes_28 (tgt := 61) (by decide) (by decide) (by decide) (fun h => ?_) (fun h => ?_)
    rotate_left
    · exact absurd h (by decide)
    refine ew_iconst g qd_M_takes_61 ic_1 ?_
    refine ew_goto g qd_M_takes_62 (tgt := 66) (by decide) ?_
    refine ew_iret g qd_M_takes_66 hp ?_
    exact ⟨rfl, rfl⟩
  · skip
    refine ew_iload_n g qd_M_takes_0 rfl ?_
    refine ew_bipush g qd_M_takes_1 bp_6 ?_
    refine en_lt g qd_M_takes_3 (tgt := 12) (by decide) (by decide) (by decide) (fun h => ?_) (fun h => ?_)
    · exact absurd h (by decide)
    refine ew_iload_n g qd_M_takes_6 rfl ?_
    refine ew_bipush g qd_M_takes_7 bp_12 ?_
    refine en_le g qd_M_takes_9 (tgt := 24) (by decide) (by decide) (by decide) (fun h => ?_) (fun h => ?_)
    rotate_left
    · exact absurd h (by decide)
    refine ew_iconst g qd_M_takes_24 ic_2 ?_
    refine ew_iret g qd_M_takes_25 hp ?_
    exact ⟨rfl, rfl⟩
  · skip
    refine ew_iload_n g qd_M_takes_0 rfl ?_
    refine ew_bipush g qd_M_takes_1 bp_6 ?_
    refine en_lt g qd_M_takes_3 (tgt := 12) (by decide) (by decide) (by decide) (fun h => ?_) (fun h => ?_)
    · exact absurd h (by decide)
    refine ew_iload_n g qd_M_takes_6 rfl ?_
    refine ew_bipush g qd_M_takes_7 bp_12 ?_
    refine en_le g qd_M_takes_9 (tgt := 24) (by decide) (by decide) (by decide) (fun h => ?_) (fun h => ?_)
    rotate_left
    · exact absurd h (by decide)
    refine ew_iconst g qd_M_takes_24 ic_2 ?_
    refine ew_iret g qd_M_takes_25 hp ?_
    exact ⟨rfl, rfl⟩
  · skip
    refine ew_iload_n g qd_M_takes_0 rfl ?_
    refine ew_bipush g qd_M_takes_1 bp_6 ?_
    refine en_lt g qd_M_takes_3 (tgt := 12) (by decide) (by decide) (by decide) (fun h => ?_) (fun h => ?_)
    · exact absurd h (by decide)
    refine ew_iload_n g qd_M_takes_6 rfl ?_
    refine ew_bipush g qd_M_takes_7 bp_12 ?_
    refine en_le g qd_M_takes_9 (tgt := 24) (by decide) (by decide) (by decide) (fun h => ?_) (fun h => ?_)
    rotate_left
    · exact absurd h (by decide)
    refine ew_iconst g qd_M_takes_24 ic_2 ?_
    refine ew_iret g qd_M_takes_25 hp ?_
    exact ⟨rfl, rfl⟩
  · skip
    refine ew_iload_n g qd_M_takes_0 rfl ?_
    refine ew_bipush g qd_M_takes_1 bp_6 ?_
    refine en_lt g qd_M_takes_3 (tgt := 12) (by decide) (by decide) (by decide) (fun h => ?_) (fun h => ?_)
    · exact absurd h (by decide)
    refine ew_iload_n g qd_M_takes_6 rfl ?_
    refine ew_bipush g qd_M_takes_7 bp_12 ?_
    refine en_le g qd_M_takes_9 (tgt := 24) (by decide) (by decide) (by decide) (fun h => ?_) (fun h => ?_)
    rotate_left
    · exact absurd h (by decide)
    refine ew_iconst g qd_M_takes_24 ic_2 ?_
    refine ew_iret g qd_M_takes_25 hp ?_
    exact ⟨rfl, rfl⟩
  · skip
    refine ew_iload_n g qd_M_takes_0 rfl ?_
    refine ew_bipush g qd_M_takes_1 bp_6 ?_
    refine en_lt g qd_M_takes_3 (tgt := 12) (by decide) (by decide) (by decide) (fun h => ?_) (fun h => ?_)
    · exact absurd h (by decide)
    refine ew_iload_n g qd_M_takes_6 rfl ?_
    refine ew_bipush g qd_M_takes_7 bp_12 ?_
    refine en_le g qd_M_takes_9 (tgt := 24) (by decide) (by decide) (by decide) (fun h => ?_) (fun h => ?_)
    rotate_left
    · exact absurd h (by decide)
    refine ew_iconst g qd_M_takes_24 ic_2 ?_
    refine ew_iret g qd_M_takes_25 hp ?_
    exact ⟨rfl, rfl⟩
  · skip
    refine ew_iload_n g qd_M_takes_0 rfl ?_
    refine ew_bipush g qd_M_takes_1 bp_6 ?_
    refine en_lt g qd_M_takes_3 (tgt := 12) (by decide) (by decide) (by decide) (fun h => ?_) (fun h => ?_)
    · exact absurd h (by decide)
    refine ew_iload_n g qd_M_takes_6 rfl ?_
    refine ew_bipush g qd_M_takes_7 bp_12 ?_
    refine en_le g qd_M_takes_9 (tgt := 24) (by decide) (by decide) (by decide) (fun h => ?_) (fun h => ?_)
    rotate_left
    · exact absurd h (by decide)
    refine ew_iconst g qd_M_takes_24 ic_2 ?_
    refine ew_iret g qd_M_takes_25 hp ?_
    exact ⟨rfl, rfl⟩
  · skip
    refine ew_iload_n g qd_M_takes_0 rfl ?_
    refine ew_bipush g qd_M_takes_1 bp_6 ?_
    refine en_lt g qd_M_takes_3 (tgt := 12) (by decide) (by decide) (by decide) (fun h => ?_) (fun h => ?_)
    · exact absurd h (by decide)
    refine ew_iload_n g qd_M_takes_6 rfl ?_
    refine ew_bipush g qd_M_takes_7 bp_12 ?_
    refine en_le g qd_M_takes_9 (tgt := 24) (by decide) (by decide) (by decide) (fun h => ?_) (fun h => ?_)
    rotate_left
    · exact absurd h (by decide)
    refine ew_iconst g qd_M_takes_24 ic_2 ?_
    refine ew_iret g qd_M_takes_25 hp ?_
    exact ⟨rfl, rfl⟩
  · skip
    refine ew_iload_n g qd_M_takes_0 rfl ?_
    refine ew_bipush g qd_M_takes_1 bp_6 ?_
    refine en_lt g qd_M_takes_3 (tgt := 12) (by decide) (by decide) (by decide) (fun h => ?_) (fun h => ?_)
    · exact absurd h (by decide)
    refine ew_iload_n g qd_M_takes_6 rfl ?_
    refine ew_bipush g qd_M_takes_7 bp_12 ?_
    refine en_le g qd_M_takes_9 (tgt := 24) (by decide) (by decide) (by decide) (fun h => ?_) (fun h => ?_)
    · exact absurd h (by decide)
    refine ew_iload_n g qd_M_takes_12 rfl ?_
    refine ew_bipush g qd_M_takes_13 bp_15 ?_
    refine en_eq g qd_M_takes_15 (tgt := 24) (by decide) (by decide) (by decide) (fun h => ?_) (fun h => ?_)
    · exact absurd h (by decide)
    refine ew_iload_n g qd_M_takes_18 rfl ?_
    refine ew_bipush g qd_M_takes_19 bp_18 ?_
    refine en_ne g qd_M_takes_21 (tgt := 26) (by decide) (by decide) (by decide) (fun h => ?_) (fun h => ?_)
    rotate_left
    · exact absurd h (by decide)
    refine ew_iload_n g qd_M_takes_26 rfl ?_
    refine ew_iconst g qd_M_takes_27 ic_5 ?_
    refine en_eq g qd_M_takes_28 (tgt := 61) (by decide) (by decide) (by decide) (fun h => ?_) (fun h => ?_)
    · exact absurd h (by decide)
    refine ew_iload_n g qd_M_takes_31 rfl ?_
    refine ew_bipush g qd_M_takes_32 bp_13 ?_
    refine en_eq g qd_M_takes_34 (tgt := 61) (by decide) (by decide) (by decide) (fun h => ?_) (fun h => ?_)
    rotate_left
    · exact absurd h (by decide)
    refine ew_iconst g qd_M_takes_61 ic_1 ?_
    refine ew_goto g qd_M_takes_62 (tgt := 66) (by decide) ?_
    refine ew_iret g qd_M_takes_66 hp ?_
    exact ⟨rfl, rfl⟩
  · skip
    refine ew_iload_n g qd_M_takes_0 rfl ?_
    refine ew_bipush g qd_M_takes_1 bp_6 ?_
    refine en_lt g qd_M_takes_3 (tgt := 12) (by decide) (by decide) (by decide) (fun h => ?_) (fun h => ?_)
    · exact absurd h (by decide)
    refine ew_iload_n g qd_M_takes_6 rfl ?_
    refine ew_bipush g qd_M_takes_7 bp_12 ?_
    refine en_le g qd_M_takes_9 (tgt := 24) (by decide) (by decide) (by decide) (fun h => ?_) (fun h => ?_)
    · exact absurd h (by decide)
    refine ew_iload_n g qd_M_takes_12 rfl ?_
    refine ew_bipush g qd_M_takes_13 bp_15 ?_
    refine en_eq g qd_M_takes_15 (tgt := 24) (by decide) (by decide) (by decide) (fun h => ?_) (fun h => ?_)
    · exact absurd h (by decide)
    refine ew_iload_n g qd_M_takes_18 rfl ?_
    refine ew_bipush g qd_M_takes_19 bp_18 ?_
    refine en_ne g qd_M_takes_21 (tgt := 26) (by decide) (by decide) (by decide) (fun h => ?_) (fun h => ?_)
    rotate_left
    · exact absurd h (by decide)
    refine ew_iload_n g qd_M_takes_26 rfl ?_
    refine ew_iconst g qd_M_takes_27 ic_5 ?_
    refine en_eq g qd_M_takes_28 (tgt := 61) (by decide) (by decide) (by decide) (fun h => ?_) (fun h => ?_)
    · exact absurd h (by decide)
    refine ew_iload_n g qd_M_takes_31 rfl ?_
    refine ew_bipush g qd_M_takes_32 bp_13 ?_
    refine en_eq g qd_M_takes_34 (tgt := 61) (by decide) (by decide) (by decide) (fun h => ?_) (fun h => ?_)
    · exact absurd h (by decide)
    refine ew_iload_n g qd_M_takes_37 rfl ?_
    refine ew_bipush g qd_M_takes_38 bp_14 ?_
    refine en_eq g qd_M_takes_40 (tgt := 61) (by decide) (by decide) (by decide) (fun h => ?_) (fun h => ?_)
    rotate_left
    · exact absurd h (by decide)
    refine ew_iconst g qd_M_takes_61 ic_1 ?_
    refine ew_goto g qd_M_takes_62 (tgt := 66) (by decide) ?_
    refine ew_iret g qd_M_takes_66 hp ?_
    exact ⟨rfl, rfl⟩
  · skip
    refine ew_iload_n g qd_M_takes_0 rfl ?_
    refine ew_bipush g qd_M_takes_1 bp_6 ?_
    refine en_lt g qd_M_takes_3 (tgt := 12) (by decide) (by decide) (by decide) (fun h => ?_) (fun h => ?_)
    · exact absurd h (by decide)
    refine ew_iload_n g qd_M_takes_6 rfl ?_
    refine ew_bipush g qd_M_takes_7 bp_12 ?_
    refine en_le g qd_M_takes_9 (tgt := 24) (by decide) (by decide) (by decide) (fun h => ?_) (fun h => ?_)
    · exact absurd h (by decide)
    refine ew_iload_n g qd_M_takes_12 rfl ?_
    refine ew_bipush g qd_M_takes_13 bp_15 ?_
    refine en_eq g qd_M_takes_15 (tgt := 24) (by decide) (by decide) (by decide) (fun h => ?_) (fun h => ?_)
    rotate_left
    · exact absurd h (by decide)
    refine ew_iconst g qd_M_takes_24 ic_2 ?_
    refine ew_iret g qd_M_takes_25 hp ?_
    exact ⟨rfl, rfl⟩
  · skip
    refine ew_iload_n g qd_M_takes_0 rfl ?_
    refine ew_bipush g qd_M_takes_1 bp_6 ?_
    refine en_lt g qd_M_takes_3 (tgt := 12) (by decide) (by decide) (by decide) (fun h => ?_) (fun h => ?_)
    · exact absurd h (by decide)
    refine ew_iload_n g qd_M_takes_6 rfl ?_
    refine ew_bipush g qd_M_takes_7 bp_12 ?_
    refine en_le g qd_M_takes_9 (tgt := 24) (by decide) (by decide) (by decide) (fun h => ?_) (fun h => ?_)
    · exact absurd h (by decide)
    refine ew_iload_n g qd_M_takes_12 rfl ?_
    refine ew_bipush g qd_M_takes_13 bp_15 ?_
    refine en_eq g qd_M_takes_15 (tgt := 24) (by decide) (by decide) (by decide) (fun h => ?_) (fun h => ?_)
    · exact absurd h (by decide)
    refine ew_iload_n g qd_M_takes_18 rfl ?_
    refine ew_bipush g qd_M_takes_19 bp_18 ?_
    refine en_ne g qd_M_takes_21 (tgt := 26) (by decide) (by decide) (by decide) (fun h => ?_) (fun h => ?_)
    rotate_left
    · exact absurd h (by decide)
    refine ew_iload_n g qd_M_takes_26 rfl ?_
    refine ew_iconst g qd_M_takes_27 ic_5 ?_
    refine en_eq g qd_M_takes_28 (tgt := 61) (by decide) (by decide) (by decide) (fun h => ?_) (fun h => ?_)
    · exact absurd h (by decide)
    refine ew_iload_n g qd_M_takes_31 rfl ?_
    refine ew_bipush g qd_M_takes_32 bp_13 ?_
    refine en_eq g qd_M_takes_34 (tgt := 61) (by decide) (by decide) (by decide) (fun h => ?_) (fun h => ?_)
    · exact absurd h (by decide)
    refine ew_iload_n g qd_M_takes_37 rfl ?_
    refine ew_bipush g qd_M_takes_38 bp_14 ?_
    refine en_eq g qd_M_takes_40 (tgt := 61) (by decide) (by decide) (by decide) (fun h => ?_) (fun h => ?_)
    · exact absurd h (by decide)
    refine ew_iload_n g qd_M_takes_43 rfl ?_
    refine ew_bipush g qd_M_takes_44 bp_17 ?_
    refine en_eq g qd_M_takes_46 (tgt := 61) (by decide) (by decide) (by decide) (fun h => ?_) (fun h => ?_)
    · exact absurd h (by decide)
    refine ew_iload_n g qd_M_takes_49 rfl ?_
    refine ew_bipush g qd_M_takes_50 bp_19 ?_
    refine en_eq g qd_M_takes_52 (tgt := 61) (by decide) (by decide) (by decide) (fun h => ?_) (fun h => ?_)
    · exact absurd h (by decide)
    refine ew_iload_n g qd_M_takes_55 rfl ?_
    refine ew_bipush g qd_M_takes_56 bp_21 ?_
    refine en_ne g qd_M_takes_58 (tgt := 65) (by decide) (by decide) (by decide) (fun h => ?_) (fun h => ?_)
    rotate_left
    · exact absurd h (by decide)
    refine ew_iconst g qd_M_takes_65 ic_0 ?_
    refine ew_iret g qd_M_takes_66 hp ?_
    exact ⟨rfl, rfl⟩
  · skip
    refine ew_iload_n g qd_M_takes_0 rfl ?_
    refine ew_bipush g qd_M_takes_1 bp_6 ?_
    refine en_lt g qd_M_takes_3 (tgt := 12) (by decide) (by decide) (by decide) (fun h => ?_) (fun h => ?_)
    · exact absurd h (by decide)
    refine ew_iload_n g qd_M_takes_6 rfl ?_
    refine ew_bipush g qd_M_takes_7 bp_12 ?_
    refine en_le g qd_M_takes_9 (tgt := 24) (by decide) (by decide) (by decide) (fun h => ?_) (fun h => ?_)
    · exact absurd h (by decide)
    refine ew_iload_n g qd_M_takes_12 rfl ?_
    refine ew_bipush g qd_M_takes_13 bp_15 ?_
    refine en_eq g qd_M_takes_15 (tgt := 24) (by decide) (by decide) (by decide) (fun h => ?_) (fun h => ?_)
    · exact absurd h (by decide)
    refine ew_iload_n g qd_M_takes_18 rfl ?_
    refine ew_bipush g qd_M_takes_19 bp_18 ?_
    refine en_ne g qd_M_takes_21 (tgt := 26) (by decide) (by decide) (by decide) (fun h => ?_) (fun h => ?_)
    rotate_left
    · exact absurd h (by decide)
    refine ew_iload_n g qd_M_takes_26 rfl ?_
    refine ew_iconst g qd_M_takes_27 ic_5 ?_
    refine en_eq g qd_M_takes_28 (tgt := 61) (by decide) (by decide) (by decide) (fun h => ?_) (fun h => ?_)
    · exact absurd h (by decide)
    refine ew_iload_n g qd_M_takes_31 rfl ?_
    refine ew_bipush g qd_M_takes_32 bp_13 ?_
    refine en_eq g qd_M_takes_34 (tgt := 61) (by decide) (by decide) (by decide) (fun h => ?_) (fun h => ?_)
    · exact absurd h (by decide)
    refine ew_iload_n g qd_M_takes_37 rfl ?_
    refine ew_bipush g qd_M_takes_38 bp_14 ?_
    refine en_eq g qd_M_takes_40 (tgt := 61) (by decide) (by decide) (by decide) (fun h => ?_) (fun h => ?_)
    · exact absurd h (by decide)
    refine ew_iload_n g qd_M_takes_43 rfl ?_
    refine ew_bipush g qd_M_takes_44 bp_17 ?_
    refine en_eq g qd_M_takes_46 (tgt := 61) (by decide) (by decide) (by decide) (fun h => ?_) (fun h => ?_)
    rotate_left
    · exact absurd h (by decide)
    refine ew_iconst g qd_M_takes_61 ic_1 ?_
    refine ew_goto g qd_M_takes_62 (tgt := 66) (by decide) ?_
    refine ew_iret g qd_M_takes_66 hp ?_
    exact ⟨rfl, rfl⟩
  · skip
    refine ew_iload_n g qd_M_takes_0 rfl ?_
    refine ew_bipush g qd_M_takes_1 bp_6 ?_
    refine en_lt g qd_M_takes_3 (tgt := 12) (by decide) (by decide) (by decide) (fun h => ?_) (fun h => ?_)
    · exact absurd h (by decide)
    refine ew_iload_n g qd_M_takes_6 rfl ?_
    refine ew_bipush g qd_M_takes_7 bp_12 ?_
    refine en_le g qd_M_takes_9 (tgt := 24) (by decide) (by decide) (by decide) (fun h => ?_) (fun h => ?_)
    · exact absurd h (by decide)
    refine ew_iload_n g qd_M_takes_12 rfl ?_
    refine ew_bipush g qd_M_takes_13 bp_15 ?_
    refine en_eq g qd_M_takes_15 (tgt := 24) (by decide) (by decide) (by decide) (fun h => ?_) (fun h => ?_)
    · exact absurd h (by decide)
    refine ew_iload_n g qd_M_takes_18 rfl ?_
    refine ew_bipush g qd_M_takes_19 bp_18 ?_
    refine en_ne g qd_M_takes_21 (tgt := 26) (by decide) (by decide) (by decide) (fun h => ?_) (fun h => ?_)
    · exact absurd h (by decide)
    refine ew_iconst g qd_M_takes_24 ic_2 ?_
    refine ew_iret g qd_M_takes_25 hp ?_
    exact ⟨rfl, rfl⟩
  · skip
    refine ew_iload_n g qd_M_takes_0 rfl ?_
    refine ew_bipush g qd_M_takes_1 bp_6 ?_
    refine en_lt g qd_M_takes_3 (tgt := 12) (by decide) (by decide) (by decide) (fun h => ?_) (fun h => ?_)
    · exact absurd h (by decide)
    refine ew_iload_n g qd_M_takes_6 rfl ?_
    refine ew_bipush g qd_M_takes_7 bp_12 ?_
    refine en_le g qd_M_takes_9 (tgt := 24) (by decide) (by decide) (by decide) (fun h => ?_) (fun h => ?_)
    · exact absurd h (by decide)
    refine ew_iload_n g qd_M_takes_12 rfl ?_
    refine ew_bipush g qd_M_takes_13 bp_15 ?_
    refine en_eq g qd_M_takes_15 (tgt := 24) (by decide) (by decide) (by decide) (fun h => ?_) (fun h => ?_)
    · exact absurd h (by decide)
    refine ew_iload_n g qd_M_takes_18 rfl ?_
    refine ew_bipush g qd_M_takes_19 bp_18 ?_
    refine en_ne g qd_M_takes_21 (tgt := 26) (by decide) (by decide) (by decide) (fun h => ?_) (fun h => ?_)
    rotate_left
    · exact absurd h (by decide)
    refine ew_iload_n g qd_M_takes_26 rfl ?_
    refine ew_iconst g qd_M_takes_27 ic_5 ?_
    refine en_eq g qd_M_takes_28 (tgt := 61) (by decide) (by decide) (by decide) (fun h => ?_) (fun h => ?_)
    · exact absurd h (by decide)
    refine ew_iload_n g qd_M_takes_31 rfl ?_
    refine ew_bipush g qd_M_takes_32 bp_13 ?_
    refine en_eq g qd_M_takes_34 (tgt := 61) (by decide) (by decide) (by decide) (fun h => ?_) (fun h => ?_)
    · exact absurd h (by decide)
    refine ew_iload_n g qd_M_takes_37 rfl ?_
    refine ew_bipush g qd_M_takes_38 bp_14 ?_
    refine en_eq g qd_M_takes_40 (tgt := 61) (by decide) (by decide) (by decide) (fun h => ?_) (fun h => ?_)
    · exact absurd h (by decide)
    refine ew_iload_n g qd_M_takes_43 rfl ?_
    refine ew_bipush g qd_M_takes_44 bp_17 ?_
    refine en_eq g qd_M_takes_46 (tgt := 61) (by decide) (by decide) (by decide) (fun h => ?_) (fun h => ?_)
    · exact absurd h (by decide)
    refine ew_iload_n g qd_M_takes_49 rfl ?_
    refine ew_bipush g qd_M_takes_50 bp_19 ?_
    refine en_eq g qd_M_takes_52 (tgt := 61) (by decide) (by decide) (by decide) (fun h => ?_) (fun h => ?_)
    rotate_left
    · exact absurd h (by decide)
    refine ew_iconst g qd_M_takes_61 ic_1 ?_
    refine ew_goto g qd_M_takes_62 (tgt := 66) (by decide) ?_
    refine ew_iret g qd_M_takes_66 hp ?_
    exact ⟨rfl, rfl⟩
  · skip
    refine ew_iload_n g qd_M_takes_0 rfl ?_
    refine ew_bipush g qd_M_takes_1 bp_6 ?_
    refine en_lt g qd_M_takes_3 (tgt := 12) (by decide) (by decide) (by decide) (fun h => ?_) (fun h => ?_)
    · exact absurd h (by decide)
    refine ew_iload_n g qd_M_takes_6 rfl ?_
    refine ew_bipush g qd_M_takes_7 bp_12 ?_
    refine en_le g qd_M_takes_9 (tgt := 24) (by decide) (by decide) (by decide) (fun h => ?_) (fun h => ?_)
    · exact absurd h (by decide)
    refine ew_iload_n g qd_M_takes_12 rfl ?_
    refine ew_bipush g qd_M_takes_13 bp_15 ?_
    refine en_eq g qd_M_takes_15 (tgt := 24) (by decide) (by decide) (by decide) (fun h => ?_) (fun h => ?_)
    · exact absurd h (by decide)
    refine ew_iload_n g qd_M_takes_18 rfl ?_
    refine ew_bipush g qd_M_takes_19 bp_18 ?_
    refine en_ne g qd_M_takes_21 (tgt := 26) (by decide) (by decide) (by decide) (fun h => ?_) (fun h => ?_)
    rotate_left
    · exact absurd h (by decide)
    refine ew_iload_n g qd_M_takes_26 rfl ?_
    refine ew_iconst g qd_M_takes_27 ic_5 ?_
    refine en_eq g qd_M_takes_28 (tgt := 61) (by decide) (by decide) (by decide) (fun h => ?_) (fun h => ?_)
    · exact absurd h (by decide)
    refine ew_iload_n g qd_M_takes_31 rfl ?_
    refine ew_bipush g qd_M_takes_32 bp_13 ?_
    refine en_eq g qd_M_takes_34 (tgt := 61) (by decide) (by decide) (by decide) (fun h => ?_) (fun h => ?_)
    · exact absurd h (by decide)
    refine ew_iload_n g qd_M_takes_37 rfl ?_
    refine ew_bipush g qd_M_takes_38 bp_14 ?_
    refine en_eq g qd_M_takes_40 (tgt := 61) (by decide) (by decide) (by decide) (fun h => ?_) (fun h => ?_)
    · exact absurd h (by decide)
    refine ew_iload_n g qd_M_takes_43 rfl ?_
    refine ew_bipush g qd_M_takes_44 bp_17 ?_
    refine en_eq g qd_M_takes_46 (tgt := 61) (by decide) (by decide) (by decide) (fun h => ?_) (fun h => ?_)
    · exact absurd h (by decide)
    refine ew_iload_n g qd_M_takes_49 rfl ?_
    refine ew_bipush g qd_M_takes_50 bp_19 ?_
    refine en_eq g qd_M_takes_52 (tgt := 61) (by decide) (by decide) (by decide) (fun h => ?_) (fun h => ?_)
    · exact absurd h (by decide)
    refine ew_iload_n g qd_M_takes_55 rfl ?_
    refine ew_bipush g qd_M_takes_56 bp_21 ?_
    refine en_ne g qd_M_takes_58 (tgt := 65) (by decide) (by decide) (by decide) (fun h => ?_) (fun h => ?_)
    rotate_left
    · exact absurd h (by decide)
    refine ew_iconst g qd_M_takes_65 ic_0 ?_
    refine ew_iret g qd_M_takes_66 hp ?_
    exact ⟨rfl, rfl⟩
  · skip
    refine ew_iload_n g qd_M_takes_0 rfl ?_
    refine ew_bipush g qd_M_takes_1 bp_6 ?_
    refine en_lt g qd_M_takes_3 (tgt := 12) (by decide) (by decide) (by decide) (fun h => ?_) (fun h => ?_)
    · exact absurd h (by decide)
    refine ew_iload_n g qd_M_takes_6 rfl ?_
    refine ew_bipush g qd_M_takes_7 bp_12 ?_
    refine en_le g qd_M_takes_9 (tgt := 24) (by decide) (by decide) (by decide) (fun h => ?_) (fun h => ?_)
    · exact absurd h (by decide)
    refine ew_iload_n g qd_M_takes_12 rfl ?_
    refine ew_bipush g qd_M_takes_13 bp_15 ?_
    refine en_eq g qd_M_takes_15 (tgt := 24) (by decide) (by decide) (by decide) (fun h => ?_) (fun h => ?_)
    · exact absurd h (by decide)
    refine ew_iload_n g qd_M_takes_18 rfl ?_
    refine ew_bipush g qd_M_takes_19 bp_18 ?_
    refine en_ne g qd_M_takes_21 (tgt := 26) (by decide) (by decide) (by decide) (fun h => ?_) (fun h => ?_)
    rotate_left
    · exact absurd h (by decide)
    refine ew_iload_n g qd_M_takes_26 rfl ?_
    refine ew_iconst g qd_M_takes_27 ic_5 ?_
    refine en_eq g qd_M_takes_28 (tgt := 61) (by decide) (by decide) (by decide) (fun h => ?_) (fun h => ?_)
    · exact absurd h (by decide)
    refine ew_iload_n g qd_M_takes_31 rfl ?_
    refine ew_bipush g qd_M_takes_32 bp_13 ?_
    refine en_eq g qd_M_takes_34 (tgt := 61) (by decide) (by decide) (by decide) (fun h => ?_) (fun h => ?_)
    · exact absurd h (by decide)
    refine ew_iload_n g qd_M_takes_37 rfl ?_
    refine ew_bipush g qd_M_takes_38 bp_14 ?_
    refine en_eq g qd_M_takes_40 (tgt := 61) (by decide) (by decide) (by decide) (fun h => ?_) (fun h => ?_)
    · exact absurd h (by decide)
    refine ew_iload_n g qd_M_takes_43 rfl ?_
    refine ew_bipush g qd_M_takes_44 bp_17 ?_
    refine en_eq g qd_M_takes_46 (tgt := 61) (by decide) (by decide) (by decide) (fun h => ?_) (fun h => ?_)
    · exact absurd h (by decide)
    refine ew_iload_n g qd_M_takes_49 rfl ?_
    refine ew_bipush g qd_M_takes_50 bp_19 ?_
    refine en_eq g qd_M_takes_52 (tgt := 61) (by decide) (by decide) (by decide) (fun h => ?_) (fun h => ?_)
    · exact absurd h (by decide)
    refine ew_iload_n g qd_M_takes_55 rfl ?_
    refine ew_bipush g qd_M_takes_56 bp_21 ?_
    refine en_ne g qd_M_takes_58 (tgt := 65) (by decide) (by decide) (by decide) (fun h => ?_) (fun h => ?_)
    · exact absurd h (by decide)
    refine ew_iconst g qd_M_takes_61 ic_1 ?_
    refine ew_goto g qd_M_takes_62 (tgt := 66) (by decide) ?_
    refine ew_iret g qd_M_takes_66 hp ?_
    exact ⟨rfl, rfl⟩
  · skip
    refine ew_iload_n g qd_M_takes_0 rfl ?_
    refine ew_bipush g qd_M_takes_1 bp_6 ?_
    refine en_lt g qd_M_takes_3 (tgt := 12) (by decide) (by decide) (by decide) (fun h => ?_) (fun h => ?_)
    · exact absurd h (by decide)
    refine ew_iload_n g qd_M_takes_6 rfl ?_
    refine ew_bipush g qd_M_takes_7 bp_12 ?_
    refine en_le g qd_M_takes_9 (tgt := 24) (by decide) (by decide) (by decide) (fun h => ?_) (fun h => ?_)
    · exact absurd h (by decide)
    refine ew_iload_n g qd_M_takes_12 rfl ?_
    refine ew_bipush g qd_M_takes_13 bp_15 ?_
    refine en_eq g qd_M_takes_15 (tgt := 24) (by decide) (by decide) (by decide) (fun h => ?_) (fun h => ?_)
    · exact absurd h (by decide)
    refine ew_iload_n g qd_M_takes_18 rfl ?_
    refine ew_bipush g qd_M_takes_19 bp_18 ?_
    refine en_ne g qd_M_takes_21 (tgt := 26) (by decide) (by decide) (by decide) (fun h => ?_) (fun h => ?_)
    rotate_left
    · exact absurd h (by decide)
    refine ew_iload_n g qd_M_takes_26 rfl ?_
    refine ew_iconst g qd_M_takes_27 ic_5 ?_
    refine en_eq g qd_M_takes_28 (tgt := 61) (by decide) (by decide) (by decide) (fun h => ?_) (fun h => ?_)
    · exact absurd h (by decide)
    refine ew_iload_n g qd_M_takes_31 rfl ?_
    refine ew_bipush g qd_M_takes_32 bp_13 ?_
    refine en_eq g qd_M_takes_34 (tgt := 61) (by decide) (by decide) (by decide) (fun h => ?_) (fun h => ?_)
    · exact absurd h (by decide)
    refine ew_iload_n g qd_M_takes_37 rfl ?_
    refine ew_bipush g qd_M_takes_38 bp_14 ?_
    refine en_eq g qd_M_takes_40 (tgt := 61) (by decide) (by decide) (by decide) (fun h => ?_) (fun h => ?_)
    · exact absurd h (by decide)
    refine ew_iload_n g qd_M_takes_43 rfl ?_
    refine ew_bipush g qd_M_takes_44 bp_17 ?_
    refine en_eq g qd_M_takes_46 (tgt := 61) (by decide) (by decide) (by decide) (fun h => ?_) (fun h => ?_)
    · exact absurd h (by decide)
    refine ew_iload_n g qd_M_takes_49 rfl ?_
    refine ew_bipush g qd_M_takes_50 bp_19 ?_
    refine en_eq g qd_M_takes_52 (tgt := 61) (by decide) (by decide) (by decide) (fun h => ?_) (fun h => ?_)
    · exact absurd h (by decide)
    refine ew_iload_n g qd_M_takes_55 rfl ?_
    refine ew_bipush g qd_M_takes_56 bp_21 ?_
    refine en_ne g qd_M_takes_58 (tgt := 65) (by decide) (by decide) (by decide) (fun h => ?_) (fun h => ?_)
    rotate_left
    · exact absurd h (by decide)
    refine ew_iconst g qd_M_takes_65 ic_0 ?_
    refine ew_iret g qd_M_takes_66 hp ?_
    exact ⟨rfl, rfl⟩
  · skip
    refine ew_iload_n g qd_M_takes_0 rfl ?_
    refine ew_bipush g qd_M_takes_1 bp_6 ?_
    refine en_lt g qd_M_takes_3 (tgt := 12) (by decide) (by decide) (by decide) (fun h => ?_) (fun h => ?_)
    · exact absurd h (by decide)
    refine ew_iload_n g qd_M_takes_6 rfl ?_
    refine ew_bipush g qd_M_takes_7 bp_12 ?_
    refine en_le g qd_M_takes_9 (tgt := 24) (by decide) (by decide) (by decide) (fun h => ?_) (fun h => ?_)
    · exact absurd h (by decide)
    refine ew_iload_n g qd_M_takes_12 rfl ?_
    refine ew_bipush g qd_M_takes_13 bp_15 ?_
    refine en_eq g qd_M_takes_15 (tgt := 24) (by decide) (by decide) (by decide) (fun h => ?_) (fun h => ?_)
    · exact absurd h (by decide)
    refine ew_iload_n g qd_M_takes_18 rfl ?_
    refine ew_bipush g qd_M_takes_19 bp_18 ?_
    refine en_ne g qd_M_takes_21 (tgt := 26) (by decide) (by decide) (by decide) (fun h => ?_) (fun h => ?_)
    rotate_left
    · exact absurd h (by decide)
    refine ew_iload_n g qd_M_takes_26 rfl ?_
    refine ew_iconst g qd_M_takes_27 ic_5 ?_
    refine en_eq g qd_M_takes_28 (tgt := 61) (by decide) (by decide) (by decide) (fun h => ?_) (fun h => ?_)
    · exact absurd h (by decide)
    refine ew_iload_n g qd_M_takes_31 rfl ?_
    refine ew_bipush g qd_M_takes_32 bp_13 ?_
    refine en_eq g qd_M_takes_34 (tgt := 61) (by decide) (by decide) (by decide) (fun h => ?_) (fun h => ?_)
    · exact absurd h (by decide)
    refine ew_iload_n g qd_M_takes_37 rfl ?_
    refine ew_bipush g qd_M_takes_38 bp_14 ?_
    refine en_eq g qd_M_takes_40 (tgt := 61) (by decide) (by decide) (by decide) (fun h => ?_) (fun h => ?_)
    · exact absurd h (by decide)
    refine ew_iload_n g qd_M_takes_43 rfl ?_
    refine ew_bipush g qd_M_takes_44 bp_17 ?_
    refine en_eq g qd_M_takes_46 (tgt := 61) (by decide) (by decide) (by decide) (fun h => ?_) (fun h => ?_)
    · exact absurd h (by decide)
    refine ew_iload_n g qd_M_takes_49 rfl ?_
    refine ew_bipush g qd_M_takes_50 bp_19 ?_
    refine en_eq g qd_M_takes_52 (tgt := 61) (by decide) (by decide) (by decide) (fun h => ?_) (fun h => ?_)
    · exact absurd h (by decide)
    refine ew_iload_n g qd_M_takes_55 rfl ?_
    refine ew_bipush g qd_M_takes_56 bp_21 ?_
    refine en_ne g qd_M_takes_58 (tgt := 65) (by decide) (by decide) (by decide) (fun h => ?_) (fun h => ?_)
    rotate_left
    · exact absurd h (by decide)
    refine ew_iconst g qd_M_takes_65 ic_0 ?_
    refine ew_iret g qd_M_takes_66 hp ?_
    exact ⟨rfl, rfl⟩
  · skip
    refine ew_iload_n g qd_M_takes_0 rfl ?_
    refine ew_bipush g qd_M_takes_1 bp_6 ?_
    refine en_lt g qd_M_takes_3 (tgt := 12) (by decide) (by decide) (by decide) (fun h => ?_) (fun h => ?_)
    · exact absurd h (by decide)
    refine ew_iload_n g qd_M_takes_6 rfl ?_
    refine ew_bipush g qd_M_takes_7 bp_12 ?_
    refine en_le g qd_M_takes_9 (tgt := 24) (by decide) (by decide) (by decide) (fun h => ?_) (fun h => ?_)
    · exact absurd h (by decide)
    refine ew_iload_n g qd_M_takes_12 rfl ?_
    refine ew_bipush g qd_M_takes_13 bp_15 ?_
    refine en_eq g qd_M_takes_15 (tgt := 24) (by decide) (by decide) (by decide) (fun h => ?_) (fun h => ?_)
    · exact absurd h (by decide)
    refine ew_iload_n g qd_M_takes_18 rfl ?_
    refine ew_bipush g qd_M_takes_19 bp_18 ?_
    refine en_ne g qd_M_takes_21 (tgt := 26) (by decide) (by decide) (by decide) (fun h => ?_) (fun h => ?_)
    rotate_left
    · exact absurd h (by decide)
    refine ew_iload_n g qd_M_takes_26 rfl ?_
    refine ew_iconst g qd_M_takes_27 ic_5 ?_
    refine en_eq g qd_M_takes_28 (tgt := 61) (by decide) (by decide) (by decide) (fun h => ?_) (fun h => ?_)
    · exact absurd h (by decide)
    refine ew_iload_n g qd_M_takes_31 rfl ?_
    refine ew_bipush g qd_M_takes_32 bp_13 ?_
    refine en_eq g qd_M_takes_34 (tgt := 61) (by decide) (by decide) (by decide) (fun h => ?_) (fun h => ?_)
    · exact absurd h (by decide)
    refine ew_iload_n g qd_M_takes_37 rfl ?_
    refine ew_bipush g qd_M_takes_38 bp_14 ?_
    refine en_eq g qd_M_takes_40 (tgt := 61) (by decide) (by decide) (by decide) (fun h => ?_) (fun h => ?_)
    · exact absurd h (by decide)
    refine ew_iload_n g qd_M_takes_43 rfl ?_
    refine ew_bipush g qd_M_takes_44 bp_17 ?_
    refine en_eq g qd_M_takes_46 (tgt := 61) (by decide) (by decide) (by decide) (fun h => ?_) (fun h => ?_)
    · exact absurd h (by decide)
    refine ew_iload_n g qd_M_takes_49 rfl ?_
    refine ew_bipush g qd_M_takes_50 bp_19 ?_
    refine en_eq g qd_M_takes_52 (tgt := 61) (by decide) (by decide) (by decide) (fun h => ?_) (fun h => ?_)
    · exact absurd h (by decide)
    refine ew_iload_n g qd_M_takes_55 rfl ?_
    refine ew_bipush g qd_M_takes_56 bp_21 ?_
    refine en_ne g qd_M_takes_58 (tgt := 65) (by decide) (by decide) (by decide) (fun h => ?_) (fun h => ?_)
    rotate_left
    · exact absurd h (by decide)
    refine ew_iconst g qd_M_takes_65 ic_0 ?_
    refine ew_iret g qd_M_takes_66 hp ?_
    exact ⟨rfl, rfl⟩
theorem k_M_puts (w : WC) (l : Launch) (sg : SG) {o : Nat} (ho : o < 25) : ew_M qS w l qy_M_puts qw_M_puts qr_M_puts [.inl (nI o)] sg (fun v sg' => v = some (.inl (nI (oPuts o))) ∧ sg' = sg) := by
  refine ew_entry (ws' := qwg) (own := qR_M) (cc := qc_M_puts) (nL := 1) (ret := some .int) qnk (by decide) rfl rfl (Nat.le_of_ble_eq_true rfl) ?_
  intro k g hp
  rcases (by omega : o = 0 ∨ o = 1 ∨ o = 2 ∨ o = 3 ∨ o = 4 ∨ o = 5 ∨ o = 6 ∨ o = 7 ∨ o = 8 ∨ o = 9 ∨ o = 10 ∨ o = 11 ∨ o = 12 ∨ o = 13 ∨ o = 14 ∨ o = 15 ∨ o = 16 ∨ o = 17 ∨ o = 18 ∨ o = 19 ∨ o = 20 ∨ o = 21 ∨ o = 22 ∨ o = 23 ∨ o = 24) with rfl | rfl | rfl | rfl | rfl | rfl | rfl | rfl | rfl | rfl | rfl | rfl | rfl | rfl | rfl | rfl | rfl | rfl | rfl | rfl | rfl | rfl | rfl | rfl | rfl
  · skip
    refine ew_iload_n g qd_M_puts_0 rfl ?_
    refine ew_iconst g qd_M_puts_1 ic_3 ?_
    refine en_le g qd_M_puts_2 (tgt := 29) (by decide) (by decide) (by decide) (fun h => ?_) (fun h => ?_)
    rotate_left
    · exact absurd h (by decide)
    refine ew_iconst g qd_M_puts_29 ic_1 ?_
    refine ew_goto g qd_M_puts_30 (tgt := 34) (by decide) ?_
    refine ew_iret g qd_M_puts_34 hp ?_
    exact ⟨rfl, rfl⟩
  · skip
    refine ew_iload_n g qd_M_puts_0 rfl ?_
    refine ew_iconst g qd_M_puts_1 ic_3 ?_
    refine en_le g qd_M_puts_2 (tgt := 29) (by decide) (by decide) (by decide) (fun h => ?_) (fun h => ?_)
    rotate_left
    · exact absurd h (by decide)
    refine ew_iconst g qd_M_puts_29 ic_1 ?_
    refine ew_goto g qd_M_puts_30 (tgt := 34) (by decide) ?_
    refine ew_iret g qd_M_puts_34 hp ?_
    exact ⟨rfl, rfl⟩
  · skip
    refine ew_iload_n g qd_M_puts_0 rfl ?_
    refine ew_iconst g qd_M_puts_1 ic_3 ?_
    refine en_le g qd_M_puts_2 (tgt := 29) (by decide) (by decide) (by decide) (fun h => ?_) (fun h => ?_)
    rotate_left
    · exact absurd h (by decide)
    refine ew_iconst g qd_M_puts_29 ic_1 ?_
    refine ew_goto g qd_M_puts_30 (tgt := 34) (by decide) ?_
    refine ew_iret g qd_M_puts_34 hp ?_
    exact ⟨rfl, rfl⟩
  · skip
    refine ew_iload_n g qd_M_puts_0 rfl ?_
    refine ew_iconst g qd_M_puts_1 ic_3 ?_
    refine en_le g qd_M_puts_2 (tgt := 29) (by decide) (by decide) (by decide) (fun h => ?_) (fun h => ?_)
    rotate_left
    · exact absurd h (by decide)
    refine ew_iconst g qd_M_puts_29 ic_1 ?_
    refine ew_goto g qd_M_puts_30 (tgt := 34) (by decide) ?_
    refine ew_iret g qd_M_puts_34 hp ?_
    exact ⟨rfl, rfl⟩
  · skip
    refine ew_iload_n g qd_M_puts_0 rfl ?_
    refine ew_iconst g qd_M_puts_1 ic_3 ?_
    refine en_le g qd_M_puts_2 (tgt := 29) (by decide) (by decide) (by decide) (fun h => ?_) (fun h => ?_)
    · exact absurd h (by decide)
    refine ew_iload_n g qd_M_puts_5 rfl ?_
    refine ew_bipush g qd_M_puts_6 bp_6 ?_
    refine en_lt g qd_M_puts_8 (tgt := 17) (by decide) (by decide) (by decide) (fun h => ?_) (fun h => ?_)
    rotate_left
    · exact absurd h (by decide)
    refine ew_iload_n g qd_M_puts_17 rfl ?_
    refine ew_bipush g qd_M_puts_18 bp_19 ?_
    refine en_eq g qd_M_puts_20 (tgt := 29) (by decide) (by decide) (by decide) (fun h => ?_) (fun h => ?_)
    · exact absurd h (by decide)
    refine ew_iload_n g qd_M_puts_23 rfl ?_
    refine ew_bipush g qd_M_puts_24 bp_20 ?_
    refine en_ne g qd_M_puts_26 (tgt := 33) (by decide) (by decide) (by decide) (fun h => ?_) (fun h => ?_)
    rotate_left
    · exact absurd h (by decide)
    refine ew_iconst g qd_M_puts_33 ic_0 ?_
    refine ew_iret g qd_M_puts_34 hp ?_
    exact ⟨rfl, rfl⟩
  · skip
    refine ew_iload_n g qd_M_puts_0 rfl ?_
    refine ew_iconst g qd_M_puts_1 ic_3 ?_
    refine en_le g qd_M_puts_2 (tgt := 29) (by decide) (by decide) (by decide) (fun h => ?_) (fun h => ?_)
    · exact absurd h (by decide)
    refine ew_iload_n g qd_M_puts_5 rfl ?_
    refine ew_bipush g qd_M_puts_6 bp_6 ?_
    refine en_lt g qd_M_puts_8 (tgt := 17) (by decide) (by decide) (by decide) (fun h => ?_) (fun h => ?_)
    rotate_left
    · exact absurd h (by decide)
    refine ew_iload_n g qd_M_puts_17 rfl ?_
    refine ew_bipush g qd_M_puts_18 bp_19 ?_
    refine en_eq g qd_M_puts_20 (tgt := 29) (by decide) (by decide) (by decide) (fun h => ?_) (fun h => ?_)
    · exact absurd h (by decide)
    refine ew_iload_n g qd_M_puts_23 rfl ?_
    refine ew_bipush g qd_M_puts_24 bp_20 ?_
    refine en_ne g qd_M_puts_26 (tgt := 33) (by decide) (by decide) (by decide) (fun h => ?_) (fun h => ?_)
    rotate_left
    · exact absurd h (by decide)
    refine ew_iconst g qd_M_puts_33 ic_0 ?_
    refine ew_iret g qd_M_puts_34 hp ?_
    exact ⟨rfl, rfl⟩
  · skip
    refine ew_iload_n g qd_M_puts_0 rfl ?_
    refine ew_iconst g qd_M_puts_1 ic_3 ?_
    refine en_le g qd_M_puts_2 (tgt := 29) (by decide) (by decide) (by decide) (fun h => ?_) (fun h => ?_)
    · exact absurd h (by decide)
    refine ew_iload_n g qd_M_puts_5 rfl ?_
    refine ew_bipush g qd_M_puts_6 bp_6 ?_
    refine en_lt g qd_M_puts_8 (tgt := 17) (by decide) (by decide) (by decide) (fun h => ?_) (fun h => ?_)
    · exact absurd h (by decide)
    refine ew_iload_n g qd_M_puts_11 rfl ?_
    refine ew_bipush g qd_M_puts_12 bp_14 ?_
    refine en_le g qd_M_puts_14 (tgt := 29) (by decide) (by decide) (by decide) (fun h => ?_) (fun h => ?_)
    rotate_left
    · exact absurd h (by decide)
    refine ew_iconst g qd_M_puts_29 ic_1 ?_
    refine ew_goto g qd_M_puts_30 (tgt := 34) (by decide) ?_
    refine ew_iret g qd_M_puts_34 hp ?_
    exact ⟨rfl, rfl⟩
  · skip
    refine ew_iload_n g qd_M_puts_0 rfl ?_
    refine ew_iconst g qd_M_puts_1 ic_3 ?_
    refine en_le g qd_M_puts_2 (tgt := 29) (by decide) (by decide) (by decide) (fun h => ?_) (fun h => ?_)
    · exact absurd h (by decide)
    refine ew_iload_n g qd_M_puts_5 rfl ?_
    refine ew_bipush g qd_M_puts_6 bp_6 ?_
    refine en_lt g qd_M_puts_8 (tgt := 17) (by decide) (by decide) (by decide) (fun h => ?_) (fun h => ?_)
    · exact absurd h (by decide)
    refine ew_iload_n g qd_M_puts_11 rfl ?_
    refine ew_bipush g qd_M_puts_12 bp_14 ?_
    refine en_le g qd_M_puts_14 (tgt := 29) (by decide) (by decide) (by decide) (fun h => ?_) (fun h => ?_)
    rotate_left
    · exact absurd h (by decide)
    refine ew_iconst g qd_M_puts_29 ic_1 ?_
    refine ew_goto g qd_M_puts_30 (tgt := 34) (by decide) ?_
    refine ew_iret g qd_M_puts_34 hp ?_
    exact ⟨rfl, rfl⟩
  · skip
    refine ew_iload_n g qd_M_puts_0 rfl ?_
    refine ew_iconst g qd_M_puts_1 ic_3 ?_
    refine en_le g qd_M_puts_2 (tgt := 29) (by decide) (by decide) (by decide) (fun h => ?_) (fun h => ?_)
    · exact absurd h (by decide)
    refine ew_iload_n g qd_M_puts_5 rfl ?_
    refine ew_bipush g qd_M_puts_6 bp_6 ?_
    refine en_lt g qd_M_puts_8 (tgt := 17) (by decide) (by decide) (by decide) (fun h => ?_) (fun h => ?_)
    · exact absurd h (by decide)
    refine ew_iload_n g qd_M_puts_11 rfl ?_
    refine ew_bipush g qd_M_puts_12 bp_14 ?_
    refine en_le g qd_M_puts_14 (tgt := 29) (by decide) (by decide) (by decide) (fun h => ?_) (fun h => ?_)
    rotate_left
    · exact absurd h (by decide)
    refine ew_iconst g qd_M_puts_29 ic_1 ?_
    refine ew_goto g qd_M_puts_30 (tgt := 34) (by decide) ?_
    refine ew_iret g qd_M_puts_34 hp ?_
    exact ⟨rfl, rfl⟩
  · skip
    refine ew_iload_n g qd_M_puts_0 rfl ?_
    refine ew_iconst g qd_M_puts_1 ic_3 ?_
    refine en_le g qd_M_puts_2 (tgt := 29) (by decide) (by decide) (by decide) (fun h => ?_) (fun h => ?_)
    · exact absurd h (by decide)
    refine ew_iload_n g qd_M_puts_5 rfl ?_
    refine ew_bipush g qd_M_puts_6 bp_6 ?_
    refine en_lt g qd_M_puts_8 (tgt := 17) (by decide) (by decide) (by decide) (fun h => ?_) (fun h => ?_)
    · exact absurd h (by decide)
    refine ew_iload_n g qd_M_puts_11 rfl ?_
    refine ew_bipush g qd_M_puts_12 bp_14 ?_
    refine en_le g qd_M_puts_14 (tgt := 29) (by decide) (by decide) (by decide) (fun h => ?_) (fun h => ?_)
    rotate_left
    · exact absurd h (by decide)
    refine ew_iconst g qd_M_puts_29 ic_1 ?_
    refine ew_goto g qd_M_puts_30 (tgt := 34) (by decide) ?_
    refine ew_iret g qd_M_puts_34 hp ?_
    exact ⟨rfl, rfl⟩
  · skip
    refine ew_iload_n g qd_M_puts_0 rfl ?_
    refine ew_iconst g qd_M_puts_1 ic_3 ?_
    refine en_le g qd_M_puts_2 (tgt := 29) (by decide) (by decide) (by decide) (fun h => ?_) (fun h => ?_)
    · exact absurd h (by decide)
    refine ew_iload_n g qd_M_puts_5 rfl ?_
    refine ew_bipush g qd_M_puts_6 bp_6 ?_
    refine en_lt g qd_M_puts_8 (tgt := 17) (by decide) (by decide) (by decide) (fun h => ?_) (fun h => ?_)
    · exact absurd h (by decide)
    refine ew_iload_n g qd_M_puts_11 rfl ?_
    refine ew_bipush g qd_M_puts_12 bp_14 ?_
    refine en_le g qd_M_puts_14 (tgt := 29) (by decide) (by decide) (by decide) (fun h => ?_) (fun h => ?_)
    rotate_left
    · exact absurd h (by decide)
    refine ew_iconst g qd_M_puts_29 ic_1 ?_
    refine ew_goto g qd_M_puts_30 (tgt := 34) (by decide) ?_
    refine ew_iret g qd_M_puts_34 hp ?_
    exact ⟨rfl, rfl⟩
  · skip
    refine ew_iload_n g qd_M_puts_0 rfl ?_
    refine ew_iconst g qd_M_puts_1 ic_3 ?_
    refine en_le g qd_M_puts_2 (tgt := 29) (by decide) (by decide) (by decide) (fun h => ?_) (fun h => ?_)
    · exact absurd h (by decide)
    refine ew_iload_n g qd_M_puts_5 rfl ?_
    refine ew_bipush g qd_M_puts_6 bp_6 ?_
    refine en_lt g qd_M_puts_8 (tgt := 17) (by decide) (by decide) (by decide) (fun h => ?_) (fun h => ?_)
    · exact absurd h (by decide)
    refine ew_iload_n g qd_M_puts_11 rfl ?_
    refine ew_bipush g qd_M_puts_12 bp_14 ?_
    refine en_le g qd_M_puts_14 (tgt := 29) (by decide) (by decide) (by decide) (fun h => ?_) (fun h => ?_)
    rotate_left
    · exact absurd h (by decide)
    refine ew_iconst g qd_M_puts_29 ic_1 ?_
    refine ew_goto g qd_M_puts_30 (tgt := 34) (by decide) ?_
    refine ew_iret g qd_M_puts_34 hp ?_
    exact ⟨rfl, rfl⟩
  · skip
    refine ew_iload_n g qd_M_puts_0 rfl ?_
    refine ew_iconst g qd_M_puts_1 ic_3 ?_
    refine en_le g qd_M_puts_2 (tgt := 29) (by decide) (by decide) (by decide) (fun h => ?_) (fun h => ?_)
    · exact absurd h (by decide)
    refine ew_iload_n g qd_M_puts_5 rfl ?_
    refine ew_bipush g qd_M_puts_6 bp_6 ?_
    refine en_lt g qd_M_puts_8 (tgt := 17) (by decide) (by decide) (by decide) (fun h => ?_) (fun h => ?_)
    · exact absurd h (by decide)
    refine ew_iload_n g qd_M_puts_11 rfl ?_
    refine ew_bipush g qd_M_puts_12 bp_14 ?_
    refine en_le g qd_M_puts_14 (tgt := 29) (by decide) (by decide) (by decide) (fun h => ?_) (fun h => ?_)
    rotate_left
    · exact absurd h (by decide)
    refine ew_iconst g qd_M_puts_29 ic_1 ?_
    refine ew_goto g qd_M_puts_30 (tgt := 34) (by decide) ?_
    refine ew_iret g qd_M_puts_34 hp ?_
    exact ⟨rfl, rfl⟩
  · skip
    refine ew_iload_n g qd_M_puts_0 rfl ?_
    refine ew_iconst g qd_M_puts_1 ic_3 ?_
    refine en_le g qd_M_puts_2 (tgt := 29) (by decide) (by decide) (by decide) (fun h => ?_) (fun h => ?_)
    · exact absurd h (by decide)
    refine ew_iload_n g qd_M_puts_5 rfl ?_
    refine ew_bipush g qd_M_puts_6 bp_6 ?_
    refine en_lt g qd_M_puts_8 (tgt := 17) (by decide) (by decide) (by decide) (fun h => ?_) (fun h => ?_)
    · exact absurd h (by decide)
    refine ew_iload_n g qd_M_puts_11 rfl ?_
    refine ew_bipush g qd_M_puts_12 bp_14 ?_
    refine en_le g qd_M_puts_14 (tgt := 29) (by decide) (by decide) (by decide) (fun h => ?_) (fun h => ?_)
    rotate_left
    · exact absurd h (by decide)
    refine ew_iconst g qd_M_puts_29 ic_1 ?_
    refine ew_goto g qd_M_puts_30 (tgt := 34) (by decide) ?_
    refine ew_iret g qd_M_puts_34 hp ?_
    exact ⟨rfl, rfl⟩
  · skip
    refine ew_iload_n g qd_M_puts_0 rfl ?_
    refine ew_iconst g qd_M_puts_1 ic_3 ?_
    refine en_le g qd_M_puts_2 (tgt := 29) (by decide) (by decide) (by decide) (fun h => ?_) (fun h => ?_)
    · exact absurd h (by decide)
    refine ew_iload_n g qd_M_puts_5 rfl ?_
    refine ew_bipush g qd_M_puts_6 bp_6 ?_
    refine en_lt g qd_M_puts_8 (tgt := 17) (by decide) (by decide) (by decide) (fun h => ?_) (fun h => ?_)
    · exact absurd h (by decide)
    refine ew_iload_n g qd_M_puts_11 rfl ?_
    refine ew_bipush g qd_M_puts_12 bp_14 ?_
    refine en_le g qd_M_puts_14 (tgt := 29) (by decide) (by decide) (by decide) (fun h => ?_) (fun h => ?_)
    rotate_left
    · exact absurd h (by decide)
    refine ew_iconst g qd_M_puts_29 ic_1 ?_
    refine ew_goto g qd_M_puts_30 (tgt := 34) (by decide) ?_
    refine ew_iret g qd_M_puts_34 hp ?_
    exact ⟨rfl, rfl⟩
  · skip
    refine ew_iload_n g qd_M_puts_0 rfl ?_
    refine ew_iconst g qd_M_puts_1 ic_3 ?_
    refine en_le g qd_M_puts_2 (tgt := 29) (by decide) (by decide) (by decide) (fun h => ?_) (fun h => ?_)
    · exact absurd h (by decide)
    refine ew_iload_n g qd_M_puts_5 rfl ?_
    refine ew_bipush g qd_M_puts_6 bp_6 ?_
    refine en_lt g qd_M_puts_8 (tgt := 17) (by decide) (by decide) (by decide) (fun h => ?_) (fun h => ?_)
    · exact absurd h (by decide)
    refine ew_iload_n g qd_M_puts_11 rfl ?_
    refine ew_bipush g qd_M_puts_12 bp_14 ?_
    refine en_le g qd_M_puts_14 (tgt := 29) (by decide) (by decide) (by decide) (fun h => ?_) (fun h => ?_)
    · exact absurd h (by decide)
    refine ew_iload_n g qd_M_puts_17 rfl ?_
    refine ew_bipush g qd_M_puts_18 bp_19 ?_
    refine en_eq g qd_M_puts_20 (tgt := 29) (by decide) (by decide) (by decide) (fun h => ?_) (fun h => ?_)
    · exact absurd h (by decide)
    refine ew_iload_n g qd_M_puts_23 rfl ?_
    refine ew_bipush g qd_M_puts_24 bp_20 ?_
    refine en_ne g qd_M_puts_26 (tgt := 33) (by decide) (by decide) (by decide) (fun h => ?_) (fun h => ?_)
    rotate_left
    · exact absurd h (by decide)
    refine ew_iconst g qd_M_puts_33 ic_0 ?_
    refine ew_iret g qd_M_puts_34 hp ?_
    exact ⟨rfl, rfl⟩
  · skip
    refine ew_iload_n g qd_M_puts_0 rfl ?_
    refine ew_iconst g qd_M_puts_1 ic_3 ?_
    refine en_le g qd_M_puts_2 (tgt := 29) (by decide) (by decide) (by decide) (fun h => ?_) (fun h => ?_)
    · exact absurd h (by decide)
    refine ew_iload_n g qd_M_puts_5 rfl ?_
    refine ew_bipush g qd_M_puts_6 bp_6 ?_
    refine en_lt g qd_M_puts_8 (tgt := 17) (by decide) (by decide) (by decide) (fun h => ?_) (fun h => ?_)
    · exact absurd h (by decide)
    refine ew_iload_n g qd_M_puts_11 rfl ?_
    refine ew_bipush g qd_M_puts_12 bp_14 ?_
    refine en_le g qd_M_puts_14 (tgt := 29) (by decide) (by decide) (by decide) (fun h => ?_) (fun h => ?_)
    · exact absurd h (by decide)
    refine ew_iload_n g qd_M_puts_17 rfl ?_
    refine ew_bipush g qd_M_puts_18 bp_19 ?_
    refine en_eq g qd_M_puts_20 (tgt := 29) (by decide) (by decide) (by decide) (fun h => ?_) (fun h => ?_)
    · exact absurd h (by decide)
    refine ew_iload_n g qd_M_puts_23 rfl ?_
    refine ew_bipush g qd_M_puts_24 bp_20 ?_
    refine en_ne g qd_M_puts_26 (tgt := 33) (by decide) (by decide) (by decide) (fun h => ?_) (fun h => ?_)
    rotate_left
    · exact absurd h (by decide)
    refine ew_iconst g qd_M_puts_33 ic_0 ?_
    refine ew_iret g qd_M_puts_34 hp ?_
    exact ⟨rfl, rfl⟩
  · skip
    refine ew_iload_n g qd_M_puts_0 rfl ?_
    refine ew_iconst g qd_M_puts_1 ic_3 ?_
    refine en_le g qd_M_puts_2 (tgt := 29) (by decide) (by decide) (by decide) (fun h => ?_) (fun h => ?_)
    · exact absurd h (by decide)
    refine ew_iload_n g qd_M_puts_5 rfl ?_
    refine ew_bipush g qd_M_puts_6 bp_6 ?_
    refine en_lt g qd_M_puts_8 (tgt := 17) (by decide) (by decide) (by decide) (fun h => ?_) (fun h => ?_)
    · exact absurd h (by decide)
    refine ew_iload_n g qd_M_puts_11 rfl ?_
    refine ew_bipush g qd_M_puts_12 bp_14 ?_
    refine en_le g qd_M_puts_14 (tgt := 29) (by decide) (by decide) (by decide) (fun h => ?_) (fun h => ?_)
    · exact absurd h (by decide)
    refine ew_iload_n g qd_M_puts_17 rfl ?_
    refine ew_bipush g qd_M_puts_18 bp_19 ?_
    refine en_eq g qd_M_puts_20 (tgt := 29) (by decide) (by decide) (by decide) (fun h => ?_) (fun h => ?_)
    · exact absurd h (by decide)
    refine ew_iload_n g qd_M_puts_23 rfl ?_
    refine ew_bipush g qd_M_puts_24 bp_20 ?_
    refine en_ne g qd_M_puts_26 (tgt := 33) (by decide) (by decide) (by decide) (fun h => ?_) (fun h => ?_)
    rotate_left
    · exact absurd h (by decide)
    refine ew_iconst g qd_M_puts_33 ic_0 ?_
    refine ew_iret g qd_M_puts_34 hp ?_
    exact ⟨rfl, rfl⟩
  · skip
    refine ew_iload_n g qd_M_puts_0 rfl ?_
    refine ew_iconst g qd_M_puts_1 ic_3 ?_
    refine en_le g qd_M_puts_2 (tgt := 29) (by decide) (by decide) (by decide) (fun h => ?_) (fun h => ?_)
    · exact absurd h (by decide)
    refine ew_iload_n g qd_M_puts_5 rfl ?_
    refine ew_bipush g qd_M_puts_6 bp_6 ?_
    refine en_lt g qd_M_puts_8 (tgt := 17) (by decide) (by decide) (by decide) (fun h => ?_) (fun h => ?_)
    · exact absurd h (by decide)
    refine ew_iload_n g qd_M_puts_11 rfl ?_
    refine ew_bipush g qd_M_puts_12 bp_14 ?_
    refine en_le g qd_M_puts_14 (tgt := 29) (by decide) (by decide) (by decide) (fun h => ?_) (fun h => ?_)
    · exact absurd h (by decide)
    refine ew_iload_n g qd_M_puts_17 rfl ?_
    refine ew_bipush g qd_M_puts_18 bp_19 ?_
    refine en_eq g qd_M_puts_20 (tgt := 29) (by decide) (by decide) (by decide) (fun h => ?_) (fun h => ?_)
    · exact absurd h (by decide)
    refine ew_iload_n g qd_M_puts_23 rfl ?_
    refine ew_bipush g qd_M_puts_24 bp_20 ?_
    refine en_ne g qd_M_puts_26 (tgt := 33) (by decide) (by decide) (by decide) (fun h => ?_) (fun h => ?_)
    rotate_left
    · exact absurd h (by decide)
    refine ew_iconst g qd_M_puts_33 ic_0 ?_
    refine ew_iret g qd_M_puts_34 hp ?_
    exact ⟨rfl, rfl⟩
  · skip
    refine ew_iload_n g qd_M_puts_0 rfl ?_
    refine ew_iconst g qd_M_puts_1 ic_3 ?_
    refine en_le g qd_M_puts_2 (tgt := 29) (by decide) (by decide) (by decide) (fun h => ?_) (fun h => ?_)
    · exact absurd h (by decide)
    refine ew_iload_n g qd_M_puts_5 rfl ?_
    refine ew_bipush g qd_M_puts_6 bp_6 ?_
    refine en_lt g qd_M_puts_8 (tgt := 17) (by decide) (by decide) (by decide) (fun h => ?_) (fun h => ?_)
    · exact absurd h (by decide)
    refine ew_iload_n g qd_M_puts_11 rfl ?_
    refine ew_bipush g qd_M_puts_12 bp_14 ?_
    refine en_le g qd_M_puts_14 (tgt := 29) (by decide) (by decide) (by decide) (fun h => ?_) (fun h => ?_)
    · exact absurd h (by decide)
    refine ew_iload_n g qd_M_puts_17 rfl ?_
    refine ew_bipush g qd_M_puts_18 bp_19 ?_
    refine en_eq g qd_M_puts_20 (tgt := 29) (by decide) (by decide) (by decide) (fun h => ?_) (fun h => ?_)
    rotate_left
    · exact absurd h (by decide)
    refine ew_iconst g qd_M_puts_29 ic_1 ?_
    refine ew_goto g qd_M_puts_30 (tgt := 34) (by decide) ?_
    refine ew_iret g qd_M_puts_34 hp ?_
    exact ⟨rfl, rfl⟩
  · skip
    refine ew_iload_n g qd_M_puts_0 rfl ?_
    refine ew_iconst g qd_M_puts_1 ic_3 ?_
    refine en_le g qd_M_puts_2 (tgt := 29) (by decide) (by decide) (by decide) (fun h => ?_) (fun h => ?_)
    · exact absurd h (by decide)
    refine ew_iload_n g qd_M_puts_5 rfl ?_
    refine ew_bipush g qd_M_puts_6 bp_6 ?_
    refine en_lt g qd_M_puts_8 (tgt := 17) (by decide) (by decide) (by decide) (fun h => ?_) (fun h => ?_)
    · exact absurd h (by decide)
    refine ew_iload_n g qd_M_puts_11 rfl ?_
    refine ew_bipush g qd_M_puts_12 bp_14 ?_
    refine en_le g qd_M_puts_14 (tgt := 29) (by decide) (by decide) (by decide) (fun h => ?_) (fun h => ?_)
    · exact absurd h (by decide)
    refine ew_iload_n g qd_M_puts_17 rfl ?_
    refine ew_bipush g qd_M_puts_18 bp_19 ?_
    refine en_eq g qd_M_puts_20 (tgt := 29) (by decide) (by decide) (by decide) (fun h => ?_) (fun h => ?_)
    · exact absurd h (by decide)
    refine ew_iload_n g qd_M_puts_23 rfl ?_
    refine ew_bipush g qd_M_puts_24 bp_20 ?_
    refine en_ne g qd_M_puts_26 (tgt := 33) (by decide) (by decide) (by decide) (fun h => ?_) (fun h => ?_)
    · exact absurd h (by decide)
    refine ew_iconst g qd_M_puts_29 ic_1 ?_
    refine ew_goto g qd_M_puts_30 (tgt := 34) (by decide) ?_
    refine ew_iret g qd_M_puts_34 hp ?_
    exact ⟨rfl, rfl⟩
  · skip
    refine ew_iload_n g qd_M_puts_0 rfl ?_
    refine ew_iconst g qd_M_puts_1 ic_3 ?_
    refine en_le g qd_M_puts_2 (tgt := 29) (by decide) (by decide) (by decide) (fun h => ?_) (fun h => ?_)
    · exact absurd h (by decide)
    refine ew_iload_n g qd_M_puts_5 rfl ?_
    refine ew_bipush g qd_M_puts_6 bp_6 ?_
    refine en_lt g qd_M_puts_8 (tgt := 17) (by decide) (by decide) (by decide) (fun h => ?_) (fun h => ?_)
    · exact absurd h (by decide)
    refine ew_iload_n g qd_M_puts_11 rfl ?_
    refine ew_bipush g qd_M_puts_12 bp_14 ?_
    refine en_le g qd_M_puts_14 (tgt := 29) (by decide) (by decide) (by decide) (fun h => ?_) (fun h => ?_)
    · exact absurd h (by decide)
    refine ew_iload_n g qd_M_puts_17 rfl ?_
    refine ew_bipush g qd_M_puts_18 bp_19 ?_
    refine en_eq g qd_M_puts_20 (tgt := 29) (by decide) (by decide) (by decide) (fun h => ?_) (fun h => ?_)
    · exact absurd h (by decide)
    refine ew_iload_n g qd_M_puts_23 rfl ?_
    refine ew_bipush g qd_M_puts_24 bp_20 ?_
    refine en_ne g qd_M_puts_26 (tgt := 33) (by decide) (by decide) (by decide) (fun h => ?_) (fun h => ?_)
    rotate_left
    · exact absurd h (by decide)
    refine ew_iconst g qd_M_puts_33 ic_0 ?_
    refine ew_iret g qd_M_puts_34 hp ?_
    exact ⟨rfl, rfl⟩
  · skip
    refine ew_iload_n g qd_M_puts_0 rfl ?_
    refine ew_iconst g qd_M_puts_1 ic_3 ?_
    refine en_le g qd_M_puts_2 (tgt := 29) (by decide) (by decide) (by decide) (fun h => ?_) (fun h => ?_)
    · exact absurd h (by decide)
    refine ew_iload_n g qd_M_puts_5 rfl ?_
    refine ew_bipush g qd_M_puts_6 bp_6 ?_
    refine en_lt g qd_M_puts_8 (tgt := 17) (by decide) (by decide) (by decide) (fun h => ?_) (fun h => ?_)
    · exact absurd h (by decide)
    refine ew_iload_n g qd_M_puts_11 rfl ?_
    refine ew_bipush g qd_M_puts_12 bp_14 ?_
    refine en_le g qd_M_puts_14 (tgt := 29) (by decide) (by decide) (by decide) (fun h => ?_) (fun h => ?_)
    · exact absurd h (by decide)
    refine ew_iload_n g qd_M_puts_17 rfl ?_
    refine ew_bipush g qd_M_puts_18 bp_19 ?_
    refine en_eq g qd_M_puts_20 (tgt := 29) (by decide) (by decide) (by decide) (fun h => ?_) (fun h => ?_)
    · exact absurd h (by decide)
    refine ew_iload_n g qd_M_puts_23 rfl ?_
    refine ew_bipush g qd_M_puts_24 bp_20 ?_
    refine en_ne g qd_M_puts_26 (tgt := 33) (by decide) (by decide) (by decide) (fun h => ?_) (fun h => ?_)
    rotate_left
    · exact absurd h (by decide)
    refine ew_iconst g qd_M_puts_33 ic_0 ?_
    refine ew_iret g qd_M_puts_34 hp ?_
    exact ⟨rfl, rfl⟩
  · skip
    refine ew_iload_n g qd_M_puts_0 rfl ?_
    refine ew_iconst g qd_M_puts_1 ic_3 ?_
    refine en_le g qd_M_puts_2 (tgt := 29) (by decide) (by decide) (by decide) (fun h => ?_) (fun h => ?_)
    · exact absurd h (by decide)
    refine ew_iload_n g qd_M_puts_5 rfl ?_
    refine ew_bipush g qd_M_puts_6 bp_6 ?_
    refine en_lt g qd_M_puts_8 (tgt := 17) (by decide) (by decide) (by decide) (fun h => ?_) (fun h => ?_)
    · exact absurd h (by decide)
    refine ew_iload_n g qd_M_puts_11 rfl ?_
    refine ew_bipush g qd_M_puts_12 bp_14 ?_
    refine en_le g qd_M_puts_14 (tgt := 29) (by decide) (by decide) (by decide) (fun h => ?_) (fun h => ?_)
    · exact absurd h (by decide)
    refine ew_iload_n g qd_M_puts_17 rfl ?_
    refine ew_bipush g qd_M_puts_18 bp_19 ?_
    refine en_eq g qd_M_puts_20 (tgt := 29) (by decide) (by decide) (by decide) (fun h => ?_) (fun h => ?_)
    · exact absurd h (by decide)
    refine ew_iload_n g qd_M_puts_23 rfl ?_
    refine ew_bipush g qd_M_puts_24 bp_20 ?_
    refine en_ne g qd_M_puts_26 (tgt := 33) (by decide) (by decide) (by decide) (fun h => ?_) (fun h => ?_)
    rotate_left
    · exact absurd h (by decide)
    refine ew_iconst g qd_M_puts_33 ic_0 ?_
    refine ew_iret g qd_M_puts_34 hp ?_
    exact ⟨rfl, rfl⟩
  · skip
    refine ew_iload_n g qd_M_puts_0 rfl ?_
    refine ew_iconst g qd_M_puts_1 ic_3 ?_
    refine en_le g qd_M_puts_2 (tgt := 29) (by decide) (by decide) (by decide) (fun h => ?_) (fun h => ?_)
    · exact absurd h (by decide)
    refine ew_iload_n g qd_M_puts_5 rfl ?_
    refine ew_bipush g qd_M_puts_6 bp_6 ?_
    refine en_lt g qd_M_puts_8 (tgt := 17) (by decide) (by decide) (by decide) (fun h => ?_) (fun h => ?_)
    · exact absurd h (by decide)
    refine ew_iload_n g qd_M_puts_11 rfl ?_
    refine ew_bipush g qd_M_puts_12 bp_14 ?_
    refine en_le g qd_M_puts_14 (tgt := 29) (by decide) (by decide) (by decide) (fun h => ?_) (fun h => ?_)
    · exact absurd h (by decide)
    refine ew_iload_n g qd_M_puts_17 rfl ?_
    refine ew_bipush g qd_M_puts_18 bp_19 ?_
    refine en_eq g qd_M_puts_20 (tgt := 29) (by decide) (by decide) (by decide) (fun h => ?_) (fun h => ?_)
    · exact absurd h (by decide)
    refine ew_iload_n g qd_M_puts_23 rfl ?_
    refine ew_bipush g qd_M_puts_24 bp_20 ?_
    refine en_ne g qd_M_puts_26 (tgt := 33) (by decide) (by decide) (by decide) (fun h => ?_) (fun h => ?_)
    rotate_left
    · exact absurd h (by decide)
    refine ew_iconst g qd_M_puts_33 ic_0 ?_
    refine ew_iret g qd_M_puts_34 hp ?_
    exact ⟨rfl, rfl⟩
theorem k_M_cost (w : WC) (l : Launch) (sg : SG) {o : Nat} (ho : o < 25) : ew_M qS w l qy_M_cost qw_M_cost qr_M_cost [.inl (nI o)] sg (fun v sg' => v = some (.inl (nI (oCost o))) ∧ sg' = sg) := by
  refine ew_entry (ws' := qwg) (own := qR_M) (cc := qc_M_cost) (nL := 1) (ret := some .int) qnk (by decide) rfl rfl (Nat.le_of_ble_eq_true rfl) ?_
  intro k g hp
  rcases (by omega : o = 0 ∨ o = 1 ∨ o = 2 ∨ o = 3 ∨ o = 4 ∨ o = 5 ∨ o = 6 ∨ o = 7 ∨ o = 8 ∨ o = 9 ∨ o = 10 ∨ o = 11 ∨ o = 12 ∨ o = 13 ∨ o = 14 ∨ o = 15 ∨ o = 16 ∨ o = 17 ∨ o = 18 ∨ o = 19 ∨ o = 20 ∨ o = 21 ∨ o = 22 ∨ o = 23 ∨ o = 24) with rfl | rfl | rfl | rfl | rfl | rfl | rfl | rfl | rfl | rfl | rfl | rfl | rfl | rfl | rfl | rfl | rfl | rfl | rfl | rfl | rfl | rfl | rfl | rfl | rfl
  · skip
    refine ew_iload_n g qd_M_cost_0 rfl ?_
    refine ew_bipush g qd_M_cost_1 bp_19 ?_
    refine en_ne g qd_M_cost_3 (tgt := 10) (by decide) (by decide) (by decide) (fun h => ?_) (fun h => ?_)
    rotate_left
    · exact absurd h (by decide)
    refine ew_iload_n g qd_M_cost_10 rfl ?_
    refine ew_bipush g qd_M_cost_11 bp_8 ?_
    refine en_eq g qd_M_cost_13 (tgt := 22) (by decide) (by decide) (by decide) (fun h => ?_) (fun h => ?_)
    · exact absurd h (by decide)
    refine ew_iload_n g qd_M_cost_16 rfl ?_
    refine ew_bipush g qd_M_cost_17 bp_15 ?_
    refine en_ne g qd_M_cost_19 (tgt := 26) (by decide) (by decide) (by decide) (fun h => ?_) (fun h => ?_)
    rotate_left
    · exact absurd h (by decide)
    refine ew_iconst g qd_M_cost_26 ic_1 ?_
    refine ew_iret g qd_M_cost_27 hp ?_
    exact ⟨rfl, rfl⟩
  · skip
    refine ew_iload_n g qd_M_cost_0 rfl ?_
    refine ew_bipush g qd_M_cost_1 bp_19 ?_
    refine en_ne g qd_M_cost_3 (tgt := 10) (by decide) (by decide) (by decide) (fun h => ?_) (fun h => ?_)
    rotate_left
    · exact absurd h (by decide)
    refine ew_iload_n g qd_M_cost_10 rfl ?_
    refine ew_bipush g qd_M_cost_11 bp_8 ?_
    refine en_eq g qd_M_cost_13 (tgt := 22) (by decide) (by decide) (by decide) (fun h => ?_) (fun h => ?_)
    · exact absurd h (by decide)
    refine ew_iload_n g qd_M_cost_16 rfl ?_
    refine ew_bipush g qd_M_cost_17 bp_15 ?_
    refine en_ne g qd_M_cost_19 (tgt := 26) (by decide) (by decide) (by decide) (fun h => ?_) (fun h => ?_)
    rotate_left
    · exact absurd h (by decide)
    refine ew_iconst g qd_M_cost_26 ic_1 ?_
    refine ew_iret g qd_M_cost_27 hp ?_
    exact ⟨rfl, rfl⟩
  · skip
    refine ew_iload_n g qd_M_cost_0 rfl ?_
    refine ew_bipush g qd_M_cost_1 bp_19 ?_
    refine en_ne g qd_M_cost_3 (tgt := 10) (by decide) (by decide) (by decide) (fun h => ?_) (fun h => ?_)
    rotate_left
    · exact absurd h (by decide)
    refine ew_iload_n g qd_M_cost_10 rfl ?_
    refine ew_bipush g qd_M_cost_11 bp_8 ?_
    refine en_eq g qd_M_cost_13 (tgt := 22) (by decide) (by decide) (by decide) (fun h => ?_) (fun h => ?_)
    · exact absurd h (by decide)
    refine ew_iload_n g qd_M_cost_16 rfl ?_
    refine ew_bipush g qd_M_cost_17 bp_15 ?_
    refine en_ne g qd_M_cost_19 (tgt := 26) (by decide) (by decide) (by decide) (fun h => ?_) (fun h => ?_)
    rotate_left
    · exact absurd h (by decide)
    refine ew_iconst g qd_M_cost_26 ic_1 ?_
    refine ew_iret g qd_M_cost_27 hp ?_
    exact ⟨rfl, rfl⟩
  · skip
    refine ew_iload_n g qd_M_cost_0 rfl ?_
    refine ew_bipush g qd_M_cost_1 bp_19 ?_
    refine en_ne g qd_M_cost_3 (tgt := 10) (by decide) (by decide) (by decide) (fun h => ?_) (fun h => ?_)
    rotate_left
    · exact absurd h (by decide)
    refine ew_iload_n g qd_M_cost_10 rfl ?_
    refine ew_bipush g qd_M_cost_11 bp_8 ?_
    refine en_eq g qd_M_cost_13 (tgt := 22) (by decide) (by decide) (by decide) (fun h => ?_) (fun h => ?_)
    · exact absurd h (by decide)
    refine ew_iload_n g qd_M_cost_16 rfl ?_
    refine ew_bipush g qd_M_cost_17 bp_15 ?_
    refine en_ne g qd_M_cost_19 (tgt := 26) (by decide) (by decide) (by decide) (fun h => ?_) (fun h => ?_)
    rotate_left
    · exact absurd h (by decide)
    refine ew_iconst g qd_M_cost_26 ic_1 ?_
    refine ew_iret g qd_M_cost_27 hp ?_
    exact ⟨rfl, rfl⟩
  · skip
    refine ew_iload_n g qd_M_cost_0 rfl ?_
    refine ew_bipush g qd_M_cost_1 bp_19 ?_
    refine en_ne g qd_M_cost_3 (tgt := 10) (by decide) (by decide) (by decide) (fun h => ?_) (fun h => ?_)
    rotate_left
    · exact absurd h (by decide)
    refine ew_iload_n g qd_M_cost_10 rfl ?_
    refine ew_bipush g qd_M_cost_11 bp_8 ?_
    refine en_eq g qd_M_cost_13 (tgt := 22) (by decide) (by decide) (by decide) (fun h => ?_) (fun h => ?_)
    · exact absurd h (by decide)
    refine ew_iload_n g qd_M_cost_16 rfl ?_
    refine ew_bipush g qd_M_cost_17 bp_15 ?_
    refine en_ne g qd_M_cost_19 (tgt := 26) (by decide) (by decide) (by decide) (fun h => ?_) (fun h => ?_)
    rotate_left
    · exact absurd h (by decide)
    refine ew_iconst g qd_M_cost_26 ic_1 ?_
    refine ew_iret g qd_M_cost_27 hp ?_
    exact ⟨rfl, rfl⟩
  · skip
    refine ew_iload_n g qd_M_cost_0 rfl ?_
    refine ew_bipush g qd_M_cost_1 bp_19 ?_
    refine en_ne g qd_M_cost_3 (tgt := 10) (by decide) (by decide) (by decide) (fun h => ?_) (fun h => ?_)
    rotate_left
    · exact absurd h (by decide)
    refine ew_iload_n g qd_M_cost_10 rfl ?_
    refine ew_bipush g qd_M_cost_11 bp_8 ?_
    refine en_eq g qd_M_cost_13 (tgt := 22) (by decide) (by decide) (by decide) (fun h => ?_) (fun h => ?_)
    · exact absurd h (by decide)
    refine ew_iload_n g qd_M_cost_16 rfl ?_
    refine ew_bipush g qd_M_cost_17 bp_15 ?_
    refine en_ne g qd_M_cost_19 (tgt := 26) (by decide) (by decide) (by decide) (fun h => ?_) (fun h => ?_)
    rotate_left
    · exact absurd h (by decide)
    refine ew_iconst g qd_M_cost_26 ic_1 ?_
    refine ew_iret g qd_M_cost_27 hp ?_
    exact ⟨rfl, rfl⟩
  · skip
    refine ew_iload_n g qd_M_cost_0 rfl ?_
    refine ew_bipush g qd_M_cost_1 bp_19 ?_
    refine en_ne g qd_M_cost_3 (tgt := 10) (by decide) (by decide) (by decide) (fun h => ?_) (fun h => ?_)
    rotate_left
    · exact absurd h (by decide)
    refine ew_iload_n g qd_M_cost_10 rfl ?_
    refine ew_bipush g qd_M_cost_11 bp_8 ?_
    refine en_eq g qd_M_cost_13 (tgt := 22) (by decide) (by decide) (by decide) (fun h => ?_) (fun h => ?_)
    · exact absurd h (by decide)
    refine ew_iload_n g qd_M_cost_16 rfl ?_
    refine ew_bipush g qd_M_cost_17 bp_15 ?_
    refine en_ne g qd_M_cost_19 (tgt := 26) (by decide) (by decide) (by decide) (fun h => ?_) (fun h => ?_)
    rotate_left
    · exact absurd h (by decide)
    refine ew_iconst g qd_M_cost_26 ic_1 ?_
    refine ew_iret g qd_M_cost_27 hp ?_
    exact ⟨rfl, rfl⟩
  · skip
    refine ew_iload_n g qd_M_cost_0 rfl ?_
    refine ew_bipush g qd_M_cost_1 bp_19 ?_
    refine en_ne g qd_M_cost_3 (tgt := 10) (by decide) (by decide) (by decide) (fun h => ?_) (fun h => ?_)
    rotate_left
    · exact absurd h (by decide)
    refine ew_iload_n g qd_M_cost_10 rfl ?_
    refine ew_bipush g qd_M_cost_11 bp_8 ?_
    refine en_eq g qd_M_cost_13 (tgt := 22) (by decide) (by decide) (by decide) (fun h => ?_) (fun h => ?_)
    · exact absurd h (by decide)
    refine ew_iload_n g qd_M_cost_16 rfl ?_
    refine ew_bipush g qd_M_cost_17 bp_15 ?_
    refine en_ne g qd_M_cost_19 (tgt := 26) (by decide) (by decide) (by decide) (fun h => ?_) (fun h => ?_)
    rotate_left
    · exact absurd h (by decide)
    refine ew_iconst g qd_M_cost_26 ic_1 ?_
    refine ew_iret g qd_M_cost_27 hp ?_
    exact ⟨rfl, rfl⟩
  · skip
    refine ew_iload_n g qd_M_cost_0 rfl ?_
    refine ew_bipush g qd_M_cost_1 bp_19 ?_
    refine en_ne g qd_M_cost_3 (tgt := 10) (by decide) (by decide) (by decide) (fun h => ?_) (fun h => ?_)
    rotate_left
    · exact absurd h (by decide)
    refine ew_iload_n g qd_M_cost_10 rfl ?_
    refine ew_bipush g qd_M_cost_11 bp_8 ?_
    refine en_eq g qd_M_cost_13 (tgt := 22) (by decide) (by decide) (by decide) (fun h => ?_) (fun h => ?_)
    rotate_left
    · exact absurd h (by decide)
    refine ew_iconst g qd_M_cost_22 ic_3 ?_
    refine ew_goto g qd_M_cost_23 (tgt := 27) (by decide) ?_
    refine ew_iret g qd_M_cost_27 hp ?_
    exact ⟨rfl, rfl⟩
  · skip
    refine ew_iload_n g qd_M_cost_0 rfl ?_
    refine ew_bipush g qd_M_cost_1 bp_19 ?_
    refine en_ne g qd_M_cost_3 (tgt := 10) (by decide) (by decide) (by decide) (fun h => ?_) (fun h => ?_)
    rotate_left
    · exact absurd h (by decide)
    refine ew_iload_n g qd_M_cost_10 rfl ?_
    refine ew_bipush g qd_M_cost_11 bp_8 ?_
    refine en_eq g qd_M_cost_13 (tgt := 22) (by decide) (by decide) (by decide) (fun h => ?_) (fun h => ?_)
    · exact absurd h (by decide)
    refine ew_iload_n g qd_M_cost_16 rfl ?_
    refine ew_bipush g qd_M_cost_17 bp_15 ?_
    refine en_ne g qd_M_cost_19 (tgt := 26) (by decide) (by decide) (by decide) (fun h => ?_) (fun h => ?_)
    rotate_left
    · exact absurd h (by decide)
    refine ew_iconst g qd_M_cost_26 ic_1 ?_
    refine ew_iret g qd_M_cost_27 hp ?_
    exact ⟨rfl, rfl⟩
  · skip
    refine ew_iload_n g qd_M_cost_0 rfl ?_
    refine ew_bipush g qd_M_cost_1 bp_19 ?_
    refine en_ne g qd_M_cost_3 (tgt := 10) (by decide) (by decide) (by decide) (fun h => ?_) (fun h => ?_)
    rotate_left
    · exact absurd h (by decide)
    refine ew_iload_n g qd_M_cost_10 rfl ?_
    refine ew_bipush g qd_M_cost_11 bp_8 ?_
    refine en_eq g qd_M_cost_13 (tgt := 22) (by decide) (by decide) (by decide) (fun h => ?_) (fun h => ?_)
    · exact absurd h (by decide)
    refine ew_iload_n g qd_M_cost_16 rfl ?_
    refine ew_bipush g qd_M_cost_17 bp_15 ?_
    refine en_ne g qd_M_cost_19 (tgt := 26) (by decide) (by decide) (by decide) (fun h => ?_) (fun h => ?_)
    rotate_left
    · exact absurd h (by decide)
    refine ew_iconst g qd_M_cost_26 ic_1 ?_
    refine ew_iret g qd_M_cost_27 hp ?_
    exact ⟨rfl, rfl⟩
  · skip
    refine ew_iload_n g qd_M_cost_0 rfl ?_
    refine ew_bipush g qd_M_cost_1 bp_19 ?_
    refine en_ne g qd_M_cost_3 (tgt := 10) (by decide) (by decide) (by decide) (fun h => ?_) (fun h => ?_)
    rotate_left
    · exact absurd h (by decide)
    refine ew_iload_n g qd_M_cost_10 rfl ?_
    refine ew_bipush g qd_M_cost_11 bp_8 ?_
    refine en_eq g qd_M_cost_13 (tgt := 22) (by decide) (by decide) (by decide) (fun h => ?_) (fun h => ?_)
    · exact absurd h (by decide)
    refine ew_iload_n g qd_M_cost_16 rfl ?_
    refine ew_bipush g qd_M_cost_17 bp_15 ?_
    refine en_ne g qd_M_cost_19 (tgt := 26) (by decide) (by decide) (by decide) (fun h => ?_) (fun h => ?_)
    rotate_left
    · exact absurd h (by decide)
    refine ew_iconst g qd_M_cost_26 ic_1 ?_
    refine ew_iret g qd_M_cost_27 hp ?_
    exact ⟨rfl, rfl⟩
  · skip
    refine ew_iload_n g qd_M_cost_0 rfl ?_
    refine ew_bipush g qd_M_cost_1 bp_19 ?_
    refine en_ne g qd_M_cost_3 (tgt := 10) (by decide) (by decide) (by decide) (fun h => ?_) (fun h => ?_)
    rotate_left
    · exact absurd h (by decide)
    refine ew_iload_n g qd_M_cost_10 rfl ?_
    refine ew_bipush g qd_M_cost_11 bp_8 ?_
    refine en_eq g qd_M_cost_13 (tgt := 22) (by decide) (by decide) (by decide) (fun h => ?_) (fun h => ?_)
    · exact absurd h (by decide)
    refine ew_iload_n g qd_M_cost_16 rfl ?_
    refine ew_bipush g qd_M_cost_17 bp_15 ?_
    refine en_ne g qd_M_cost_19 (tgt := 26) (by decide) (by decide) (by decide) (fun h => ?_) (fun h => ?_)
    rotate_left
    · exact absurd h (by decide)
    refine ew_iconst g qd_M_cost_26 ic_1 ?_
    refine ew_iret g qd_M_cost_27 hp ?_
    exact ⟨rfl, rfl⟩
  · skip
    refine ew_iload_n g qd_M_cost_0 rfl ?_
    refine ew_bipush g qd_M_cost_1 bp_19 ?_
    refine en_ne g qd_M_cost_3 (tgt := 10) (by decide) (by decide) (by decide) (fun h => ?_) (fun h => ?_)
    rotate_left
    · exact absurd h (by decide)
    refine ew_iload_n g qd_M_cost_10 rfl ?_
    refine ew_bipush g qd_M_cost_11 bp_8 ?_
    refine en_eq g qd_M_cost_13 (tgt := 22) (by decide) (by decide) (by decide) (fun h => ?_) (fun h => ?_)
    · exact absurd h (by decide)
    refine ew_iload_n g qd_M_cost_16 rfl ?_
    refine ew_bipush g qd_M_cost_17 bp_15 ?_
    refine en_ne g qd_M_cost_19 (tgt := 26) (by decide) (by decide) (by decide) (fun h => ?_) (fun h => ?_)
    rotate_left
    · exact absurd h (by decide)
    refine ew_iconst g qd_M_cost_26 ic_1 ?_
    refine ew_iret g qd_M_cost_27 hp ?_
    exact ⟨rfl, rfl⟩
  · skip
    refine ew_iload_n g qd_M_cost_0 rfl ?_
    refine ew_bipush g qd_M_cost_1 bp_19 ?_
    refine en_ne g qd_M_cost_3 (tgt := 10) (by decide) (by decide) (by decide) (fun h => ?_) (fun h => ?_)
    rotate_left
    · exact absurd h (by decide)
    refine ew_iload_n g qd_M_cost_10 rfl ?_
    refine ew_bipush g qd_M_cost_11 bp_8 ?_
    refine en_eq g qd_M_cost_13 (tgt := 22) (by decide) (by decide) (by decide) (fun h => ?_) (fun h => ?_)
    · exact absurd h (by decide)
    refine ew_iload_n g qd_M_cost_16 rfl ?_
    refine ew_bipush g qd_M_cost_17 bp_15 ?_
    refine en_ne g qd_M_cost_19 (tgt := 26) (by decide) (by decide) (by decide) (fun h => ?_) (fun h => ?_)
    rotate_left
    · exact absurd h (by decide)
    refine ew_iconst g qd_M_cost_26 ic_1 ?_
    refine ew_iret g qd_M_cost_27 hp ?_
    exact ⟨rfl, rfl⟩
  · skip
    refine ew_iload_n g qd_M_cost_0 rfl ?_
    refine ew_bipush g qd_M_cost_1 bp_19 ?_
    refine en_ne g qd_M_cost_3 (tgt := 10) (by decide) (by decide) (by decide) (fun h => ?_) (fun h => ?_)
    rotate_left
    · exact absurd h (by decide)
    refine ew_iload_n g qd_M_cost_10 rfl ?_
    refine ew_bipush g qd_M_cost_11 bp_8 ?_
    refine en_eq g qd_M_cost_13 (tgt := 22) (by decide) (by decide) (by decide) (fun h => ?_) (fun h => ?_)
    · exact absurd h (by decide)
    refine ew_iload_n g qd_M_cost_16 rfl ?_
    refine ew_bipush g qd_M_cost_17 bp_15 ?_
    refine en_ne g qd_M_cost_19 (tgt := 26) (by decide) (by decide) (by decide) (fun h => ?_) (fun h => ?_)
    · exact absurd h (by decide)
    refine ew_iconst g qd_M_cost_22 ic_3 ?_
    refine ew_goto g qd_M_cost_23 (tgt := 27) (by decide) ?_
    refine ew_iret g qd_M_cost_27 hp ?_
    exact ⟨rfl, rfl⟩
  · skip
    refine ew_iload_n g qd_M_cost_0 rfl ?_
    refine ew_bipush g qd_M_cost_1 bp_19 ?_
    refine en_ne g qd_M_cost_3 (tgt := 10) (by decide) (by decide) (by decide) (fun h => ?_) (fun h => ?_)
    rotate_left
    · exact absurd h (by decide)
    refine ew_iload_n g qd_M_cost_10 rfl ?_
    refine ew_bipush g qd_M_cost_11 bp_8 ?_
    refine en_eq g qd_M_cost_13 (tgt := 22) (by decide) (by decide) (by decide) (fun h => ?_) (fun h => ?_)
    · exact absurd h (by decide)
    refine ew_iload_n g qd_M_cost_16 rfl ?_
    refine ew_bipush g qd_M_cost_17 bp_15 ?_
    refine en_ne g qd_M_cost_19 (tgt := 26) (by decide) (by decide) (by decide) (fun h => ?_) (fun h => ?_)
    rotate_left
    · exact absurd h (by decide)
    refine ew_iconst g qd_M_cost_26 ic_1 ?_
    refine ew_iret g qd_M_cost_27 hp ?_
    exact ⟨rfl, rfl⟩
  · skip
    refine ew_iload_n g qd_M_cost_0 rfl ?_
    refine ew_bipush g qd_M_cost_1 bp_19 ?_
    refine en_ne g qd_M_cost_3 (tgt := 10) (by decide) (by decide) (by decide) (fun h => ?_) (fun h => ?_)
    rotate_left
    · exact absurd h (by decide)
    refine ew_iload_n g qd_M_cost_10 rfl ?_
    refine ew_bipush g qd_M_cost_11 bp_8 ?_
    refine en_eq g qd_M_cost_13 (tgt := 22) (by decide) (by decide) (by decide) (fun h => ?_) (fun h => ?_)
    · exact absurd h (by decide)
    refine ew_iload_n g qd_M_cost_16 rfl ?_
    refine ew_bipush g qd_M_cost_17 bp_15 ?_
    refine en_ne g qd_M_cost_19 (tgt := 26) (by decide) (by decide) (by decide) (fun h => ?_) (fun h => ?_)
    rotate_left
    · exact absurd h (by decide)
    refine ew_iconst g qd_M_cost_26 ic_1 ?_
    refine ew_iret g qd_M_cost_27 hp ?_
    exact ⟨rfl, rfl⟩
  · skip
    refine ew_iload_n g qd_M_cost_0 rfl ?_
    refine ew_bipush g qd_M_cost_1 bp_19 ?_
    refine en_ne g qd_M_cost_3 (tgt := 10) (by decide) (by decide) (by decide) (fun h => ?_) (fun h => ?_)
    rotate_left
    · exact absurd h (by decide)
    refine ew_iload_n g qd_M_cost_10 rfl ?_
    refine ew_bipush g qd_M_cost_11 bp_8 ?_
    refine en_eq g qd_M_cost_13 (tgt := 22) (by decide) (by decide) (by decide) (fun h => ?_) (fun h => ?_)
    · exact absurd h (by decide)
    refine ew_iload_n g qd_M_cost_16 rfl ?_
    refine ew_bipush g qd_M_cost_17 bp_15 ?_
    refine en_ne g qd_M_cost_19 (tgt := 26) (by decide) (by decide) (by decide) (fun h => ?_) (fun h => ?_)
    rotate_left
    · exact absurd h (by decide)
    refine ew_iconst g qd_M_cost_26 ic_1 ?_
    refine ew_iret g qd_M_cost_27 hp ?_
    exact ⟨rfl, rfl⟩
  · skip
    refine ew_iload_n g qd_M_cost_0 rfl ?_
    refine ew_bipush g qd_M_cost_1 bp_19 ?_
    refine en_ne g qd_M_cost_3 (tgt := 10) (by decide) (by decide) (by decide) (fun h => ?_) (fun h => ?_)
    · exact absurd h (by decide)
    refine ew_iconst g qd_M_cost_6 ic_5 ?_
    refine ew_goto g qd_M_cost_7 (tgt := 27) (by decide) ?_
    refine ew_iret g qd_M_cost_27 hp ?_
    exact ⟨rfl, rfl⟩
  · skip
    refine ew_iload_n g qd_M_cost_0 rfl ?_
    refine ew_bipush g qd_M_cost_1 bp_19 ?_
    refine en_ne g qd_M_cost_3 (tgt := 10) (by decide) (by decide) (by decide) (fun h => ?_) (fun h => ?_)
    rotate_left
    · exact absurd h (by decide)
    refine ew_iload_n g qd_M_cost_10 rfl ?_
    refine ew_bipush g qd_M_cost_11 bp_8 ?_
    refine en_eq g qd_M_cost_13 (tgt := 22) (by decide) (by decide) (by decide) (fun h => ?_) (fun h => ?_)
    · exact absurd h (by decide)
    refine ew_iload_n g qd_M_cost_16 rfl ?_
    refine ew_bipush g qd_M_cost_17 bp_15 ?_
    refine en_ne g qd_M_cost_19 (tgt := 26) (by decide) (by decide) (by decide) (fun h => ?_) (fun h => ?_)
    rotate_left
    · exact absurd h (by decide)
    refine ew_iconst g qd_M_cost_26 ic_1 ?_
    refine ew_iret g qd_M_cost_27 hp ?_
    exact ⟨rfl, rfl⟩
  · skip
    refine ew_iload_n g qd_M_cost_0 rfl ?_
    refine ew_bipush g qd_M_cost_1 bp_19 ?_
    refine en_ne g qd_M_cost_3 (tgt := 10) (by decide) (by decide) (by decide) (fun h => ?_) (fun h => ?_)
    rotate_left
    · exact absurd h (by decide)
    refine ew_iload_n g qd_M_cost_10 rfl ?_
    refine ew_bipush g qd_M_cost_11 bp_8 ?_
    refine en_eq g qd_M_cost_13 (tgt := 22) (by decide) (by decide) (by decide) (fun h => ?_) (fun h => ?_)
    · exact absurd h (by decide)
    refine ew_iload_n g qd_M_cost_16 rfl ?_
    refine ew_bipush g qd_M_cost_17 bp_15 ?_
    refine en_ne g qd_M_cost_19 (tgt := 26) (by decide) (by decide) (by decide) (fun h => ?_) (fun h => ?_)
    rotate_left
    · exact absurd h (by decide)
    refine ew_iconst g qd_M_cost_26 ic_1 ?_
    refine ew_iret g qd_M_cost_27 hp ?_
    exact ⟨rfl, rfl⟩
  · skip
    refine ew_iload_n g qd_M_cost_0 rfl ?_
    refine ew_bipush g qd_M_cost_1 bp_19 ?_
    refine en_ne g qd_M_cost_3 (tgt := 10) (by decide) (by decide) (by decide) (fun h => ?_) (fun h => ?_)
    rotate_left
    · exact absurd h (by decide)
    refine ew_iload_n g qd_M_cost_10 rfl ?_
    refine ew_bipush g qd_M_cost_11 bp_8 ?_
    refine en_eq g qd_M_cost_13 (tgt := 22) (by decide) (by decide) (by decide) (fun h => ?_) (fun h => ?_)
    · exact absurd h (by decide)
    refine ew_iload_n g qd_M_cost_16 rfl ?_
    refine ew_bipush g qd_M_cost_17 bp_15 ?_
    refine en_ne g qd_M_cost_19 (tgt := 26) (by decide) (by decide) (by decide) (fun h => ?_) (fun h => ?_)
    rotate_left
    · exact absurd h (by decide)
    refine ew_iconst g qd_M_cost_26 ic_1 ?_
    refine ew_iret g qd_M_cost_27 hp ?_
    exact ⟨rfl, rfl⟩
  · skip
    refine ew_iload_n g qd_M_cost_0 rfl ?_
    refine ew_bipush g qd_M_cost_1 bp_19 ?_
    refine en_ne g qd_M_cost_3 (tgt := 10) (by decide) (by decide) (by decide) (fun h => ?_) (fun h => ?_)
    rotate_left
    · exact absurd h (by decide)
    refine ew_iload_n g qd_M_cost_10 rfl ?_
    refine ew_bipush g qd_M_cost_11 bp_8 ?_
    refine en_eq g qd_M_cost_13 (tgt := 22) (by decide) (by decide) (by decide) (fun h => ?_) (fun h => ?_)
    · exact absurd h (by decide)
    refine ew_iload_n g qd_M_cost_16 rfl ?_
    refine ew_bipush g qd_M_cost_17 bp_15 ?_
    refine en_ne g qd_M_cost_19 (tgt := 26) (by decide) (by decide) (by decide) (fun h => ?_) (fun h => ?_)
    rotate_left
    · exact absurd h (by decide)
    refine ew_iconst g qd_M_cost_26 ic_1 ?_
    refine ew_iret g qd_M_cost_27 hp ?_
    exact ⟨rfl, rfl⟩
  · skip
    refine ew_iload_n g qd_M_cost_0 rfl ?_
    refine ew_bipush g qd_M_cost_1 bp_19 ?_
    refine en_ne g qd_M_cost_3 (tgt := 10) (by decide) (by decide) (by decide) (fun h => ?_) (fun h => ?_)
    rotate_left
    · exact absurd h (by decide)
    refine ew_iload_n g qd_M_cost_10 rfl ?_
    refine ew_bipush g qd_M_cost_11 bp_8 ?_
    refine en_eq g qd_M_cost_13 (tgt := 22) (by decide) (by decide) (by decide) (fun h => ?_) (fun h => ?_)
    · exact absurd h (by decide)
    refine ew_iload_n g qd_M_cost_16 rfl ?_
    refine ew_bipush g qd_M_cost_17 bp_15 ?_
    refine en_ne g qd_M_cost_19 (tgt := 26) (by decide) (by decide) (by decide) (fun h => ?_) (fun h => ?_)
    rotate_left
    · exact absurd h (by decide)
    refine ew_iconst g qd_M_cost_26 ic_1 ?_
    refine ew_iret g qd_M_cost_27 hp ?_
    exact ⟨rfl, rfl⟩
theorem k_M_markOf (w : WC) (l : Launch) (sg : SG) {cd : CDE} {a : Nat} (hc : mCode sg cd) (ha : a < 16) : ew_M qS w l qy_M_markOf qw_M_markOf qr_M_markOf [.inr 41, .inl (nI a)] sg (fun v sg' => v = some (.inl (mkI cd a)) ∧ sg' = sg) := by
  obtain ⟨⟨h32, hcd⟩, h2, h3⟩ := hc
  refine ew_entry (ws' := qwg) (own := qR_M) (cc := qc_M_markOf) (nL := 3) (ret := some .int) qnk (by decide) rfl rfl (Nat.le_of_ble_eq_true rfl) ?_
  intro k g hp
  have key : ∀ (d i : Nat), i + d = cd.1 → (∀ j, j < i → ¬ (cd.2.1 j = 16 ∧ cd.2.2 j = a)) → ew_E qS w 3 k 2 [some (.inr 41), some (.inl (nI a)), some (.inl (nI i))] [] sg := by
    intro d
    induction d with
    | zero =>
      intro i hi hinv
      refine ew_iload_n g qd_M_markOf_2 rfl ?_
      refine ew_aload_n g qd_M_markOf_3 rfl ?_
      refine ew_get g qd_M_markOf_4 qf_M_72 (by decide) rfl rfl ?_
      refine en_top h2 ?_
      refine en_ge g qd_M_markOf_7 (tgt := 39) (by decide) (by omega) (by omega) (fun h => ?_) (fun h => ?_)
      · refine ew_iconst g qd_M_markOf_39 ic_m1 ?_
        refine ew_iret g qd_M_markOf_40 hp ?_
        have e : mkAt cd a = none := List.find?_eq_none.mpr (fun j hj => by
          have := hinv j (by have := List.mem_range.mp hj; omega)
          simp only [decide_eq_true_eq]
          exact this)
        unfold mkI
        rw [e]
        exact ⟨rfl, rfl⟩
      · omega
    | succ d ih =>
      intro i hi hinv
      refine ew_iload_n g qd_M_markOf_2 rfl ?_
      refine ew_aload_n g qd_M_markOf_3 rfl ?_
      refine ew_get g qd_M_markOf_4 qf_M_72 (by decide) rfl rfl ?_
      refine en_top h2 ?_
      refine en_ge g qd_M_markOf_7 (tgt := 39) (by decide) (by omega) (by omega) (fun h => ?_) (fun h => ?_)
      · omega
      · obtain ⟨e1, e2⟩ := h3 i h
        obtain ⟨l1, l2⟩ := hcd i h
        have hnext : ¬ (cd.2.1 i = 16 ∧ cd.2.2 i = a) → ew_E qS w 3 k 33 [some (.inr 41), some (.inl (nI a)), some (.inl (nI i))] [] sg := by
          intro hno
          refine ew_iinc g qd_M_markOf_33 (by decide) rfl (ii_1 _) ?_
          refine ew_goto g qd_M_markOf_36 (tgt := 2) (by decide) ?_
          refine ih (i + 1) (by omega) (fun j hj => ?_)
          by_cases e : j = i
          · rw [e]; exact hno
          · exact hinv j (by omega)
        refine ew_aload_n g qd_M_markOf_10 rfl ?_
        refine ew_getR g qd_M_markOf_11 qf_M_7 (by decide) rfl rfl ?_
        refine ew_iload_n g qd_M_markOf_14 rfl ?_
        refine en_iald g qd_M_markOf_15 (by decide) rfl (by omega) (by omega) e1 ?_
        refine ew_bipush g qd_M_markOf_16 bp_16 ?_
        refine en_ne g qd_M_markOf_18 (tgt := 33) (by decide) (by omega) (by omega) (fun h16 => ?_) (fun h16 => ?_)
        · exact hnext (fun z => h16 z.1)
        · refine ew_aload_n g qd_M_markOf_21 rfl ?_
          refine ew_getR g qd_M_markOf_22 qf_M_13 (by decide) rfl rfl ?_
          refine ew_iload_n g qd_M_markOf_25 rfl ?_
          refine en_iald g qd_M_markOf_26 (by decide) rfl (by omega) (by omega) e2 ?_
          refine ew_iload_n g qd_M_markOf_27 rfl ?_
          refine en_ne g qd_M_markOf_28 (tgt := 33) (by decide) (by omega) (by omega) (fun hne => ?_) (fun hne => ?_)
          · exact hnext (fun z => hne z.2)
          · refine ew_iload_n g qd_M_markOf_31 rfl ?_
            refine ew_iret g qd_M_markOf_32 hp ?_
            have e : mkAt cd a = some i := by
              unfold mkAt
              rw [List.find?_range_eq_some]
              exact ⟨decide_eq_true ⟨h16, hne⟩, List.mem_range.mpr h, fun j hj => by simp only [Bool.not_eq_true', decide_eq_false_iff_not]; exact hinv j hj⟩
            unfold mkI
            rw [e]
            exact ⟨rfl, rfl⟩
  refine ew_iconst g qd_M_markOf_0 ic_0 ?_
  refine ew_istore_n g qd_M_markOf_1 (by decide) ?_
  exact key cd.1 0 (by omega) (fun j hj => absurd hj (Nat.not_lt_zero j))
theorem k_M_note (w : WC) (l : Launch) (sg : SG) {a kd : Nat} (ha : sg 41 10 = nI a) (hk : kd < 5) : ew_M qS w l qy_M_note qw_M_note qr_M_note [.inr 41, .inl (nI kd)] sg (fun v sg' => v = none ∧ sg' = sup sg 50 kd (sg 50 kd ||| (nI 1 <<< (nI a &&& 31)))) := by
  refine ew_entry (ws' := qwg) (own := qR_M) (cc := qc_M_note) (nL := 2) (ret := none) qnk (by decide) rfl rfl (Nat.le_of_ble_eq_true rfl) ?_
  intro k g hp
  refine ew_aload_n g qd_M_note_0 rfl ?_
  refine ew_getR g qd_M_note_1 qf_M_38 (by decide) rfl rfl ?_
  refine ew_iload_n g qd_M_note_4 rfl ?_
  refine ew_dup2 g qd_M_note_5 ?_
  refine en_iald g qd_M_note_6 (by decide) rfl (by omega) (by omega) rfl ?_
  refine ew_iconst g qd_M_note_7 ic_1 ?_
  refine ew_aload_n g qd_M_note_8 rfl ?_
  refine ew_get g qd_M_note_9 qf_M_78 (by decide) rfl rfl ?_
  refine en_top ha ?_
  refine ew_ishl g qd_M_note_12 ?_
  refine ew_ior g qd_M_note_13 ?_
  refine en_iast g qd_M_note_14 (by decide) rfl (by omega) (by omega) ?_
  refine ew_vret g qd_M_note_15 hp ?_
  exact ⟨rfl, rfl⟩
