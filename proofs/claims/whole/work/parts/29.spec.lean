/-! What an exploration answers, as numbers: q = (code, balance, limit, transactions). -/
abbrev XP : Type := CDE × Nat × Nat × Nat
abbrev KEY : Type := (List Nat × Nat) × (List Nat × Nat)
def xc0 (b : Nat) : Nat → Nat := fun i => if i = 4 then b else 0
theorem xc0_16 {b : Nat} (h : b < 16) : c16 (xc0 b) := by
  intro i _
  unfold xc0
  split
  · exact h
  · decide
theorem xc0_pk (b : Nat) : pk5 (xc0 b) = 65536 * b := by simp [pk5, xc0]
def xF (q : XP) (a : Nat) : PM := pTx q.1 q.2.2.1 (a % 64) (xc0 q.2.1) false
def xL (q : XP) (m : Nat) : PM := if q.2.2.2 = 1 then xF q m else pTx q.1 q.2.2.1 (m % 64) (pCe (xF q (m / 64))) (decide (pHo (xF q (m / 64)) = 3))
def xKey (q : XP) (m : Nat) : KEY := (if q.2.2.2 = 1 then ([], 4) else tK (xF q (m / 64)), tK (xL q m))
def xCel (q : XP) (m : Nat) : Nat → Nat := pCe (xL q m)
def xFnd (q : XP) (m : Nat) (kind i : Nat) : Bool := (if q.2.2.2 = 1 then false else pFo (xF q (m / 64)) kind i) || pFo (xL q m) kind i
def xN (q : XP) : Nat := if q.2.2.2 = 1 then 64 else 4096
/-- of the numbers below n those with P -/
def cntB : Nat → (Nat → Bool) → Nat
  | 0, _ => 0
  | n + 1, P => cntB n P + (if P n = true then 1 else 0)
theorem cntB_le (n : Nat) (P : Nat → Bool) : cntB n P ≤ n := by
  induction n with
  | zero => exact Nat.le_refl _
  | succ n ih => unfold cntB; split <;> omega
theorem cntB_congr {n : Nat} {P Q : Nat → Bool} (h : ∀ j, j < n → P j = Q j) : cntB n P = cntB n Q := by
  induction n with
  | zero => rfl
  | succ n ih =>
    unfold cntB
    rw [ih (fun j hj => h j (by omega)), h n (by omega)]
def dAdd (D : Nat → Bool) (m : Nat) : Nat → Bool := fun j => D j || decide (j = m)
theorem dAdd_m (D : Nat → Bool) (m : Nat) : dAdd D m m = true := by simp [dAdd]
theorem dAdd_t {D : Nat → Bool} {m j : Nat} (h : D j = true) : dAdd D m j = true := by simp [dAdd, h]
theorem dAdd_or {D : Nat → Bool} {m j : Nat} (h : dAdd D m j = true) : D j = true ∨ j = m := by simpa [dAdd] using h
theorem cntB_add {n m : Nat} {D P : Nat → Bool} (hm : m < n) (hD : D m = false) : cntB n (fun j => dAdd D m j && P j) = cntB n (fun j => D j && P j) + (if P m = true then 1 else 0) := by
  induction n with
  | zero => omega
  | succ n ih =>
    unfold cntB
    by_cases h : m = n
    · subst h
      have e : cntB m (fun j => dAdd D m j && P j) = cntB m (fun j => D j && P j) := cntB_congr (fun j hj => by
        have : ¬ j = m := by omega
        simp [dAdd, this])
      rw [e]
      simp [dAdd, hD]
    · rw [ih (by omega)]
      have : ¬ n = m := fun z => h z.symm
      simp only [dAdd, this, decide_false, Bool.or_false]
      omega
theorem cntB_none {n : Nat} {P : Nat → Bool} (h : ∀ j, j < n → P j = false) : cntB n P = 0 := by
  induction n with
  | zero => rfl
  | succ n ih =>
    unfold cntB
    rw [ih (fun j hj => h j (by omega)), h n (by omega)]
    rfl
theorem nI_inc (a : Nat) : nI a + nI 1 = nI (a + 1) := nI_add a 1
/-! the rest of a batch -/
theorem k_B_isDestroyed (w : WC) (l : Launch) (sg : SG) {b m : Nat} {ks : WKL} {r : PM} (hb : b = 10 ∨ b = 19) (hk : yW sg b ks) (hm : m < 64) (hE : bE sg b ks r m) : ew_M qS w l qy_B_isDestroyed qw_B_isDestroyed qr_B_isDestroyed [.inr b, .inl (nI m)] sg (fun v sg' => v = some (.inl (bI (decide (pHo r = 3)))) ∧ sg' = sg) := by
  obtain ⟨⟨j, hj, e1⟩, -, -⟩ := hE
  have hjl := (List.getElem?_eq_some_iff.mp hj).1
  have hk40 := hk.1
  obtain ⟨-, -, -, q4, q5, -⟩ := hk.2.2.2 j _ hj
  have q4 : sg (b + 5) j = nI (pHo r) := q4
  have q5 : pHo r ≤ 5 := q5
  refine ew_entry (ws' := qwg) (own := qR_B) (cc := qc_B_isDestroyed) (nL := 2) (ret := some .boolean) qnk (by decide) rfl rfl (Nat.le_of_ble_eq_true rfl) ?_
  intro k g hp
  refine ew_aload_n g qd_B_isDestroyed_0 rfl ?_
  refine ew_getR g qd_B_isDestroyed_1 qf_B_12 (by first | decide | exact lyo0 hb | exact lyo1 hb | exact lyo2 hb | exact lyo3 hb | exact lyo4 hb | exact lyo5 hb | exact lyo6 hb | exact lyo7 hb | exact lyo8 hb) (by first | rfl | exact lyB hb | exact lyY hb | exact lyA2 hb | exact lyA3 hb | exact lyA4 hb | exact lyA5 hb | exact lyA6 hb | exact lyA7 hb | exact lyA8 hb) rfl ?_
  refine ew_getR g qd_B_isDestroyed_4 qf_B_52 (by first | decide | exact lyo0 hb | exact lyo1 hb | exact lyo2 hb | exact lyo3 hb | exact lyo4 hb | exact lyo5 hb | exact lyo6 hb | exact lyo7 hb | exact lyo8 hb) (by first | rfl | exact lyB hb | exact lyY hb | exact lyA2 hb | exact lyA3 hb | exact lyA4 hb | exact lyA5 hb | exact lyA6 hb | exact lyA7 hb | exact lyA8 hb) rfl ?_
  refine ew_aload_n g qd_B_isDestroyed_7 rfl ?_
  refine ew_getR g qd_B_isDestroyed_8 qf_B_18 (by first | decide | exact lyo0 hb | exact lyo1 hb | exact lyo2 hb | exact lyo3 hb | exact lyo4 hb | exact lyo5 hb | exact lyo6 hb | exact lyo7 hb | exact lyo8 hb) (by first | rfl | exact lyB hb | exact lyY hb | exact lyA2 hb | exact lyA3 hb | exact lyA4 hb | exact lyA5 hb | exact lyA6 hb | exact lyA7 hb | exact lyA8 hb) rfl ?_
  refine ew_iload_n g qd_B_isDestroyed_11 rfl ?_
  refine en_iald g qd_B_isDestroyed_12 (by first | decide | exact lyo0 hb | exact lyo1 hb | exact lyo2 hb | exact lyo3 hb | exact lyo4 hb | exact lyo5 hb | exact lyo6 hb | exact lyo7 hb | exact lyo8 hb) (by first | rfl | exact lyB hb | exact lyY hb | exact lyA2 hb | exact lyA3 hb | exact lyA4 hb | exact lyA5 hb | exact lyA6 hb | exact lyA7 hb | exact lyA8 hb) (by omega) (by omega) e1 ?_
  refine en_iald g qd_B_isDestroyed_13 (by first | decide | exact lyo0 hb | exact lyo1 hb | exact lyo2 hb | exact lyo3 hb | exact lyo4 hb | exact lyo5 hb | exact lyo6 hb | exact lyo7 hb | exact lyo8 hb) (by first | rfl | exact lyB hb | exact lyY hb | exact lyA2 hb | exact lyA3 hb | exact lyA4 hb | exact lyA5 hb | exact lyA6 hb | exact lyA7 hb | exact lyA8 hb) (by omega) (by omega) q4 ?_
  refine ew_iconst g qd_B_isDestroyed_14 ic_3 ?_
  refine en_ne g qd_B_isDestroyed_15 (tgt := 22) (by decide) (by omega) (by omega) (fun h => ?_) (fun h => ?_)
  · refine ew_iconst g qd_B_isDestroyed_22 ic_0 ?_
    refine ew_zret g qd_B_isDestroyed_23 hp (by first | exact bI_nar _ | decide +kernel) ?_
    rw [decide_eq_false h]
    exact ⟨rfl, rfl⟩
  · refine ew_iconst g qd_B_isDestroyed_18 ic_1 ?_
    refine ew_goto g qd_B_isDestroyed_19 (tgt := 23) (by decide) ?_
    refine ew_zret g qd_B_isDestroyed_23 hp (by first | exact bI_nar _ | decide +kernel) ?_
    rw [decide_eq_true h]
    exact ⟨rfl, rfl⟩
def alk (r r' : PM) : Prop := pk5 (pCe r) = pk5 (pCe r') ∧ (pHo r = 3 ↔ pHo r' = 3)
theorem k_B_areFollowedAlike (w : WC) (l : Launch) (sg : SG) {b m m' : Nat} {ks : WKL} {r r' : PM} (hb : b = 10 ∨ b = 19) (hk : yW sg b ks) (hm : m < 64) (hm' : m' < 64) (hE : bE sg b ks r m) (hE' : bE sg b ks r' m') (hc : c16 (pCe r)) (hc' : c16 (pCe r')) : ew_M qS w l qy_B_areFollowedAlike qw_B_areFollowedAlike qr_B_areFollowedAlike [.inr b, .inl (nI m), .inl (nI m')] sg (fun v sg' => ((alk r r' ∧ v = some (.inl (nI 1))) ∨ (¬ alk r r' ∧ v = some (.inl (nI 0)))) ∧ sg' = sg) := by
  have l1 := hc.lt
  have l2 := hc'.lt
  refine ew_entry (ws' := qwg) (own := qR_B) (cc := qc_B_areFollowedAlike) (nL := 3) (ret := some .boolean) qnk (by decide) rfl rfl (Nat.le_of_ble_eq_true rfl) ?_
  intro k g hp
  refine ew_aload_n g qd_B_areFollowedAlike_0 rfl ?_
  refine ew_getR g qd_B_areFollowedAlike_1 qf_B_22 (by first | decide | exact lyo0 hb | exact lyo1 hb | exact lyo2 hb | exact lyo3 hb | exact lyo4 hb | exact lyo5 hb | exact lyo6 hb | exact lyo7 hb | exact lyo8 hb) (by first | rfl | exact lyB hb | exact lyY hb | exact lyA2 hb | exact lyA3 hb | exact lyA4 hb | exact lyA5 hb | exact lyA6 hb | exact lyA7 hb | exact lyA8 hb) rfl ?_
  refine ew_iload_n g qd_B_areFollowedAlike_4 rfl ?_
  refine en_iald g qd_B_areFollowedAlike_5 (by first | decide | exact lyo0 hb | exact lyo1 hb | exact lyo2 hb | exact lyo3 hb | exact lyo4 hb | exact lyo5 hb | exact lyo6 hb | exact lyo7 hb | exact lyo8 hb) (by first | rfl | exact lyB hb | exact lyY hb | exact lyA2 hb | exact lyA3 hb | exact lyA4 hb | exact lyA5 hb | exact lyA6 hb | exact lyA7 hb | exact lyA8 hb) (by omega) (by omega) hE.2.1 ?_
  refine ew_aload_n g qd_B_areFollowedAlike_6 rfl ?_
  refine ew_getR g qd_B_areFollowedAlike_7 qf_B_22 (by first | decide | exact lyo0 hb | exact lyo1 hb | exact lyo2 hb | exact lyo3 hb | exact lyo4 hb | exact lyo5 hb | exact lyo6 hb | exact lyo7 hb | exact lyo8 hb) (by first | rfl | exact lyB hb | exact lyY hb | exact lyA2 hb | exact lyA3 hb | exact lyA4 hb | exact lyA5 hb | exact lyA6 hb | exact lyA7 hb | exact lyA8 hb) rfl ?_
  refine ew_iload_n g qd_B_areFollowedAlike_10 rfl ?_
  refine en_iald g qd_B_areFollowedAlike_11 (by first | decide | exact lyo0 hb | exact lyo1 hb | exact lyo2 hb | exact lyo3 hb | exact lyo4 hb | exact lyo5 hb | exact lyo6 hb | exact lyo7 hb | exact lyo8 hb) (by first | rfl | exact lyB hb | exact lyY hb | exact lyA2 hb | exact lyA3 hb | exact lyA4 hb | exact lyA5 hb | exact lyA6 hb | exact lyA7 hb | exact lyA8 hb) (by omega) (by omega) hE'.2.1 ?_
  refine en_ne g qd_B_areFollowedAlike_12 (tgt := 32) (by decide) (by omega) (by omega) (fun h => ?_) (fun h => ?_)
  · refine ew_iconst g qd_B_areFollowedAlike_32 ic_0 ?_
    refine ew_zret g qd_B_areFollowedAlike_33 hp (by first | exact bI_nar _ | decide +kernel) ?_
    exact ⟨Or.inr ⟨fun z => h z.1, rfl⟩, rfl⟩
  · refine ew_aload_n g qd_B_areFollowedAlike_15 rfl ?_
    refine ew_iload_n g qd_B_areFollowedAlike_16 rfl ?_
    refine ew_callV g qd_B_areFollowedAlike_17 (k_B_isDestroyed w k.2.1 sg hb hk hm hE) qv_B_55 (by first | decide | exact lyo0 hb | exact lyo1 hb | exact lyo2 hb | exact lyo3 hb | exact lyo4 hb | exact lyo5 hb | exact lyo6 hb | exact lyo7 hb | exact lyo8 hb) (by first | rfl | exact lyB hb | exact lyY hb | exact lyA2 hb | exact lyA3 hb | exact lyA4 hb | exact lyA5 hb | exact lyA6 hb | exact lyA7 hb | exact lyA8 hb) ⟨_, _, rfl⟩ rfl rfl (Nat.le_of_ble_eq_true rfl) ⟨rfl, rfl, by decide, by decide⟩ (fun v sg1 hv  => ?_)
    obtain ⟨rfl, rfl⟩ := hv
    refine ew_aload_n g qd_B_areFollowedAlike_20 rfl ?_
    refine ew_iload_n g qd_B_areFollowedAlike_21 rfl ?_
    refine ew_callV g qd_B_areFollowedAlike_22 (k_B_isDestroyed w k.2.1 sg1 hb hk hm' hE') qv_B_55 (by first | decide | exact lyo0 hb | exact lyo1 hb | exact lyo2 hb | exact lyo3 hb | exact lyo4 hb | exact lyo5 hb | exact lyo6 hb | exact lyo7 hb | exact lyo8 hb) (by first | rfl | exact lyB hb | exact lyY hb | exact lyA2 hb | exact lyA3 hb | exact lyA4 hb | exact lyA5 hb | exact lyA6 hb | exact lyA7 hb | exact lyA8 hb) ⟨_, _, rfl⟩ rfl rfl (Nat.le_of_ble_eq_true rfl) ⟨rfl, rfl, by decide, by decide⟩ (fun v sg2 hv  => ?_)
    obtain ⟨rfl, rfl⟩ := hv
    refine ew_icmp_ne g qd_B_areFollowedAlike_25 (tgt := 32) (by decide) (fun h2 => ?_) (fun h2 => ?_)
    · refine ew_iconst g qd_B_areFollowedAlike_32 ic_0 ?_
      refine ew_zret g qd_B_areFollowedAlike_33 hp (by first | exact bI_nar _ | decide +kernel) ?_
      refine ⟨Or.inr ⟨fun z => h2 ?_, rfl⟩, rfl⟩
      rw [decide_eq_decide.mpr z.2]
    · refine ew_iconst g qd_B_areFollowedAlike_28 ic_1 ?_
      refine ew_goto g qd_B_areFollowedAlike_29 (tgt := 33) (by decide) ?_
      refine ew_zret g qd_B_areFollowedAlike_33 hp (by first | exact bI_nar _ | decide +kernel) ?_
      refine ⟨Or.inl ⟨⟨h, ?_⟩, rfl⟩, rfl⟩
      have bi : ∀ x y : Bool, bI x = bI y → x = y := by decide +kernel
      exact decide_eq_decide.mp (bi _ _ h2)
theorem k_B_isFollowedLikeAnEarlierOne (w : WC) (l : Launch) (sg : SG) {b m : Nat} {ks : WKL} {R : Nat → PM} (hb : b = 10 ∨ b = 19) (hk : yW sg b ks) (hm : m < 64) (hE : ∀ j, j < 64 → bE sg b ks (R j) j) (hc : ∀ j, j < 64 → c16 (pCe (R j))) : ew_M qS w l qy_B_isFollowedLikeAnEarlierOne qw_B_isFollowedLikeAnEarlierOne qr_B_isFollowedLikeAnEarlierOne [.inr b, .inl (nI m)] sg (fun v sg' => (((∃ e, e < m ∧ alk (R e) (R m)) ∧ v = some (.inl (nI 1))) ∨ ((∀ e, e < m → ¬ alk (R e) (R m)) ∧ v = some (.inl (nI 0)))) ∧ sg' = sg) := by
  refine ew_entry (ws' := qwg) (own := qR_B) (cc := qc_B_isFollowedLikeAnEarlierOne) (nL := 3) (ret := some .boolean) qnk (by decide) rfl rfl (Nat.le_of_ble_eq_true rfl) ?_
  intro k g hp
  have key : ∀ (d i : Nat), i + d = m → (∀ e, e < i → ¬ alk (R e) (R m)) → ew_E qS w 3 k 2 [some (.inr b), some (.inl (nI m)), some (.inl (nI i))] [] sg := by
    intro d
    induction d with
    | zero =>
      intro i hi hinv
      refine ew_iload_n g qd_B_isFollowedLikeAnEarlierOne_2 rfl ?_
      refine ew_iload_n g qd_B_isFollowedLikeAnEarlierOne_3 rfl ?_
      refine en_ge g qd_B_isFollowedLikeAnEarlierOne_4 (tgt := 24) (by decide) (by omega) (by omega) (fun h => ?_) (fun h => ?_)
      · refine ew_iconst g qd_B_isFollowedLikeAnEarlierOne_24 ic_0 ?_
        refine ew_zret g qd_B_isFollowedLikeAnEarlierOne_25 hp (by first | exact bI_nar _ | decide +kernel) ?_
        exact ⟨Or.inr ⟨fun e he => hinv e (by omega), rfl⟩, rfl⟩
      · omega
    | succ d ih =>
      intro i hi hinv
      refine ew_iload_n g qd_B_isFollowedLikeAnEarlierOne_2 rfl ?_
      refine ew_iload_n g qd_B_isFollowedLikeAnEarlierOne_3 rfl ?_
      refine en_ge g qd_B_isFollowedLikeAnEarlierOne_4 (tgt := 24) (by decide) (by omega) (by omega) (fun h => ?_) (fun h => ?_)
      · omega
      · refine ew_aload_n g qd_B_isFollowedLikeAnEarlierOne_7 rfl ?_
        refine ew_iload_n g qd_B_isFollowedLikeAnEarlierOne_8 rfl ?_
        refine ew_iload_n g qd_B_isFollowedLikeAnEarlierOne_9 rfl ?_
        refine ew_callV g qd_B_isFollowedLikeAnEarlierOne_10 (k_B_areFollowedAlike w k.2.1 sg hb hk (by omega) hm (hE i (by omega)) (hE m hm) (hc i (by omega)) (hc m hm)) qv_B_59 (by first | decide | exact lyo0 hb | exact lyo1 hb | exact lyo2 hb | exact lyo3 hb | exact lyo4 hb | exact lyo5 hb | exact lyo6 hb | exact lyo7 hb | exact lyo8 hb) (by first | rfl | exact lyB hb | exact lyY hb | exact lyA2 hb | exact lyA3 hb | exact lyA4 hb | exact lyA5 hb | exact lyA6 hb | exact lyA7 hb | exact lyA8 hb) ⟨_, _, rfl⟩ rfl rfl (Nat.le_of_ble_eq_true rfl) ⟨rfl, rfl, by decide, by decide⟩ (fun v sg1 hv  => ?_)
        obtain ⟨hv, rfl⟩ := hv
        rcases hv with ⟨ha, rfl⟩ | ⟨ha, rfl⟩
        · refine en_if_eq g qd_B_isFollowedLikeAnEarlierOne_13 (tgt := 18) (by decide) (by omega) (fun hz => ?_) (fun hz => ?_)
          · exact absurd hz (by decide)
          · refine ew_iconst g qd_B_isFollowedLikeAnEarlierOne_16 ic_1 ?_
            refine ew_zret g qd_B_isFollowedLikeAnEarlierOne_17 hp (by first | exact bI_nar _ | decide +kernel) ?_
            exact ⟨Or.inl ⟨⟨i, h, ha⟩, rfl⟩, rfl⟩
        · refine en_if_eq g qd_B_isFollowedLikeAnEarlierOne_13 (tgt := 18) (by decide) (by omega) (fun hz => ?_) (fun hz => ?_)
          · refine ew_iinc g qd_B_isFollowedLikeAnEarlierOne_18 (by decide) rfl (ii_1 _) ?_
            refine ew_goto g qd_B_isFollowedLikeAnEarlierOne_21 (tgt := 2) (by decide) ?_
            refine ih (i + 1) (by omega) (fun e he => ?_)
            by_cases ee : e = i
            · rw [ee]; exact ha
            · exact hinv e (by omega)
          · exact absurd rfl hz
  refine ew_iconst g qd_B_isFollowedLikeAnEarlierOne_0 ic_0 ?_
  refine ew_istore_n g qd_B_isFollowedLikeAnEarlierOne_1 (by decide) ?_
  exact key m 0 (by omega) (fun e he => absurd he (Nat.not_lt_zero e))
theorem k_B_forget (w : WC) (l : Launch) (sg : SG) {b : Nat} (hb : b = 10 ∨ b = 19) : ew_M qS w l qy_B_forget qw_B_forget qr_B_forget [.inr b] sg (fun v sg' => v = none ∧ sg' = sfil (sfil (sup sg (b + 1) 4 (nI 0)) (b + 6) 64 (nI 0)) (b + 8) 320 (nI 0)) := by
  refine ew_entry (ws' := qwg) (own := qR_B) (cc := qc_B_forget) (nL := 1) (ret := none) qnk (by decide) rfl rfl (Nat.le_of_ble_eq_true rfl) ?_
  intro k g hp
  refine ew_aload_n g qd_B_forget_0 rfl ?_
  refine ew_getR g qd_B_forget_1 qf_B_12 (by first | decide | exact lyo0 hb | exact lyo1 hb | exact lyo2 hb | exact lyo3 hb | exact lyo4 hb | exact lyo5 hb | exact lyo6 hb | exact lyo7 hb | exact lyo8 hb) (by first | rfl | exact lyB hb | exact lyY hb | exact lyA2 hb | exact lyA3 hb | exact lyA4 hb | exact lyA5 hb | exact lyA6 hb | exact lyA7 hb | exact lyA8 hb) rfl ?_
  refine ew_callV g qd_B_forget_4 (k_Y_forget w k.2.1 sg hb) qv_B_28 (by first | decide | exact lyo0 hb | exact lyo1 hb | exact lyo2 hb | exact lyo3 hb | exact lyo4 hb | exact lyo5 hb | exact lyo6 hb | exact lyo7 hb | exact lyo8 hb) (by first | rfl | exact lyB hb | exact lyY hb | exact lyA2 hb | exact lyA3 hb | exact lyA4 hb | exact lyA5 hb | exact lyA6 hb | exact lyA7 hb | exact lyA8 hb) ⟨_, _, rfl⟩ rfl rfl (Nat.le_of_ble_eq_true rfl) ⟨rfl, rfl, by decide, by decide⟩ (fun v sg1 hv  => ?_)
  obtain ⟨rfl, rfl⟩ := hv
  refine ew_aload_n g qd_B_forget_7 rfl ?_
  refine ew_getR g qd_B_forget_8 qf_B_18 (by first | decide | exact lyo0 hb | exact lyo1 hb | exact lyo2 hb | exact lyo3 hb | exact lyo4 hb | exact lyo5 hb | exact lyo6 hb | exact lyo7 hb | exact lyo8 hb) (by first | rfl | exact lyB hb | exact lyY hb | exact lyA2 hb | exact lyA3 hb | exact lyA4 hb | exact lyA5 hb | exact lyA6 hb | exact lyA7 hb | exact lyA8 hb) rfl ?_
  refine ew_iconst g qd_B_forget_11 ic_0 ?_
  refine ew_callS g qd_B_forget_12 (k_A_fill w k.2.1 _ (nI 0) (lyo6 hb) (lyA6 hb) (by decide)) qs_B_31 rfl rfl (Nat.le_of_ble_eq_true rfl) ⟨rfl, rfl, by decide, by decide⟩ (fun v sg1 hv => ?_)
  obtain ⟨rfl, rfl⟩ := hv
  refine ew_aload_n g qd_B_forget_15 rfl ?_
  refine ew_getR g qd_B_forget_16 qf_B_25 (by first | decide | exact lyo0 hb | exact lyo1 hb | exact lyo2 hb | exact lyo3 hb | exact lyo4 hb | exact lyo5 hb | exact lyo6 hb | exact lyo7 hb | exact lyo8 hb) (by first | rfl | exact lyB hb | exact lyY hb | exact lyA2 hb | exact lyA3 hb | exact lyA4 hb | exact lyA5 hb | exact lyA6 hb | exact lyA7 hb | exact lyA8 hb) rfl ?_
  refine ew_iconst g qd_B_forget_19 ic_0 ?_
  refine ew_callS g qd_B_forget_20 (k_A_fill w k.2.1 _ (nI 0) (lyo8 hb) (lyA8 hb) (by decide)) qs_B_31 rfl rfl (Nat.le_of_ble_eq_true rfl) ⟨rfl, rfl, by decide, by decide⟩ (fun v sg1 hv => ?_)
  obtain ⟨rfl, rfl⟩ := hv
  refine ew_vret g qd_B_forget_23 hp ?_
  exact ⟨rfl, rfl⟩
