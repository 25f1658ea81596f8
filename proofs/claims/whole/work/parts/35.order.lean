/-! counting: ranks, first numbers -/
theorem cntB_lt {n r : Nat} {P : Nat → Bool} (hr : r < n) (h : P r = false) : cntB n P < n := by
  induction n with
  | zero => omega
  | succ n ih =>
    unfold cntB
    by_cases e : r = n
    · subst e
      have := cntB_le r P
      rw [h]
      simp
      omega
    · have := ih (by omega)
      split <;> omega
theorem cntB_mono {n : Nat} {P Q : Nat → Bool} (h : ∀ j, j < n → P j = true → Q j = true) : cntB n P ≤ cntB n Q := by
  induction n with
  | zero => exact Nat.le_refl _
  | succ n ih =>
    unfold cntB
    have h1 := ih (fun j hj => h j (by omega))
    have h2 := h n (by omega)
    by_cases e : P n = true
    · rw [if_pos e, if_pos (h2 e)]; omega
    · rw [if_neg e]; split <;> omega
theorem cntB_slt {n r : Nat} {P Q : Nat → Bool} (h : ∀ j, j < n → P j = true → Q j = true) (hr : r < n) (hp : P r = false) (hq : Q r = true) : cntB n P < cntB n Q := by
  induction n with
  | zero => omega
  | succ n ih =>
    unfold cntB
    have h2 := h n (by omega)
    by_cases e : r = n
    · subst e
      have h1 := cntB_mono (n := r) (fun j hj => h j (by omega))
      rw [hp, hq]
      simp
      omega
    · have h1 := ih (fun j hj => h j (by omega)) (by omega)
      by_cases e2 : P n = true
      · rw [if_pos e2, if_pos (h2 e2)]; omega
      · rw [if_neg e2]; split <;> omega
theorem cntB_mle {a b : Nat} {P : Nat → Bool} (h : a ≤ b) : cntB a P ≤ cntB b P := by
  induction b with
  | zero => rw [Nat.le_zero.mp h]; exact Nat.le_refl _
  | succ b ih =>
    by_cases e : a = b + 1
    · rw [e]; exact Nat.le_refl _
    · have := ih (by omega)
      show _ ≤ cntB b P + _
      omega
theorem cntB_strict {a b : Nat} {P : Nat → Bool} (h : a < b) (hp : P a = true) : cntB a P < cntB b P := by
  have h1 := cntB_mle (P := P) (show a + 1 ≤ b from h)
  have h2 : cntB (a + 1) P = cntB a P + 1 := by
    show cntB a P + _ = _
    rw [if_pos hp]
  omega
theorem cntB_ex {n p : Nat} {P : Nat → Bool} (h : p < cntB n P) : ∃ j, j < n ∧ P j = true ∧ cntB j P = p := by
  induction n with
  | zero => exact absurd h (Nat.not_lt_zero _)
  | succ n ih =>
    have h : p < cntB n P + (if P n = true then 1 else 0) := h
    by_cases e : p < cntB n P
    · obtain ⟨j, h1, h2, h3⟩ := ih e
      exact ⟨j, by omega, h2, h3⟩
    · by_cases e2 : P n = true
      · rw [if_pos e2] at h
        exact ⟨n, by omega, e2, by omega⟩
      · rw [if_neg e2] at h; omega
theorem cntB_tr {n m : Nat} {P : Nat → Bool} (h : n ≤ m) : cntB m (fun j => decide (j < n) && P j) = cntB n P := by
  induction m with
  | zero => rw [Nat.le_zero.mp h]; rfl
  | succ m ih =>
    by_cases e : n = m + 1
    · subst e
      exact cntB_congr (fun j hj => by simp [hj])
    · show cntB m _ + _ = _
      rw [ih (by omega)]
      have : ¬ m < n := by omega
      simp [this]
theorem cntB_one {n v : Nat} {wf : Nat → Nat} (hi : ∀ a b, a < n → b < n → wf a = wf b → a = b) : cntB n (fun o => decide (wf o = v)) ≤ 1 ∧ ((∃ o, o < n ∧ wf o = v) → cntB n (fun o => decide (wf o = v)) = 1) := by
  induction n with
  | zero => exact ⟨Nat.zero_le _, fun ⟨o, h, _⟩ => by omega⟩
  | succ n ih =>
    obtain ⟨h1, h2⟩ := ih (fun a b ha hb => hi a b (by omega) (by omega))
    show cntB n _ + _ ≤ 1 ∧ (_ → cntB n _ + _ = 1)
    by_cases e : wf n = v
    · have h0 : cntB n (fun o => decide (wf o = v)) = 0 := cntB_none (fun j hj => by
        have : ¬ wf j = v := fun z => by have := hi j n (by omega) (by omega) (z.trans e.symm); omega
        simp [this])
      rw [h0]
      simp [e]
    · simp only [e, decide_false, Bool.false_eq_true, if_false, Nat.add_zero]
      refine ⟨h1, fun ⟨o, ho, hv⟩ => h2 ⟨o, ?_, hv⟩⟩
      by_cases z : o = n
      · subst z; exact absurd hv e
      · omega
theorem cntB_split {n v : Nat} (wf : Nat → Nat) : cntB n (fun o => decide (wf o < v + 1)) = cntB n (fun o => decide (wf o < v)) + cntB n (fun o => decide (wf o = v)) := by
  induction n with
  | zero => rfl
  | succ n ih =>
    show cntB n _ + _ = (cntB n _ + _) + (cntB n _ + _)
    rw [ih]
    by_cases h1 : wf n < v
    · have a1 : wf n < v + 1 := by omega
      have a2 : ¬ wf n = v := by omega
      simp [h1, a1, a2]; omega
    · by_cases h2 : wf n = v
      · have a1 : wf n < v + 1 := by omega
        simp [h1, h2]; omega
      · have a1 : ¬ wf n < v + 1 := by omega
        simp [h1, h2, a1]
theorem cntB_rank {n : Nat} {wf : Nat → Nat} {F : Nat → Bool} (hi : ∀ a b, a < n → b < n → wf a = wf b → a = b) (hF : ∀ o, o < n → F (wf o) = true) : ∀ v, (∀ j, j < v → F j = true → ∃ o, o < n ∧ wf o = j) → cntB n (fun o => decide (wf o < v)) = cntB v F := by
  intro v
  induction v with
  | zero => intro _; exact cntB_none (fun j _ => by simp)
  | succ v ih =>
    intro h
    rw [cntB_split, ih (fun j hj => h j (by omega))]
    show _ = cntB v F + _
    congr 1
    obtain ⟨h1, h2⟩ := cntB_one (v := v) hi
    cases hv : F v with
    | true => rw [if_pos rfl]; exact h2 (h v (by omega) hv)
    | false =>
      rw [if_neg (by simp)]
      refine cntB_none (fun j hj => ?_)
      have : ¬ wf j = v := fun z => by have := hF j hj; rw [z, hv] at this; cases this
      simp [this]
theorem cntB_list {n : Nat} {F : Nat → Bool} : ∀ (l : List Nat), l.Nodup → (∀ m, m ∈ l → m < n ∧ F m = true) → l.length ≤ cntB n F := by
  induction n with
  | zero =>
    intro l _ h
    cases l with
    | nil => exact Nat.le_refl _
    | cons a l => exact absurd (h a List.mem_cons_self).1 (Nat.not_lt_zero _)
  | succ n ih =>
    intro l hn h
    by_cases hm : n ∈ l
    · have hF := (h n hm).2
      have h1 := ih (l.erase n) (hn.erase n) (fun m hm' => by
        have h2 := (List.Nodup.mem_erase_iff hn).mp hm'
        have := h m h2.2
        exact ⟨by omega, this.2⟩)
      rw [List.length_erase_of_mem hm] at h1
      show _ ≤ cntB n F + _
      rw [if_pos hF]
      omega
    · have h1 := ih l hn (fun m hm' => by
        have := h m hm'
        have : m ≠ n := fun z => hm (z ▸ hm')
        exact ⟨by omega, (h m hm').2⟩)
      show _ ≤ cntB n F + _
      omega
def rk (n : Nat) (wf : Nat → Nat) (r : Nat) : Nat := cntB n (fun o => decide (wf o < wf r))
theorem k_P_putInOrder (w : WC) (l : Launch) (sg : SG) {n : Nat} {wf : Nat → Nat} (hc : sg 28 8 = nI n) (hn : n ≤ 40) (hw : ∀ r, r < n → sg 33 r = nI (wf r) ∧ wf r < 2 ^ 31) (hi : ∀ a b, a < n → b < n → wf a = wf b → a = b) : ew_M qS w l qy_P_putInOrder qw_P_putInOrder qr_P_putInOrder [.inr 28] sg (fun v sg' => v = none ∧ (∀ r, r < n → sg' 36 (rk n wf r) = nI r) ∧ ∀ o, o ≠ 36 → sg' o = sg o) := by
  refine ew_entry (ws' := qwg) (own := qR_P) (cc := qc_P_putInOrder) (nL := 4) (ret := none) qnk (by decide) rfl rfl (Nat.le_of_ble_eq_true rfl) ?_
  intro k g hp
  have key : ∀ (d i : Nat) (sg1 : SG) (x2 x3 : Option MV), i + d = n → (∀ r, r < i → sg1 36 (rk n wf r) = nI r) → (∀ o, o ≠ 36 → sg1 o = sg o) → ew_E qS w 4 k 2 [some (.inr 28), some (.inl (nI i)), x2, x3] [] sg1 := by
    intro d
    induction d with
    | zero =>
      intro i sg1 x2 x3 hid hr hf
      refine ew_iload_n g qd_P_putInOrder_2 rfl ?_
      refine ew_aload_n g qd_P_putInOrder_3 rfl ?_
      refine ew_get g qd_P_putInOrder_4 qf_P_36 (by decide) rfl rfl ?_
      refine en_top (show sg1 28 8 = nI n by rw [hf 28 (by decide)]; exact hc) ?_
      refine en_ge g qd_P_putInOrder_7 (tgt := 59) (by decide) (by omega) (by omega) (fun h => ?_) (fun h => ?_)
      · refine ew_vret g qd_P_putInOrder_59 hp ?_
        exact ⟨rfl, fun r hr' => hr r (by omega), hf⟩
      · omega
    | succ d ih =>
      intro i sg1 x2 x3 hid hr hf
      have h33 : ∀ r, r < n → sg1 33 r = nI (wf r) := fun r hr' => by rw [hf 33 (by decide)]; exact (hw r hr').1
      refine ew_iload_n g qd_P_putInOrder_2 rfl ?_
      refine ew_aload_n g qd_P_putInOrder_3 rfl ?_
      refine ew_get g qd_P_putInOrder_4 qf_P_36 (by decide) rfl rfl ?_
      refine en_top (show sg1 28 8 = nI n by rw [hf 28 (by decide)]; exact hc) ?_
      refine en_ge g qd_P_putInOrder_7 (tgt := 59) (by decide) (by omega) (by omega) (fun h => ?_) (fun h => ?_)
      · omega
      · have hwi := (hw i h).2
        have inner : ∀ (d' j : Nat), j + d' = n → ew_E qS w 4 k 14 [some (.inr 28), some (.inl (nI i)), some (.inl (nI (cntB j (fun o => decide (wf o < wf i))))), some (.inl (nI j))] [] sg1 := by
          intro d'
          induction d' with
          | zero =>
            intro j hj
            refine ew_iload_n g qd_P_putInOrder_14 rfl ?_
            refine ew_aload_n g qd_P_putInOrder_15 rfl ?_
            refine ew_get g qd_P_putInOrder_16 qf_P_36 (by decide) rfl rfl ?_
            refine en_top (show sg1 28 8 = nI n by rw [hf 28 (by decide)]; exact hc) ?_
            refine en_ge g qd_P_putInOrder_19 (tgt := 46) (by decide) (by omega) (by omega) (fun hh => ?_) (fun hh => ?_)
            · have ej : j = n := by omega
              subst ej
              have hlt : cntB j (fun o => decide (wf o < wf i)) < j := cntB_lt h (by simp)
              refine ew_aload_n g qd_P_putInOrder_46 rfl ?_
              refine ew_getR g qd_P_putInOrder_47 qf_P_33 (by decide) rfl rfl ?_
              refine ew_iload_n g qd_P_putInOrder_50 rfl ?_
              refine ew_iload_n g qd_P_putInOrder_51 rfl ?_
              refine en_iast g qd_P_putInOrder_52 (by decide) rfl (by omega) (by omega) ?_
              refine ew_iinc g qd_P_putInOrder_53 (by decide) rfl (ii_1 _) ?_
              refine ew_goto g qd_P_putInOrder_56 (tgt := 2) (by decide) ?_
              refine ih (i + 1) _ _ _ (by omega) (fun r hr' => ?_) (fun o ho => by rw [sup_n ho]; exact hf o ho)
              rw [sup_s]
              by_cases er : r = i
              · subst er
                exact pk_us
              · rw [pk_un (fun z => ?_)]
                · exact hr r (by omega)
                · have hne : wf r ≠ wf i := fun y => er (hi r i (by omega) (by omega) y)
                  rcases Nat.lt_or_gt_of_ne hne with y | y
                  · have := cntB_slt (n := j) (r := r) (P := fun o => decide (wf o < wf r)) (Q := fun o => decide (wf o < wf i)) (fun o _ ho => by simp at ho ⊢; omega) (by omega) (by simp) (by simp; exact y)
                    have z : cntB j (fun o => decide (wf o < wf r)) = _ := z
                    omega
                  · have := cntB_slt (n := j) (r := i) (P := fun o => decide (wf o < wf i)) (Q := fun o => decide (wf o < wf r)) (fun o _ ho => by simp at ho ⊢; omega) (by omega) (by simp) (by simp; exact y)
                    have z : cntB j (fun o => decide (wf o < wf r)) = _ := z
                    omega
            · omega
          | succ d' ih' =>
            intro j hj
            have hwj := (hw j (by omega)).2
            refine ew_iload_n g qd_P_putInOrder_14 rfl ?_
            refine ew_aload_n g qd_P_putInOrder_15 rfl ?_
            refine ew_get g qd_P_putInOrder_16 qf_P_36 (by decide) rfl rfl ?_
            refine en_top (show sg1 28 8 = nI n by rw [hf 28 (by decide)]; exact hc) ?_
            refine en_ge g qd_P_putInOrder_19 (tgt := 46) (by decide) (by omega) (by omega) (fun hh => ?_) (fun hh => ?_)
            · omega
            · refine ew_aload_n g qd_P_putInOrder_22 rfl ?_
              refine ew_getR g qd_P_putInOrder_23 qf_P_24 (by decide) rfl rfl ?_
              refine ew_iload_n g qd_P_putInOrder_26 rfl ?_
              refine en_iald g qd_P_putInOrder_27 (by decide) rfl (by omega) (by omega) (h33 j hh) ?_
              refine ew_aload_n g qd_P_putInOrder_28 rfl ?_
              refine ew_getR g qd_P_putInOrder_29 qf_P_24 (by decide) rfl rfl ?_
              refine ew_iload_n g qd_P_putInOrder_32 rfl ?_
              refine en_iald g qd_P_putInOrder_33 (by decide) rfl (by omega) (by omega) (h33 i h) ?_
              refine en_ge g qd_P_putInOrder_34 (tgt := 40) (by decide) (by omega) (by omega) (fun hge => ?_) (fun hge => ?_)
              · refine ew_iinc g qd_P_putInOrder_40 (by decide) rfl (ii_1 _) ?_
                refine ew_goto g qd_P_putInOrder_43 (tgt := 14) (by decide) ?_
                have e : cntB (j + 1) (fun o => decide (wf o < wf i)) = cntB j (fun o => decide (wf o < wf i)) := by
                  show cntB j _ + _ = _
                  rw [if_neg (by simp; omega), Nat.add_zero]
                rw [← e]
                exact ih' (j + 1) (by omega)
              · refine ew_iinc g qd_P_putInOrder_37 (by decide) rfl (ii_1 _) ?_
                refine ew_iinc g qd_P_putInOrder_40 (by decide) rfl (ii_1 _) ?_
                refine ew_goto g qd_P_putInOrder_43 (tgt := 14) (by decide) ?_
                have e : cntB (j + 1) (fun o => decide (wf o < wf i)) = cntB j (fun o => decide (wf o < wf i)) + 1 := by
                  show cntB j _ + _ = _
                  rw [if_pos (by simp; omega)]
                rw [← e]
                exact ih' (j + 1) (by omega)
        refine ew_iconst g qd_P_putInOrder_10 ic_0 ?_
        refine ew_istore_n g qd_P_putInOrder_11 (by decide) ?_
        refine ew_iconst g qd_P_putInOrder_12 ic_0 ?_
        refine ew_istore_n g qd_P_putInOrder_13 (by decide) ?_
        exact inner n 0 (by omega)
  refine ew_iconst g qd_P_putInOrder_0 ic_0 ?_
  refine ew_istore_n g qd_P_putInOrder_1 (by decide) ?_
  exact key n 0 sg _ _ (by omega) (fun r hr => absurd hr (Nat.not_lt_zero r)) (fun o _ => rfl)
