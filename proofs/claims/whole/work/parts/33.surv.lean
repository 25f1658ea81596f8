/-! bounds of whole transactions; what a forgotten exploration holds -/
def pZ (c : Nat → Nat) : Prop := ∀ i, 5 ≤ i → c i = 0
theorem pZ_nup {c : Nat → Nat} {k x : Nat} (h : pZ c) (hk : k < 5) : pZ (nup c k x) := by
  intro i hi
  unfold nup
  rw [if_neg (by omega)]
  exact h i hi
theorem pPer_z {cd : CDE} {inp cal : Nat} {s : PM} {o a : Nat} (h : pZ (pCe s)) : pZ (pCe (pPer cd inp cal s o a)) := by
  unfold pPer
  split
  · exact h
  · unfold pDo
    split
    · show pZ (pCe (pSnd _ _ _))
      unfold pSnd
      split
      · exact pZ_nup h (by decide)
      · exact h
    · unfold pAct
      split
      · exact h
      · split
        · exact pZ_nup h (by omega)
        · split
          · exact h
          · split
            · split <;> exact h
            · split
              · exact h
              · split
                · exact h
                · split <;> exact h
theorem pRun_ok {cd : CDE} {inp cal : Nat} (hcd : cdOK cd) (hi : inp < 16) (hc : cal < 4) : ∀ (n : Nat) (s : PM), pOK s → pZ (pCe s) → pHo s ≤ 5 → pOK (pRun cd inp cal n s) ∧ pZ (pCe (pRun cd inp cal n s)) ∧ pHo (pRun cd inp cal n s) ≤ 5 := by
  intro n
  induction n with
  | zero => intro s h1 h2 h3; exact ⟨h1, h2, h3⟩
  | succ n ih =>
    intro s h1 h2 h3
    unfold pRun
    split
    · exact ⟨h1, h2, h3⟩
    · split
      · exact ⟨h1, h2, by show (0 : Nat) ≤ 5; decide⟩
      · rename_i hat
        exact ih _ (pStep_ok hcd hi hc (by omega) h1) (pPer_z (s := pWay s (pWa s ++ [pAt s])) h2) (pPer_wa (cd := cd) (inp := inp) (cal := cal) (s := pWay s (pWa s ++ [pAt s])) (o := cd.2.1 (pAt s)) (a := cd.2.2 (pAt s)) h3).2
theorem pTx_ok {cd : CDE} {lim num : Nat} {c : Nat → Nat} {dead : Bool} (hcd : cdOK cd) (hl : lim ≤ 40) (hn : num < 64) (hc : c16 c) (hz : pZ c) : c16 (pCe (pTx cd lim num c dead)) ∧ pZ (pCe (pTx cd lim num c dead)) ∧ pHo (pTx cd lim num c dead) ≤ 5 := by
  have hb : pOK (pBeg (if dead = true then 0 else lim) c (if dead = true then 4 else 5)) := ⟨Nat.zero_le 6, fun i hi => absurd hi (Nat.not_lt_zero i), hc, by show (if dead = true then 0 else lim) ≤ 40; split <;> omega, Nat.zero_le _⟩
  obtain ⟨h1, h2, h3⟩ := pRun_ok (inp := num / 4) (cal := num % 4) hcd (by omega) (by omega) 41 _ hb hz (by show (if dead = true then 4 else 5) ≤ 5; split <;> decide)
  have e : pTx cd lim num c dead = (if pHo (pRun cd (num / 4) (num % 4) 41 (pBeg (if dead = true then 0 else lim) c (if dead = true then 4 else 5))) = 1 ∨ pHo (pRun cd (num / 4) (num % 4) 41 (pBeg (if dead = true then 0 else lim) c (if dead = true then 4 else 5))) = 2 then pCel (pRun cd (num / 4) (num % 4) 41 (pBeg (if dead = true then 0 else lim) c (if dead = true then 4 else 5))) c else pRun cd (num / 4) (num % 4) 41 (pBeg (if dead = true then 0 else lim) c (if dead = true then 4 else 5))) := rfl
  rw [e]
  generalize pRun cd (num / 4) (num % 4) 41 (pBeg (if dead = true then 0 else lim) c (if dead = true then 4 else 5)) = S at h1 h2 h3 ⊢
  split
  · exact ⟨hc, hz, h3⟩
  · exact ⟨h1.2.2.1, h2, h3⟩
theorem xc0_z (b : Nat) : pZ (xc0 b) := by
  intro i hi
  unfold xc0
  rw [if_neg (by omega)]
def qOK (q : XP) : Prop := cdOK q.1 ∧ q.2.1 < 16 ∧ q.2.2.1 ≤ 40 ∧ (q.2.2.2 = 1 ∨ q.2.2.2 = 2)
theorem xF_ok {q : XP} (h : qOK q) (a : Nat) : c16 (pCe (xF q a)) ∧ pZ (pCe (xF q a)) ∧ pHo (xF q a) ≤ 5 := pTx_ok h.1 h.2.2.1 (Nat.mod_lt _ (by decide)) (xc0_16 h.2.1) (xc0_z _)
theorem xL_ok {q : XP} (h : qOK q) (m : Nat) : c16 (pCe (xL q m)) ∧ pHo (xL q m) ≤ 5 := by
  unfold xL
  split
  · exact ⟨(xF_ok h m).1, (xF_ok h m).2.2⟩
  · have := pTx_ok (dead := decide (pHo (xF q (m / 64)) = 3)) h.1 h.2.2.1 (Nat.mod_lt m (by decide : 0 < 64)) (xF_ok h (m / 64)).1 (xF_ok h (m / 64)).2.1
    exact ⟨this.1, this.2.2⟩
theorem alk_eq {q : XP} (h : qOK q) {a b : Nat} (hk : alk (xF q a) (xF q b)) : pCe (xF q a) = pCe (xF q b) ∧ decide (pHo (xF q a) = 3) = decide (pHo (xF q b) = 3) := by
  obtain ⟨a1, a2, -⟩ := xF_ok h a
  obtain ⟨b1, b2, -⟩ := xF_ok h b
  refine ⟨?_, decide_eq_decide.mpr hk.2⟩
  have e := (pk5_inj a1 b1).mp hk.1
  funext i
  by_cases hi : i < 5
  · exact e i hi
  · rw [a2 i (by omega), b2 i (by omega)]
theorem alk_rf (r : PM) : alk r r := ⟨rfl, Iff.rfl⟩
theorem alk_sy {a b : PM} (h : alk a b) : alk b a := ⟨h.1.symm, h.2.symm⟩
theorem alk_tr {a b c : PM} (h : alk a b) (h' : alk b c) : alk a c := ⟨h.1.trans h'.1, h.2.trans h'.2⟩
def fgB (b : Nat) (sg : SG) : SG := sfil (sfil (sup sg (b + 1) 4 (nI 0)) (b + 6) 64 (nI 0)) (b + 8) 320 (nI 0)
def fgE (sg : SG) : SG := sfil (sfil (sfil (sup (fgB 19 (fgB 10 (sup sg 9 4 (nI 0)))) 28 8 (nI 0)) 29 1600 (-1)) 38 160 (-1)) 39 6400 (nI 0)
theorem k_E_forget (w : WC) (l : Launch) (sg : SG) : ew_M qS w l qy_E_forget qw_E_forget qr_E_forget [.inr 9] sg (fun v sg' => v = none ∧ sg' = fgE sg) := by
  refine ew_entry (ws' := qwg) (own := qR_E) (cc := qc_E_forget) (nL := 1) (ret := none) qnk (by decide) rfl rfl (Nat.le_of_ble_eq_true rfl) ?_
  intro k g hp
  refine ew_aload_n g qd_E_forget_0 rfl ?_
  refine ew_iconst g qd_E_forget_1 ic_0 ?_
  refine ew_put g qd_E_forget_2 qf_E_35 (qp_E_transactions _) (by decide) rfl rfl ?_
  refine ew_aload_n g qd_E_forget_5 rfl ?_
  refine ew_getR g qd_E_forget_6 qf_E_12 (by decide) rfl rfl ?_
  refine ew_callV g qd_E_forget_9 (k_B_forget w k.2.1 _ (b := 10) (Or.inl rfl)) qv_E_39 (by decide) rfl ⟨_, _, rfl⟩ rfl rfl (Nat.le_of_ble_eq_true rfl) ⟨rfl, rfl, by decide, by decide⟩ (fun v sg1 hv => ?_)
  obtain ⟨rfl, rfl⟩ := hv
  refine ew_aload_n g qd_E_forget_12 rfl ?_
  refine ew_getR g qd_E_forget_13 qf_E_18 (by decide) rfl rfl ?_
  refine ew_callV g qd_E_forget_16 (k_B_forget w k.2.1 _ (b := 19) (Or.inr rfl)) qv_E_39 (by decide) rfl ⟨_, _, rfl⟩ rfl rfl (Nat.le_of_ble_eq_true rfl) ⟨rfl, rfl, by decide, by decide⟩ (fun v sg1 hv => ?_)
  obtain ⟨rfl, rfl⟩ := hv
  refine ew_aload_n g qd_E_forget_19 rfl ?_
  refine ew_getR g qd_E_forget_20 qf_E_24 (by decide) rfl rfl ?_
  refine ew_callV g qd_E_forget_23 (k_P_forget w k.2.1 _) qv_E_42 (by decide) rfl ⟨_, _, rfl⟩ rfl rfl (Nat.le_of_ble_eq_true rfl) ⟨rfl, rfl, by decide, by decide⟩ (fun v sg1 hv => ?_)
  obtain ⟨rfl, rfl⟩ := hv
  refine ew_aload_n g qd_E_forget_26 rfl ?_
  refine ew_getR g qd_E_forget_27 qf_E_31 (by decide) rfl rfl ?_
  refine ew_callV g qd_E_forget_30 (k_T_forget w k.2.1 _) qv_E_43 (by decide) rfl ⟨_, _, rfl⟩ rfl rfl (Nat.le_of_ble_eq_true rfl) ⟨rfl, rfl, by decide, by decide⟩ (fun v sg1 hv => ?_)
  obtain ⟨rfl, rfl⟩ := hv
  refine ew_vret g qd_E_forget_33 hp ?_
  exact ⟨rfl, rfl⟩
theorem fgE_n {sg : SG} {o : Nat} (h : o < 9 ∨ 39 < o) : fgE sg o = sg o := by
  unfold fgE fgB
  rw [sfil_n (by omega), sfil_n (by omega), sfil_n (by omega), sup_n (by omega), sfil_n (by omega), sfil_n (by omega), sup_n (by omega), sfil_n (by omega), sfil_n (by omega), sup_n (by omega), sup_n (by omega)]
theorem fgE_9 (sg : SG) : fgE sg 9 4 = nI 0 := by
  unfold fgE fgB
  rw [sfil_n (by decide), sfil_n (by decide), sfil_n (by decide), sup_n (by decide), sfil_n (by decide), sfil_n (by decide), sup_n (by decide), sfil_n (by decide), sfil_n (by decide), sup_n (by decide), sup_s, pk_us]
theorem fgE_11 (sg : SG) : fgE sg 11 4 = nI 0 := by
  unfold fgE fgB
  rw [sfil_n (by decide), sfil_n (by decide), sfil_n (by decide), sup_n (by decide), sfil_n (by decide), sfil_n (by decide), sup_n (by decide), sfil_n (by decide), sfil_n (by decide), sup_s, pk_us]
theorem fgE_20 (sg : SG) : fgE sg 20 4 = nI 0 := by
  unfold fgE fgB
  rw [sfil_n (by decide), sfil_n (by decide), sfil_n (by decide), sup_n (by decide), sfil_n (by decide), sfil_n (by decide), sup_s, pk_us]
theorem fgE_28 (sg : SG) : fgE sg 28 8 = nI 0 := by
  unfold fgE fgB
  rw [sfil_n (by decide), sfil_n (by decide), sfil_n (by decide), sup_s, pk_us]
theorem fgE_16 (sg : SG) {p : Nat} (h : p < 64) : fgE sg 16 p = nI 0 := by
  unfold fgE fgB
  rw [sfil_n (by decide), sfil_n (by decide), sfil_n (by decide), sup_n (by decide), sfil_n (by decide), sfil_n (by decide), sup_n (by decide), sfil_n (by decide)]
  exact sfil_at h
theorem fgE_18 (sg : SG) {p : Nat} (h : p < 320) : fgE sg 18 p = nI 0 := by
  unfold fgE fgB
  rw [sfil_n (by decide), sfil_n (by decide), sfil_n (by decide), sup_n (by decide), sfil_n (by decide), sfil_n (by decide), sup_n (by decide)]
  exact sfil_at h
theorem fgE_29 (sg : SG) {p : Nat} (h : p < 1600) : fgE sg 29 p = -1 := by
  unfold fgE fgB
  rw [sfil_n (by decide), sfil_n (by decide)]
  exact sfil_at h
theorem fgE_38 (sg : SG) {p : Nat} (h : p < 160) : fgE sg 38 p = -1 := by
  unfold fgE fgB
  rw [sfil_n (by decide)]
  exact sfil_at h
theorem fgE_39 (sg : SG) {p : Nat} (h : p < 6400) : fgE sg 39 p = nI 0 := by
  unfold fgE fgB
  exact sfil_at h
theorem fg_rel {sg : SG} (ka kb : WKL) (ky : Nat → KEY) (cel : Nat → Nat → Nat) (h8 : sg 28 8 = nI 0) (h9 : ∀ p, p < 1600 → sg 29 p = -1) : pRel sg ka kb [] (fun _ => false) ky cel := by
  refine ⟨by decide, h8, List.nodup_nil, fun m _ h => (by cases h), fun a b ha hb => Or.inr ⟨fun _ _ _ _ h => (by cases h), h9 _ (by omega)⟩, fun r q h => (by cases h)⟩
theorem fg_tly {sg : SG} (ky : Nat → KEY) (fb : Nat → Nat → Nat → Bool) (h8 : ∀ p, p < 160 → sg 38 p = -1) (h9 : ∀ p, p < 6400 → sg 39 p = nI 0) {kd : Nat} (hk : kd < 5) : tK1 sg [] (fun _ => false) ky fb kd := by
  intro i hi
  refine ⟨Or.inl ⟨h8 _ (by omega), fun m _ h => (by cases h)⟩, fun r hr => ?_⟩
  rw [h9 _ (by omega), cntB_none (P := fun m => (fun _ => false) m && (decide (([] : List KEY)[r]? = some (ky m)) && fb m kd i)) (fun j _ => rfl)]
theorem fg_yW {sg : SG} {b : Nat} (h : sg (b + 1) 4 = nI 0) : yW sg b [] := ⟨by decide, h, List.nodup_nil, fun j q hq => by cases hq⟩
/-- all is counted -/
def svOK (sg : SG) (q : XP) : Prop := ∃ ka kb rows, pRel sg ka kb rows (fun j => decide (j < xN q)) (xKey q) (xCel q) ∧ (∀ kd, kd < 5 → tK1 sg rows (fun j => decide (j < xN q)) (xKey q) (xFnd q) kd) ∧ yW sg 19 kb ∧ (q.2.2.2 = 2 → yW sg 10 ka) ∧ sg 9 4 = nI q.2.2.2
/-- there are too many ways -/
def svBad (q : XP) : Prop := ∃ ms : List Nat, ms.length = 41 ∧ (∀ m, m ∈ ms → m < xN q) ∧ (ms.map (xKey q)).Nodup
theorem pick_list {α : Type} {P : Nat → Prop} {g : Nat → α} : ∀ (big : List α), (∀ x, x ∈ big → ∃ m, P m ∧ g m = x) → ∃ ms : List Nat, ms.map g = big ∧ ∀ m, m ∈ ms → P m := by
  intro big
  induction big with
  | nil => intro _; exact ⟨[], rfl, fun m h => by cases h⟩
  | cons x big ih =>
    intro h
    obtain ⟨ms, e, hp⟩ := ih (fun y hy => h y (List.mem_cons_of_mem _ hy))
    obtain ⟨m, p1, p2⟩ := h x List.mem_cons_self
    exact ⟨m :: ms, by rw [List.map_cons, e, p2], fun j hj => by
      rcases List.mem_cons.mp hj with rfl | z
      · exact p1
      · exact hp j z⟩
theorem nod_map {α β : Type} {f : α → β} {l : List α} (h : (l.map f).Nodup) : ∀ {γ : Type} (g : α → γ) (k : γ → β), (∀ a, k (g a) = f a) → (l.map g).Nodup := by
  intro γ g k hk
  have e : (l.map g).map k = l.map f := by rw [List.map_map]; exact List.map_congr_left (fun a _ => hk a)
  rw [← e] at h
  have hp := List.pairwise_map.mp h
  exact List.Pairwise.imp (fun {a b} hab z => hab (by rw [z])) hp
theorem svBad_of {q : XP} {α : Type} (g : Nat → α) (k : KEY → α) (hk : ∀ m, k (xKey q m) = g m) {big : List α} (hn : big.Nodup) (hl : big.length = 41) (h : ∀ x, x ∈ big → ∃ m, m < xN q ∧ g m = x) : svBad q := by
  obtain ⟨ms, e, hp⟩ := pick_list (P := fun m => m < xN q) (g := g) big h
  refine ⟨ms, by rw [← hl, ← e, List.length_map], hp, ?_⟩
  rw [← e] at hn
  exact nod_map hn (xKey q) k hk
theorem k_E_surveySingles (w : WC) (l : Launch) (sg : SG) {q : XP} (hq : qOK q) (hn1 : q.2.2.2 = 1) (hcd : xCode sg q.1) : ew_M qS w l qy_E_surveySingles qw_E_surveySingles qr_E_surveySingles [.inr 9, .inr 1, .inl (nI (pk5 (xc0 q.2.1))), .inl (nI q.2.2.1)] (fgE sg) (fun v sg' => ((v = some (.inl (nI 1)) ∧ svOK sg' q) ∨ (v = some (.inl (nI 0)) ∧ svBad q)) ∧ ∀ o, o = 0 ∨ (2 ≤ o ∧ o < 6) ∨ 39 < o → sg' o = sg o) := by
  have hxN : xN q = 64 := by unfold xN; rw [if_pos hn1]
  have hxL : ∀ j, xL q j = xF q j := fun j => by unfold xL; rw [if_pos hn1]
  have hcd1 : xCode (sup (fgE sg) 9 4 (nI 1)) q.1 := by
    unfold xCode at hcd ⊢
    rw [sup_n (by decide), sup_n (by decide), sup_n (by decide), sup_n (by decide), fgE_n (by omega), fgE_n (by omega), fgE_n (by omega), fgE_n (by omega)]
    exact hcd
  have hy1 : yW (sup (fgE sg) 9 4 (nI 1)) 19 [] := fg_yW (by rw [sup_n (by decide)]; exact fgE_20 sg)
  refine ew_entry (ws' := qwg) (own := qR_E) (cc := qc_E_surveySingles) (nL := 4) (ret := some .boolean) qnk (by decide) rfl rfl (Nat.le_of_ble_eq_true rfl) ?_
  intro k g hp
  have hno : ∀ (sg1 : SG), svBad q → (∀ o, o = 0 ∨ (2 ≤ o ∧ o < 6) ∨ 39 < o → sg1 o = sg o) → ew_E qS w 4 k 31 [some (.inr 9), some (.inr 1), some (.inl (nI (pk5 (xc0 q.2.1)))), some (.inl (nI q.2.2.1))] [] sg1 := by
    intro sg1 hb hf
    refine ew_iconst g qd_E_surveySingles_31 ic_0 ?_
    refine ew_zret g qd_E_surveySingles_32 hp (by first | exact bI_nar _ | decide +kernel) ?_
    exact ⟨Or.inr ⟨rfl, hb⟩, hf⟩
  refine ew_aload_n g qd_E_surveySingles_0 rfl ?_
  refine ew_iconst g qd_E_surveySingles_1 ic_1 ?_
  refine ew_put g qd_E_surveySingles_2 qf_E_35 (qp_E_transactions _) (by decide) rfl rfl ?_
  refine ew_aload_n g qd_E_surveySingles_5 rfl ?_
  refine ew_getR g qd_E_surveySingles_6 qf_E_18 (by decide) rfl rfl ?_
  refine ew_aload_n g qd_E_surveySingles_9 rfl ?_
  refine ew_iload_n g qd_E_surveySingles_10 rfl ?_
  refine ew_iconst g qd_E_surveySingles_11 ic_0 ?_
  refine en_top bI_f.symm ?_
  refine ew_iload_n g qd_E_surveySingles_12 rfl ?_
  refine ew_callV g qd_E_surveySingles_13 (k_B_fill w k.2.1 _ (b := 19) (dead := false) (Or.inr rfl) hcd1 hy1 hq.2.2.1 (xc0_16 hq.2.1)) qv_E_44 (by decide) rfl ⟨_, _, rfl⟩ rfl rfl (Nat.le_of_ble_eq_true rfl) ⟨rfl, rfl, by decide, by decide⟩ (fun v sg1 hv => ?_)
  have hfo : ∀ {sg1 : SG}, bFr 19 (sup (fgE sg) 9 4 (nI 1)) sg1 → ∀ o, o = 0 ∨ (2 ≤ o ∧ o < 6) ∨ 39 < o → sg1 o = sg o := fun {sg1} hfr o ho => by
    rw [hfr o (by omega) (by omega) (by omega) (by omega) (by omega), sup_n (by omega), fgE_n (by omega)]
  have hmod : ∀ m, m < 64 → pTx q.1 q.2.2.1 m (xc0 q.2.1) false = xF q m := fun m hm => by unfold xF; rw [Nat.mod_eq_of_lt hm]
  rcases hv with ⟨rfl, ⟨kb, t, hkb, -, -, hB⟩, hfr⟩ | ⟨rfl, ⟨big, b1, b2, b3⟩, hfr⟩
  · refine en_if_eq g qd_E_surveySingles_16 (tgt := 31) (by decide) (by omega) (fun hz => ?_) (fun hz => ?_)
    · exact absurd hz (by decide)
    · have hg : ∀ o, o ≠ 1 → o ≠ 6 → o ≠ 7 → o ≠ 8 → o ≠ 9 → o < 20 ∨ 27 < o → sg1 o = fgE sg o := fun o h1 h2 h3 h4 h5 h6 => by
        rw [hfr o h1 h2 h3 h4 (by omega), sup_n h5]
      refine ew_aload_n g qd_E_surveySingles_19 rfl ?_
      refine ew_iconst g qd_E_surveySingles_20 ic_0 ?_
      refine ew_callV g qd_E_surveySingles_21 (k_E_countFollowers w k.2.1 sg1 (f := 0) (a0 := 0) (fk := ([], 4)) (ff := fun _ _ => false) (ka := [([], 4)]) (kb := kb) (rows := []) (D := fun _ => false) (ky := xKey q) (cel := xCel q) (fb := xFnd q) (R := xF q) (by decide) (by rw [hg 16 (by decide) (by decide) (by decide) (by decide) (by decide) (by decide)]; exact fgE_16 sg (by decide)) rfl (by decide) (by simp) (fun kd hk i hi => by rw [hg 18 (by decide) (by decide) (by decide) (by decide) (by decide) (by decide), fgE_18 sg (by omega), b_zero]) hkb (fun j hj => by rw [← hmod j hj]; exact hB j hj) (fg_rel _ _ _ _ (by rw [hg 28 (by decide) (by decide) (by decide) (by decide) (by decide) (by decide)]; exact fgE_28 sg) (fun p hp => by rw [hg 29 (by decide) (by decide) (by decide) (by decide) (by decide) (by decide)]; exact fgE_29 sg hp)) (fun kd hk => fg_tly _ _ (fun p hp => by rw [hg 38 (by decide) (by decide) (by decide) (by decide) (by decide) (by decide)]; exact fgE_38 sg hp) (fun p hp => by rw [hg 39 (by decide) (by decide) (by decide) (by decide) (by decide) (by decide)]; exact fgE_39 sg hp) hk) (fun j hj => (xL_ok hq j).1) (fun j hj => by unfold xKey; rw [if_pos hn1, hxL, Nat.zero_mul, Nat.zero_add]) (fun j hj => by unfold xCel; rw [hxL, Nat.zero_mul, Nat.zero_add]) (fun j hj kd i => by unfold xFnd; rw [if_pos hn1, hxL, Nat.zero_mul, Nat.zero_add]) (fun j hj => rfl)) qv_E_48 (by decide) rfl ⟨_, _, rfl⟩ rfl rfl (Nat.le_of_ble_eq_true rfl) ⟨rfl, rfl, by decide, by decide⟩ (fun v sg2 hv => ?_)
      have hDn : dRng (fun _ => false) (0 * 64) 64 = fun j => decide (j < xN q) := by
        funext j
        unfold dRng
        rw [hxN]
        simp
      rw [hDn] at hv
      obtain ⟨hv, hfr2⟩ := hv
      have hf2 : ∀ o, o = 0 ∨ (2 ≤ o ∧ o < 6) ∨ 39 < o → sg2 o = sg o := fun o ho => by rw [hfr2 o (by omega)]; exact hfo hfr o ho
      rcases hv with ⟨rfl, rows', hP, hT⟩ | ⟨rfl, big, b1, b2, b3⟩
      · refine en_if_eq g qd_E_surveySingles_24 (tgt := 31) (by decide) (by omega) (fun hz2 => ?_) (fun hz2 => ?_)
        · exact absurd hz2 (by decide)
        · refine ew_iconst g qd_E_surveySingles_27 ic_1 ?_
          refine ew_goto g qd_E_surveySingles_28 (tgt := 32) (by decide) ?_
          refine ew_zret g qd_E_surveySingles_32 hp (by first | exact bI_nar _ | decide +kernel) ?_
          refine ⟨Or.inl ⟨rfl, _, kb, rows', hP, hT, yW_fr hkb (fun o h1 h2 => hfr2 o (by omega)), fun z => by omega, ?_⟩, hf2⟩
          rw [hfr2 9 (by omega), hfr 9 (by decide) (by decide) (by decide) (by decide) (by decide), sup_s, pk_us, hn1]
      · refine en_if_eq g qd_E_surveySingles_24 (tgt := 31) (by decide) (by omega) (fun hz2 => ?_) (fun hz2 => ?_)
        · refine hno sg2 (svBad_of (xKey q) id (fun m => rfl) b1 b2 (fun x hx => ?_)) hf2
          obtain ⟨j, j1, j2, j3⟩ := b3 x hx
          exact ⟨j, of_decide_eq_true j2, j3⟩
        · exact absurd rfl hz2
  · refine en_if_eq g qd_E_surveySingles_16 (tgt := 31) (by decide) (by omega) (fun hz => ?_) (fun hz => ?_)
    · refine hno sg1 (svBad_of (fun m => tK (xL q m)) (fun z => z.2) (fun m => rfl) b1 b2 (fun x hx => ?_)) (hfo hfr)
      rcases b3 x hx with z | ⟨m, m1, m2⟩
      · cases z
      · exact ⟨m, by rw [hxN]; exact m1, by rw [hxL, ← hmod m m1]; exact m2.symm⟩
    · exact absurd rfl hz
