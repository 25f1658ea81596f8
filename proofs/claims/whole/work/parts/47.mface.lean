/-! the reference's face, over the abstract machine -/
theorem ew_M_imp {S : SD} {w : WC} {l : Launch} {y : MethodName} {ws : List Cond} {rm : Room} {args : List MV} {sg : SG} {P P' : Option MV → SG → Prop} (h : ew_M S w l y ws rm args sg P) (hp : ∀ v sg', P v sg' → P' v sg') : ew_M S w l y ws rm args sg P' := by
  intro sz p e ha hc hk s m as below hf happ hP hK
  obtain ⟨n, o, h1, h2, h3, ⟨⟨v, sg', q1, q2, q3⟩, q4⟩, h5⟩ := h sz p e ha hc hk s m as below hf happ hP hK
  exact ⟨n, o, h1, h2, h3, ⟨⟨v, sg', q1, hp _ _ q2, q3⟩, q4⟩, h5⟩
def mEx (sg : SG) (e : Option XP) : Prop := match e with
  | none => sg 41 19 = nI 0 ∧ sg 41 20 = nI 0
  | some q => qOK q ∧ mE sg q (xN q) ∧ sg 41 20 = nI q.2.2.2
def mRp (sg : SG) (rp : Option (Nat → Nat)) : Prop := match rp with
  | none => sg 41 30 = bI false
  | some f => sg 41 30 = bI true ∧ ∀ i, i < 7 → sg 60 i = nI (f i)
/-- the reference stands for the abstract machine -/
def mS (sg : SG) (a : AS) : Prop := mCode sg a.1 ∧ (sg 41 3 = nI a.2.1 ∧ a.2.1 < 16) ∧ (sg 41 4 = nI a.2.2.1 ∧ 1 ≤ a.2.2.1 ∧ a.2.2.1 ≤ 40) ∧ mEx sg a.2.2.2.1 ∧ mRp sg a.2.2.2.2
def mFo (sg sg' : SG) : Prop := ∀ o, o < 41 ∨ 60 < o → sg' o = sg o
theorem mEx_fr {sg sg' : SG} {e : Option XP} (h : mEx sg e) (hf : ∀ o, 51 ≤ o → o ≤ 59 → sg' o = sg o) (h19 : sg' 41 19 = sg 41 19) (h20 : sg' 41 20 = sg 41 20) : mEx sg' e := by
  cases e with
  | none => exact ⟨h19.trans h.1, h20.trans h.2⟩
  | some q => exact ⟨h.1, mE_fr h.2.1 hf h19, h20.trans h.2.2⟩
theorem mRp_fr {sg sg' : SG} {e : Option (Nat → Nat)} (h : mRp sg e) (h30 : sg' 41 30 = sg 41 30) (h60 : sg' 60 = sg 60) : mRp sg' e := by
  cases e with
  | none => exact h30.trans h
  | some q => exact ⟨h30.trans h.1, fun i hi => by rw [h60]; exact h.2 i hi⟩
theorem mEx_n {sg : SG} {e : Option XP} (h : mEx sg e) : sg 41 19 = nI (eN e) ∧ eN e ≤ 40 := by
  cases e with
  | none => exact ⟨h.1, by decide⟩
  | some q => exact ⟨h.2.1.1, h.2.1.2.1⟩
theorem mPath_s {e : Option XP} {x : Int32} {p : Nat} {sg : SG} (he : mEx sg e) (h : inR x (eN e) = some p) : ∃ q, e = some q ∧ (qOK q ∧ mE1 sg q (xN q) p ∧ sg 41 20 = nI q.2.2.2) ∧ p < 40 ∧ x = nI p ∧ ∀ f, aPath e x f = f q (xwit q p) := by
  have hn := (mEx_n he).2
  obtain ⟨h1, h2⟩ := inR_s (by omega) h
  cases e with
  | none => exact absurd h1 (Nat.not_lt_zero _)
  | some q =>
    refine ⟨q, rfl, ⟨he.1, he.2.1.2.2.1 p h1, he.2.2⟩, Nat.lt_of_lt_of_le h1 hn, h2, fun f => ?_⟩
    have h : inR x (xCount q) = some p := h
    unfold aPath
    simp only [h]
theorem rg_neg {x : Int32} {n : Nat} (hn : n < 2 ^ 31) (h : x < 0) : inR x n = none := by
  rcases inR_cases x hn with ⟨h1, -⟩ | ⟨j, h1, rfl, h3⟩
  · exact h1
  · have e0 : (0 : Int32).toInt = 0 := by decide +kernel
    rw [Int32.lt_iff_toInt_lt, e0, nI_toInt (by omega)] at h
    omega
theorem rg_ge {x : Int32} {n : Nat} (hn : n < 2 ^ 31) (h : nI n ≤ x) : inR x n = none := by
  rcases inR_cases x hn with ⟨h1, -⟩ | ⟨j, h1, rfl, h3⟩
  · exact h1
  · rw [Int32.le_iff_toInt_le, nI_toInt hn, nI_toInt (by omega)] at h
    omega
theorem rg_gt {x : Int32} {c n : Nat} (hc : c + 1 = n) (hn : n < 2 ^ 31) (h : nI c < x) : inR x n = none := by
  rcases inR_cases x hn with ⟨h1, -⟩ | ⟨j, h1, rfl, h3⟩
  · exact h1
  · rw [Int32.lt_iff_toInt_lt, nI_toInt (by omega), nI_toInt (by omega)] at h
    omega
theorem rg_in {x : Int32} {n : Nat} (hn : n < 2 ^ 31) (h0 : ¬ x < 0) (h : ¬ nI n ≤ x) : ∃ j, j < n ∧ x = nI j ∧ inR x n = some j := by
  rcases inR_cases x hn with ⟨-, h1⟩ | h1
  · have e0 : (0 : Int32).toInt = 0 := by decide +kernel
    rw [Int32.lt_iff_toInt_lt, e0] at h0
    rw [Int32.le_iff_toInt_le, nI_toInt hn] at h
    rw [Int32.lt_iff_toInt_lt, Int32.le_iff_toInt_le, e0, nI_toInt hn] at h1
    omega
  · exact h1
theorem rg_it {x : Int32} {c n : Nat} (hc : c + 1 = n) (hn : n < 2 ^ 31) (h0 : ¬ x < 0) (h : ¬ nI c < x) : ∃ j, j < n ∧ x = nI j ∧ inR x n = some j := by
  rcases inR_cases x hn with ⟨-, h1⟩ | h1
  · have e0 : (0 : Int32).toInt = 0 := by decide +kernel
    rw [Int32.lt_iff_toInt_lt, e0] at h0
    rw [Int32.lt_iff_toInt_lt, nI_toInt (by omega)] at h
    rw [Int32.lt_iff_toInt_lt, Int32.le_iff_toInt_le, e0, nI_toInt hn] at h1
    omega
  · exact h1
theorem k_M_add (w : WC) (l : Launch) (sg : SG) {a : AS} (h : mS sg a) (x y : Int32) : ew_M qS w l qy_M_add qw_M_add qr_M_add [.inr 41, .inl x, .inl y] sg (fun v sg' => v = some (.inl (aAdd a x y).1) ∧ mS sg' (aAdd a x y).2 ∧ mFo sg sg') := by
  obtain ⟨⟨hk, hc0, hci⟩, h2, h3, h4, h5⟩ := id h
  have h32 := hk.1
  refine ew_entry (ws' := qwg) (own := qR_M) (cc := qc_M_add) (nL := 3) (ret := some .int) qnk (by decide) rfl rfl (Nat.le_of_ble_eq_true rfl) ?_
  intro k g hp
  have hno : aAdd a x y = (-1, a) → ew_E qS w 3 k 29 [some (.inr 41), some (.inl x), some (.inl y)] [] sg := by
    intro e
    refine ew_iconst g qd_M_add_29 ic_m1 ?_
    refine ew_iret g qd_M_add_30 hp ?_
    rw [e]
    exact ⟨rfl, h, fun _ _ => rfl⟩
  refine ew_iload_n g qd_M_add_0 rfl ?_
  refine ew_if_lt g qd_M_add_1 (tgt := 29) (by decide) (fun x0 => ?_) (fun x0 => ?_)
  · exact hno (by unfold aAdd; rw [rg_neg (by decide) x0])
  · refine ew_iload_n g qd_M_add_4 rfl ?_
    refine ew_bipush g qd_M_add_5 bp_24 ?_
    refine ew_icmp_gt g qd_M_add_7 (tgt := 29) (by decide) (fun x1 => ?_) (fun x1 => ?_)
    · exact hno (by unfold aAdd; rw [rg_gt (n := 25) rfl (by decide) x1])
    · obtain ⟨o, o1, rfl, o3⟩ := rg_it (n := 25) rfl (by decide) x0 x1
      refine ew_iload_n g qd_M_add_10 rfl ?_
      refine ew_if_lt g qd_M_add_11 (tgt := 29) (by decide) (fun y0 => ?_) (fun y0 => ?_)
      · exact hno (by unfold aAdd; rw [o3, rg_neg (x := y) (by decide) y0])
      · refine ew_iload_n g qd_M_add_14 rfl ?_
        refine ew_bipush g qd_M_add_15 bp_15 ?_
        refine ew_icmp_gt g qd_M_add_17 (tgt := 29) (by decide) (fun y1 => ?_) (fun y1 => ?_)
        · exact hno (by unfold aAdd; rw [o3, rg_gt (n := 16) rfl (by decide) y1])
        · obtain ⟨b, b1, rfl, b3⟩ := rg_it (n := 16) rfl (by decide) y0 y1
          have e : aAdd a (nI o) (nI b) = if a.1.1 < 32 then (nI a.1.1, (cdAdd a.1 o b, a.2)) else (-1, a) := by unfold aAdd; rw [o3, b3]
          refine ew_aload_n g qd_M_add_20 rfl ?_
          refine ew_get g qd_M_add_21 qf_M_72 (by decide) rfl rfl ?_
          refine en_top hc0 ?_
          refine ew_bipush g qd_M_add_24 bp_32 ?_
          refine en_ne g qd_M_add_26 (tgt := 31) (by decide) (by omega) (by decide) (fun hne => ?_) (fun hne => ?_)
          · have hlt : a.1.1 < 32 := by omega
            refine ew_aload_n g qd_M_add_31 rfl ?_
            refine ew_getR g qd_M_add_32 qf_M_7 (by decide) rfl rfl ?_
            refine ew_aload_n g qd_M_add_35 rfl ?_
            refine ew_get g qd_M_add_36 qf_M_72 (by decide) rfl rfl ?_
            refine en_top hc0 ?_
            refine ew_iload_n g qd_M_add_39 rfl ?_
            refine en_iast g qd_M_add_40 (by decide) rfl (by omega) (by omega) ?_
            refine ew_aload_n g qd_M_add_41 rfl ?_
            refine ew_getR g qd_M_add_42 qf_M_13 (by decide) rfl rfl ?_
            refine ew_aload_n g qd_M_add_45 rfl ?_
            refine ew_get g qd_M_add_46 qf_M_72 (by decide) rfl rfl ?_
            refine en_top (show sup sg 42 a.1.1 (nI o) 41 0 = nI a.1.1 by rw [sup_n (by decide)]; exact hc0) ?_
            refine ew_iload_n g qd_M_add_49 rfl ?_
            refine en_iast g qd_M_add_50 (by decide) rfl (by omega) (by omega) ?_
            refine ew_aload_n g qd_M_add_51 rfl ?_
            refine ew_dup g qd_M_add_52 ?_
            refine ew_get g qd_M_add_53 qf_M_72 (by decide) rfl rfl ?_
            refine en_top (show sup (sup sg 42 a.1.1 (nI o)) 43 a.1.1 (nI b) 41 0 = nI a.1.1 by rw [sup_n (by decide), sup_n (by decide)]; exact hc0) ?_
            refine ew_iconst g qd_M_add_56 ic_1 ?_
            refine ew_iadd g qd_M_add_57 ?_
            refine en_top (nI_add _ _) ?_
            refine ew_put g qd_M_add_58 qf_M_72 (qp_M_size _) (by decide) rfl rfl ?_
            refine ew_aload_n g qd_M_add_61 rfl ?_
            refine ew_get g qd_M_add_62 qf_M_72 (by decide) rfl rfl ?_
            refine en_top (show sup (sup (sup sg 42 a.1.1 (nI o)) 43 a.1.1 (nI b)) 41 0 (nI (a.1.1 + 1)) 41 0 = nI (a.1.1 + 1) by rw [sup_s, pk_us]) ?_
            refine ew_iconst g qd_M_add_65 ic_1 ?_
            refine ew_isub g qd_M_add_66 ?_
            refine en_top (pk_sub (by omega)) ?_
            refine ew_iret g qd_M_add_67 hp ?_
            rw [e, if_pos hlt]
            refine ⟨rfl, ⟨⟨cdAdd_ok hk hlt o1 b1, by rw [sup_s, pk_us]; rfl, fun i hi => ?_⟩, ⟨by rw [sup_s, pk_un (by decide), sup_n (by decide), sup_n (by decide)]; exact h2.1, h2.2⟩, ⟨by rw [sup_s, pk_un (by decide), sup_n (by decide), sup_n (by decide)]; exact h3.1, h3.2⟩, mEx_fr h4 (fun o a b => by rw [sup_n (by omega), sup_n (by omega), sup_n (by omega)]) (by rw [sup_s, pk_un (by decide), sup_n (by decide), sup_n (by decide)]) (by rw [sup_s, pk_un (by decide), sup_n (by decide), sup_n (by decide)]), mRp_fr h5 (by rw [sup_s, pk_un (by decide), sup_n (by decide), sup_n (by decide)]) (by rw [sup_n (by decide), sup_n (by decide), sup_n (by decide)])⟩, fun o ho => by rw [sup_n (by omega), sup_n (by omega), sup_n (by omega)]⟩
            have hi : i < a.1.1 + 1 := hi
            rw [sup_n (by decide), sup_n (by decide), sup_s, sup_n (by decide), sup_s, sup_n (by decide)]
            show upd (sg 42) a.1.1 (nI o) i = nI (nup a.1.2.1 a.1.1 o i) ∧ upd (sg 43) a.1.1 (nI b) i = nI (nup a.1.2.2 a.1.1 b i)
            unfold upd nup
            by_cases e : i = a.1.1
            · rw [if_pos e, if_pos e, if_pos e, if_pos e]; exact ⟨rfl, rfl⟩
            · rw [if_neg e, if_neg e, if_neg e, if_neg e]; exact hci i (by omega)
          · exact hno (by rw [e, if_neg (by omega)])
theorem k_M_clear (w : WC) (l : Launch) (sg : SG) {a : AS} (h : mS sg a) : ew_M qS w l qy_M_clear qw_M_clear qr_M_clear [.inr 41] sg (fun v sg' => v = none ∧ mS sg' (aClear a) ∧ mFo sg sg') := by
  obtain ⟨hk, h2, h3, h4, h5⟩ := id h
  refine ew_entry (ws' := qwg) (own := qR_M) (cc := qc_M_clear) (nL := 1) (ret := none) qnk (by decide) rfl rfl (Nat.le_of_ble_eq_true rfl) ?_
  intro k g hp
  refine ew_aload_n g qd_M_clear_0 rfl ?_
  refine ew_iconst g qd_M_clear_1 ic_0 ?_
  refine ew_put g qd_M_clear_2 qf_M_72 (qp_M_size _) (by decide) rfl rfl ?_
  refine ew_vret g qd_M_clear_5 hp ?_
  exact ⟨rfl, ⟨⟨⟨Nat.zero_le _, fun i hi => absurd hi (Nat.not_lt_zero i)⟩, by rw [sup_s, pk_us]; rfl, fun i hi => absurd hi (Nat.not_lt_zero i)⟩, ⟨by rw [sup_s, pk_un (by decide)]; exact h2.1, h2.2⟩, ⟨by rw [sup_s, pk_un (by decide)]; exact h3.1, h3.2⟩, mEx_fr h4 (fun o a b => by rw [sup_n (by omega)]) (by rw [sup_s, pk_un (by decide)]) (by rw [sup_s, pk_un (by decide)]), mRp_fr h5 (by rw [sup_s, pk_un (by decide)]) (by rw [sup_n (by decide)])⟩, fun o ho => by rw [sup_n (by omega)]⟩
theorem k_M_start (w : WC) (l : Launch) (sg : SG) {a : AS} (h : mS sg a) (x y : Int32) : ew_M qS w l qy_M_start qw_M_start qr_M_start [.inr 41, .inl x, .inl y] sg (fun v sg' => v = some (.inl (bI (aStart a x y).1)) ∧ mS sg' (aStart a x y).2 ∧ mFo sg sg') := by
  obtain ⟨hk, h2, h3, h4, h5⟩ := id h
  refine ew_entry (ws' := qwg) (own := qR_M) (cc := qc_M_start) (nL := 3) (ret := some .boolean) qnk (by decide) rfl rfl (Nat.le_of_ble_eq_true rfl) ?_
  intro k g hp
  have hno : aStart a x y = (false, a) → ew_E qS w 3 k 21 [some (.inr 41), some (.inl x), some (.inl y)] [] sg := by
    intro e
    refine ew_iconst g qd_M_start_21 ic_0 ?_
    refine ew_zret g qd_M_start_22 hp (by first | exact bI_nar _ | decide +kernel) ?_
    rw [e]
    exact ⟨rfl, h, fun _ _ => rfl⟩
  refine ew_iload_n g qd_M_start_0 rfl ?_
  refine ew_if_lt g qd_M_start_1 (tgt := 21) (by decide) (fun x0 => ?_) (fun x0 => ?_)
  · exact hno (by unfold aStart; rw [rg_neg (by decide) x0])
  · refine ew_iload_n g qd_M_start_4 rfl ?_
    refine ew_bipush g qd_M_start_5 bp_15 ?_
    refine ew_icmp_gt g qd_M_start_7 (tgt := 21) (by decide) (fun x1 => ?_) (fun x1 => ?_)
    · exact hno (by unfold aStart; rw [rg_gt (n := 16) rfl (by decide) x1])
    · obtain ⟨b, b1, rfl, b3⟩ := rg_it (n := 16) rfl (by decide) x0 x1
      refine ew_iload_n g qd_M_start_10 rfl ?_
      refine ew_iconst g qd_M_start_11 ic_1 ?_
      cases hy : inR y 41 with
      | none =>
        have hno := hno (by unfold aStart; rw [b3, hy])
        refine ew_icmp_lt g qd_M_start_12 (tgt := 21) (by decide) (fun hl => ?_) (fun hl => ?_)
        · exact hno
        · refine ew_iload_n g qd_M_start_15 rfl ?_
          refine ew_bipush g qd_M_start_16 bp_40 ?_
          refine ew_icmp_le g qd_M_start_18 (tgt := 23) (by decide) (fun hg => ?_) (fun hg => ?_)
          · rcases lim_n hy with z | z
            · exact absurd z hl
            · exact absurd hg z
          · exact hno
      | some n =>
        obtain ⟨c1, c2⟩ := lim_c hy
        obtain ⟨n1, rfl⟩ := inR_s (by decide) hy
        have e : aStart a (nI b) (nI n) = if 1 ≤ n then (true, (a.1, b, n, a.2.2.2)) else (false, a) := by unfold aStart; rw [b3, hy]
        refine ew_icmp_lt g qd_M_start_12 (tgt := 21) (by decide) (fun hl => ?_) (fun hl => ?_)
        · exact hno (by rw [e, if_neg (by have := c1.mp hl; omega)])
        · have hn1 : 1 ≤ n := Nat.le_of_not_lt (fun z => hl (c1.mpr z))
          refine ew_iload_n g qd_M_start_15 rfl ?_
          refine ew_bipush g qd_M_start_16 bp_40 ?_
          refine ew_icmp_le g qd_M_start_18 (tgt := 23) (by decide) (fun hg => ?_) (fun hg => ?_)
          · refine ew_aload_n g qd_M_start_23 rfl ?_
            refine ew_iload_n g qd_M_start_24 rfl ?_
            refine ew_put g qd_M_start_25 qf_M_75 (qp_M_balance0 _) (by decide) rfl rfl ?_
            refine ew_aload_n g qd_M_start_28 rfl ?_
            refine ew_iload_n g qd_M_start_29 rfl ?_
            refine ew_put g qd_M_start_30 qf_M_16 (qp_M_limit _) (by decide) rfl rfl ?_
            refine ew_iconst g qd_M_start_33 ic_1 ?_
            refine ew_zret g qd_M_start_34 hp (by first | exact bI_nar _ | decide +kernel) ?_
            rw [e, if_pos hn1]
            refine ⟨rfl, ⟨⟨hk.1, by rw [sup_s, pk_un (by decide), sup_s, pk_un (by decide)]; exact hk.2.1, fun i hi => by rw [sup_n (by decide), sup_n (by decide), sup_n (by decide), sup_n (by decide)]; exact hk.2.2 i hi⟩, ⟨by rw [sup_s, pk_un (by decide), sup_s, pk_us], b1⟩, ⟨by rw [sup_s, pk_us], hn1, Nat.le_of_lt_succ n1⟩, mEx_fr h4 (fun o a b => by rw [sup_n (by omega), sup_n (by omega)]) (by rw [sup_s, pk_un (by decide), sup_s, pk_un (by decide)]) (by rw [sup_s, pk_un (by decide), sup_s, pk_un (by decide)]), mRp_fr h5 (by rw [sup_s, pk_un (by decide), sup_s, pk_un (by decide)]) (by rw [sup_n (by decide), sup_n (by decide)])⟩, fun o ho => by rw [sup_n (by omega), sup_n (by omega)]⟩
          · exact absurd c2 hg
theorem k_M_explore (w : WC) (l : Launch) (sg : SG) {a : AS} (h : mS sg a) (x : Int32) : ew_M qS w l qy_M_explore qw_M_explore qr_M_explore [.inr 41, .inl x] sg (fun v sg' => v = some (.inl (aExplore a x).1) ∧ mS sg' (aExplore a x).2 ∧ mFo sg sg') := by
  obtain ⟨hk, h2, h3, h4, h5⟩ := id h
  have hgo : ∀ n : Nat, n = 1 ∨ n = 2 → x = nI n → aExplore a x = aExp a n → ew_M qS w l qy_M_explore qw_M_explore qr_M_explore [.inr 41, .inl x] sg (fun v sg' => v = some (.inl (aExplore a x).1) ∧ mS sg' (aExplore a x).2 ∧ mFo sg sg') := by
    intro n hn hx eX
    have hq : qOK (aXp a n) := ⟨hk.1, h2.2, h3.2.2, hn⟩
    rw [eX, hx]
    refine ew_M_imp (k_M_explore_go w l sg (q := aXp a n) hq hk h2.1 h3.1) (fun v sg' hv => ?_)
    obtain ⟨hv, hfi, hfo⟩ := hv
    have hcd : mCode sg' a.1 := by
      unfold mCode at hk ⊢
      rw [hfi 0 (by omega), hfo 42 (by omega), hfo 43 (by omega)]
      exact hk
    have hF : mFo sg sg' := fun o ho => hfo o (by omega)
    have hS : ∀ e, mEx sg' e → mS sg' (a.1, a.2.1, a.2.2.1, e, a.2.2.2.2) := fun e he => ⟨hcd, ⟨(hfi 3 (by omega)).trans h2.1, h2.2⟩, ⟨(hfi 4 (by omega)).trans h3.1, h3.2⟩, he, mRp_fr h5 (hfi 30 (by omega)) (hfo 60 (by omega))⟩
    unfold aExp
    rcases hv with ⟨v1, rfl, v3, v4⟩ | ⟨v1, rfl, v3, v4⟩
    · rw [if_pos v1]
      exact ⟨rfl, hS (some (aXp a n)) ⟨hq, v3, v4⟩, hF⟩
    · rw [if_neg (by omega)]
      exact ⟨rfl, hS none ⟨v3, v4⟩, hF⟩
  by_cases hx1 : x = nI 1
  · exact hgo 1 (Or.inl rfl) hx1 (by unfold aExplore; rw [if_pos hx1])
  · by_cases hx2 : x = nI 2
    · exact hgo 2 (Or.inr rfl) hx2 (by unfold aExplore; rw [if_neg hx1, if_pos hx2])
    · refine ew_entry (ws' := qwg) (own := qR_M) (cc := qc_M_explore) (nL := 5) (ret := some .int) qnk (by decide) rfl rfl (Nat.le_of_ble_eq_true rfl) ?_
      intro k g hp
      refine ew_iload_n g qd_M_explore_0 rfl ?_
      refine ew_iconst g qd_M_explore_1 ic_1 ?_
      refine ew_icmp_eq g qd_M_explore_2 (tgt := 12) (by decide) (fun z1 => ?_) (fun z1 => ?_)
      · exact absurd z1 hx1
      · refine ew_iload_n g qd_M_explore_5 rfl ?_
        refine ew_iconst g qd_M_explore_6 ic_2 ?_
        refine ew_icmp_eq g qd_M_explore_7 (tgt := 12) (by decide) (fun z2 => ?_) (fun z2 => ?_)
        · exact absurd z2 hx2
        · refine ew_iconst g qd_M_explore_10 ic_m1 ?_
          refine ew_iret g qd_M_explore_11 hp ?_
          unfold aExplore
          rw [if_neg hx1, if_neg hx2]
          exact ⟨rfl, h, fun _ _ => rfl⟩
