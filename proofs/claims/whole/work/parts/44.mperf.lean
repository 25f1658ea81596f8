theorem pTx_dead (cd : CDE) (lim num : Nat) (c : Nat → Nat) : pTx cd lim num c true = pBeg 0 c 4 := by
  have e : pRun cd (num / 4) (num % 4) 41 (pBeg 0 c 4) = pBeg 0 c 4 := pRun_stop (by show (4 : Nat) ≠ 5; decide) 41
  have e2 : pTx cd lim num c true = (if pHo (pRun cd (num / 4) (num % 4) 41 (pBeg 0 c 4)) = 1 ∨ pHo (pRun cd (num / 4) (num % 4) 41 (pBeg 0 c 4)) = 2 then pCel (pRun cd (num / 4) (num % 4) 41 (pBeg 0 c 4)) c else pRun cd (num / 4) (num % 4) 41 (pBeg 0 c 4)) := rfl
  rw [e2, e, if_neg (by show ¬ ((4 : Nat) = 1 ∨ (4 : Nat) = 2); decide)]
theorem pRun_wa {cd : CDE} {inp cal : Nat} (hcd : cd.1 ≤ 32) : ∀ (n : Nat) (s : PM), pHo s ≤ 5 → (∀ x, x ∈ pWa s → x < 32) → ∀ x, x ∈ pWa (pRun cd inp cal n s) → x < 32 := by
  intro n
  induction n with
  | zero => intro s _ h; exact h
  | succ n ih =>
    intro s h5 h
    unfold pRun
    split
    · exact h
    · split
      · exact h
      · rename_i hat
        obtain ⟨hwa, hho⟩ := pPer_wa (cd := cd) (inp := inp) (cal := cal) (s := pWay s (pWa s ++ [pAt s])) (o := cd.2.1 (pAt s)) (a := cd.2.2 (pAt s)) h5
        refine ih _ hho (fun x hx => ?_)
        have hx : x ∈ pWa (pPer cd inp cal (pWay s (pWa s ++ [pAt s])) (cd.2.1 (pAt s)) (cd.2.2 (pAt s))) := hx
        rw [hwa] at hx
        rcases List.mem_append.mp hx with z | z
        · exact h x z
        · rw [List.mem_singleton.mp z]; omega
theorem pTx_wa {cd : CDE} {lim num : Nat} {c : Nat → Nat} {dead : Bool} (hcd : cd.1 ≤ 32) : ∀ x, x ∈ pWa (pTx cd lim num c dead) → x < 32 := by
  have h := pRun_wa (inp := num / 4) (cal := num % 4) hcd 41 (pBeg (if dead = true then 0 else lim) c (if dead = true then 4 else 5)) (by show (if dead = true then 4 else 5) ≤ 5; split <;> decide) (fun x hx => by cases hx)
  have e : pTx cd lim num c dead = (if pHo (pRun cd (num / 4) (num % 4) 41 (pBeg (if dead = true then 0 else lim) c (if dead = true then 4 else 5))) = 1 ∨ pHo (pRun cd (num / 4) (num % 4) 41 (pBeg (if dead = true then 0 else lim) c (if dead = true then 4 else 5))) = 2 then pCel (pRun cd (num / 4) (num % 4) 41 (pBeg (if dead = true then 0 else lim) c (if dead = true then 4 else 5))) c else pRun cd (num / 4) (num % 4) 41 (pBeg (if dead = true then 0 else lim) c (if dead = true then 4 else 5))) := rfl
  rw [e]
  generalize pRun cd (num / 4) (num % 4) 41 (pBeg (if dead = true then 0 else lim) c (if dead = true then 4 else 5)) = S at h ⊢
  split
  · exact h
  · exact h
/-- the keys of the two transactions as the reference holds them -/
def rK (q : XP) (m t : Nat) : List Nat × Nat := if q.2.2.2 = 1 then (if t = 0 then (xKey q m).2 else ([], 4)) else (if t = 0 then (xKey q m).1 else (xKey q m).2)
theorem rK_eq {q : XP} (m m' : Nat) : (∀ t, t < 2 → rK q m t = rK q m' t) ↔ xKey q m = xKey q m' := by
  constructor
  · intro h
    have h0 := h 0 (by decide)
    have h1 := h 1 (by decide)
    unfold rK at h0 h1
    by_cases hn : q.2.2.2 = 1
    · rw [if_pos hn, if_pos hn, if_pos rfl, if_pos rfl] at h0
      refine Prod.ext ?_ h0
      unfold xKey
      rw [if_pos hn]
      simp only [if_pos hn]
    · rw [if_neg hn, if_neg hn, if_pos rfl, if_pos rfl] at h0
      rw [if_neg hn, if_neg hn, if_neg (by decide), if_neg (by decide)] at h1
      exact Prod.ext h0 h1
  · intro h t _
    unfold rK
    rw [h]
theorem rK_ok {q : XP} (hq : qOK q) (m t : Nat) : (rK q m t).2 ≤ 5 ∧ ∀ x, x ∈ (rK q m t).1 → x < 32 := by
  have h32 := hq.1.1
  have hF : ∀ a, (tK (xF q a)).2 ≤ 5 ∧ ∀ x, x ∈ (tK (xF q a)).1 → x < 32 := fun a => ⟨(xF_ok hq a).2.2, pTx_wa h32⟩
  have hL : (tK (xL q m)).2 ≤ 5 ∧ ∀ x, x ∈ (tK (xL q m)).1 → x < 32 := by
    refine ⟨(xL_ok hq m).2, ?_⟩
    show ∀ x, x ∈ pWa (xL q m) → x < 32
    unfold xL
    split
    · exact (hF m).2
    · exact pTx_wa h32
  unfold rK
  by_cases hn : q.2.2.2 = 1
  · rw [if_pos hn]
    by_cases ht : t = 0
    · rw [if_pos ht]; exact hL
    · rw [if_neg ht]; exact ⟨by decide, fun x hx => by cases hx⟩
  · rw [if_neg hn]
    by_cases ht : t = 0
    · rw [if_pos ht]
      unfold xKey
      simp only [if_neg hn]
      exact hF _
    · rw [if_neg ht]; exact hL
/-- what a performance leaves alone -/
def mFp (sg sg' : SG) : Prop := (∀ o, o ≠ 41 → (o < 44 ∨ 50 < o) → sg' o = sg o) ∧ ∀ i, i < 8 ∨ 14 < i → sg' 41 i = sg 41 i
theorem mFp.rf (sg : SG) : mFp sg sg := ⟨fun _ _ _ => rfl, fun _ _ => rfl⟩
theorem mFp.tr {a b c : SG} (h : mFp a b) (h' : mFp b c) : mFp a c := ⟨fun o h1 h2 => (h'.1 o h1 h2).trans (h.1 o h1 h2), fun i h1 => (h'.2 i h1).trans (h.2 i h1)⟩
theorem mFt.p {a b : SG} {t : Nat} (h : mFt a b t) : mFp a b := ⟨fun o h1 h2 => h.1 o h1 (by omega) (by omega) (by omega) (by omega) (by omega) (by omega) (by omega), fun i h1 => h.2.1 i (by omega) (by omega) (by omega) (by omega) (by omega) (by omega) (by omega)⟩
theorem mFp_a {sg : SG} {o i : Nat} {x : Int32} (h : 44 ≤ o) (h' : o ≤ 50) : mFp sg (sup sg o i x) := ⟨fun q _ h2 => sup_n (by omega), fun j _ => by rw [sup_n (by omega)]⟩
theorem mFp_f {sg : SG} {i : Nat} {x : Int32} (h : 8 ≤ i) (h' : i ≤ 14) : mFp sg (sup sg 41 i x) := ⟨fun q h1 _ => sup_n h1, fun j _ => by rw [sup_s, pk_un (by omega)]⟩
def mPf (sg : SG) (q : XP) (m : Nat) : Prop := (∀ i, i < 5 → sg 44 i = nI (xCel q m i)) ∧ sg 41 9 = nI (pGa (xL q m)) ∧ sg 41 8 = nI (pDe (xL q m)) ∧ (∀ kd, kd < 5 → ∀ i, i < 32 → bt (sg 50 kd) i = xFnd q m kd i) ∧ ∀ t, t < 2 → mW sg t (rK q m t).1 ∧ sg 49 t = nI (rK q m t).2
theorem k_M_perform (w : WC) (l : Launch) (sg : SG) {q : XP} {m : Nat} (hq : qOK q) (hcd : mCode sg q.1) (h3 : sg 41 3 = nI q.2.1) (h4 : sg 41 4 = nI q.2.2.1) (hm : m < xN q) : ew_M qS w l qy_M_perform qw_M_perform qr_M_perform [.inr 41, .inl (nI q.2.2.2), .inl (nI m)] sg (fun v sg' => v = none ∧ mPf sg' q m ∧ mFp sg sg') := by
  have hm4 := Nat.lt_of_lt_of_le hm (xN_le q)
  have hc0 := xc0_16 hq.2.1
  have hz0 := xc0_z q.2.1
  have hnn := hq.2.2.2
  refine ew_entry (ws' := qwg) (own := qR_M) (cc := qc_M_perform) (nL := 4) (ret := none) qnk (by decide) rfl rfl (Nat.le_of_ble_eq_true rfl) ?_
  intro k g hp
  -- behind the loops
  have hmain : ∀ (x3 : Option MV) (sg1 : SG), (∀ i, i < 5 → sg1 44 i = nI (xc0 q.2.1 i)) → (∀ kd, kd < 5 → sg1 50 kd = nI 0) → mFp sg sg1 → ew_E qS w 4 k 50 [some (.inr 41), some (.inl (nI q.2.2.2)), some (.inl (nI m)), x3] [] sg1 := by
    intro x3 sg1 hcel hfo hfr
    generalize hs2 : sup (sup sg1 48 1 (nI 0)) 49 1 (nI 4) = sg2
    have hfr2 : mFp sg sg2 := by rw [← hs2]; exact (hfr.tr (mFp_a (by decide) (by decide))).tr (mFp_a (by decide) (by decide))
    have h44 : ∀ i, i < 5 → sg2 44 i = nI (xc0 q.2.1 i) := fun i hi => by rw [← hs2, sup_n (by decide), sup_n (by decide)]; exact hcel i hi
    have h50 : ∀ kd, kd < 5 → ∀ i, i < 32 → bt (sg2 50 kd) i = (fun _ _ => false) kd i := fun kd hk i hi => by rw [← hs2, sup_n (by decide), sup_n (by decide), hfo kd hk, b_zero]
    have h48 : sg2 48 1 = nI 0 := by rw [← hs2, sup_n (by decide), sup_s, pk_us]
    have h49 : sg2 49 1 = nI 4 := by rw [← hs2, sup_s, pk_us]
    have hcd2 : mCode sg2 q.1 := by
      unfold mCode at hcd ⊢
      rw [hfr2.2 0 (by omega), hfr2.1 42 (by decide) (by omega), hfr2.1 43 (by decide) (by omega)]
      exact hcd
    have hl2 : sg2 41 4 = nI q.2.2.1 := by rw [hfr2.2 4 (by omega)]; exact h4
    -- the first transaction is done
    have hafter : ∀ (a : Nat) (sg3 : SG), a < 64 → (q.2.2.2 = 1 → a = m) → (q.2.2.2 = 2 → a = m / 64) → mV sg3 (xF q a) (fun _ _ => false) → mW sg3 0 (pWa (xF q a)) → sg3 49 0 = nI (pHo (xF q a)) → mFt sg2 sg3 0 → ew_E qS w 4 k 82 [some (.inr 41), some (.inl (nI q.2.2.2)), some (.inl (nI m)), x3] [] sg3 := by
      intro a sg3 ha ha1 ha2 hv hw he hft
      obtain ⟨v1, v2, v3, v4⟩ := hv
      have hfo3 : ∀ kd, kd < 5 → ∀ i, i < 32 → bt (sg3 50 kd) i = pFo (xF q a) kd i := fun kd hk i hi => by rw [v4 kd hk i hi]; simp
      have hfr3 := hfr2.tr hft.p
      have h481 := (hft.2.2.2 1 (by decide)).1.trans h48
      have h491 := (hft.2.2.2 1 (by decide)).2.trans h49
      rcases hnn with hn | hn
      · have ea := ha1 hn
        subst ea
        have eL : xL q a = xF q a := by unfold xL; rw [if_pos hn]
        rw [hn]
        have hend : mPf sg3 q a ∧ mFp sg sg3 := by
          refine ⟨⟨fun i hi => by unfold xCel; rw [eL]; exact v1 i hi, by rw [eL]; exact v2, by rw [eL]; exact v3, fun kd hk i hi => by unfold xFnd; rw [if_pos hn, eL, hfo3 kd hk i hi]; simp, fun t ht => ?_⟩, hfr3⟩
          unfold rK
          rw [if_pos hn]
          by_cases e0 : t = 0
          · rw [e0, if_pos rfl]
            show mW sg3 0 (pWa (xL q a)) ∧ sg3 49 0 = nI (pHo (xL q a))
            rw [eL]
            exact ⟨hw, he⟩
          · rw [if_neg e0]
            have e1 : t = 1 := by omega
            subst e1
            exact ⟨⟨h481, by decide, fun i hi => absurd hi (Nat.not_lt_zero i)⟩, h491⟩
        refine ew_iload_n g qd_M_perform_82 rfl ?_
        refine ew_iconst g qd_M_perform_83 ic_2 ?_
        refine en_ne g qd_M_perform_84 (tgt := 109) (by decide) (by omega) (by omega) (fun hz => ?_) (fun hz => ?_)
        · refine ew_iload_n g qd_M_perform_109 rfl ?_
          refine ew_iconst g qd_M_perform_110 ic_2 ?_
          refine en_ne g qd_M_perform_111 (tgt := 124) (by decide) (by omega) (by omega) (fun hz2 => ?_) (fun hz2 => ?_)
          · refine ew_vret g qd_M_perform_124 hp ?_
            exact ⟨rfl, hend⟩
          · exact absurd hz2 (by decide)
        · exact absurd hz (by decide)
      · have ea := ha2 hn
        have hne : ¬ q.2.2.2 = 1 := by omega
        have hk0 : ∀ sg4 : SG, sg4 48 0 = sg3 48 0 → (∀ p, p < 41 → sg4 47 p = sg3 47 p) → sg4 49 0 = sg3 49 0 → mW sg4 0 (rK q m 0).1 ∧ sg4 49 0 = nI (rK q m 0).2 := fun sg4 z1 z2 z3 => by
          have er : rK q m 0 = tK (xF q a) := by unfold rK; rw [if_neg hne, if_pos rfl]; unfold xKey; simp only [if_neg hne]; rw [ea]
          rw [er]
          refine ⟨⟨by rw [z1]; exact hw.1, hw.2.1, fun i hi => ?_⟩, by rw [z3]; exact he⟩
          rw [z2 _ (by have := hw.2.1; have hi : i < (pWa (xF q a)).length := hi; omega)]
          exact hw.2.2 i hi
        have hxok := xF_ok hq a
        rw [hn]
        refine ew_iload_n g qd_M_perform_82 rfl ?_
        refine ew_iconst g qd_M_perform_83 ic_2 ?_
        refine en_ne g qd_M_perform_84 (tgt := 109) (by decide) (by omega) (by omega) (fun hz => ?_) (fun hz => ?_)
        · exact absurd rfl hz
        · refine ew_aload_n g qd_M_perform_87 rfl ?_
          refine ew_getR g qd_M_perform_88 qf_M_35 (by decide) rfl rfl ?_
          refine ew_iconst g qd_M_perform_91 ic_0 ?_
          refine en_iald g qd_M_perform_92 (by decide) rfl (by omega) (by omega) he ?_
          refine ew_iconst g qd_M_perform_93 ic_3 ?_
          refine en_eq g qd_M_perform_94 (tgt := 109) (by decide) (by have := hxok.2.2; omega) (by decide) (fun h3e => ?_) (fun h3e => ?_)
          · -- nothing is done
            have eL : xL q m = pBeg 0 (pCe (xF q a)) 4 := by
              unfold xL
              rw [if_neg hne, ← ea, decide_eq_true h3e, pTx_dead]
            refine ew_iload_n g qd_M_perform_109 rfl ?_
            refine ew_iconst g qd_M_perform_110 ic_2 ?_
            refine en_ne g qd_M_perform_111 (tgt := 124) (by decide) (by omega) (by omega) (fun hz2 => ?_) (fun hz2 => ?_)
            · exact absurd rfl hz2
            · refine ew_aload_n g qd_M_perform_114 rfl ?_
              refine ew_iconst g qd_M_perform_115 ic_0 ?_
              refine ew_put g qd_M_perform_116 qf_M_81 (qp_M_gas _) (by decide) rfl rfl ?_
              refine ew_aload_n g qd_M_perform_119 rfl ?_
              refine ew_iconst g qd_M_perform_120 ic_0 ?_
              refine ew_put g qd_M_perform_121 qf_M_88 (qp_M_depth _) (by decide) rfl rfl ?_
              refine ew_vret g qd_M_perform_124 hp ?_
              refine ⟨rfl, ⟨fun i hi => ?_, ?_, ?_, fun kd hk i hi => ?_, fun t ht => ?_⟩, (hfr3.tr (mFp_f (by decide) (by decide))).tr (mFp_f (by decide) (by decide))⟩
              · unfold xCel
                rw [eL, sup_n (by decide), sup_n (by decide)]
                exact v1 i hi
              · rw [eL, sup_s, pk_un (by decide), sup_s, pk_us]; rfl
              · rw [eL, sup_s, pk_us]; rfl
              · unfold xFnd
                rw [if_neg hne, ← ea, eL, sup_n (by decide), sup_n (by decide), hfo3 kd hk i hi]
                show _ = (_ || false)
                simp
              · by_cases e0 : t = 0
                · subst e0
                  exact hk0 _ (by rw [sup_n (by decide), sup_n (by decide)]) (fun p _ => by rw [sup_n (by decide), sup_n (by decide)]) (by rw [sup_n (by decide), sup_n (by decide)])
                · have e1 : t = 1 := by omega
                  subst e1
                  have er : rK q m 1 = ([], 4) := by
                    unfold rK
                    rw [if_neg hne, if_neg (by decide)]
                    show tK (xL q m) = _
                    rw [eL]
                    rfl
                  rw [er]
                  exact ⟨⟨by rw [sup_n (by decide), sup_n (by decide)]; exact h481, by decide, fun i hi => absurd hi (Nat.not_lt_zero i)⟩, by rw [sup_n (by decide), sup_n (by decide)]; exact h491⟩
          · have eL : xL q m = pTx q.1 q.2.2.1 (m % 64) (pCe (xF q a)) false := by
              unfold xL
              rw [if_neg hne, ← ea, decide_eq_false h3e]
            refine ew_aload_n g qd_M_perform_97 rfl ?_
            refine ew_iconst g qd_M_perform_98 ic_1 ?_
            refine ew_iload_n g qd_M_perform_99 rfl ?_
            refine ew_bipush g qd_M_perform_100 bp_64 ?_
            refine ew_irem g qd_M_perform_102 (by decide +kernel) ?_
            refine en_top (pk_rem (by omega) (by decide) (by decide)) ?_
            refine ew_callV g qd_M_perform_103 (k_M_transact w k.2.1 sg3 (num := m % 64) (t := 1) (f0 := pFo (xF q a)) (hft.code hcd2) (Nat.mod_lt _ (by decide)) hq.2.2.1 hxok.1 v1 (by rw [hft.2.1 4 (by decide) (by decide) (by decide) (by decide) (by decide) (by decide) (by decide)]; exact hl2) (by decide) hfo3 hxok.2.1) qv_M_141 (by decide) rfl ⟨_, _, rfl⟩ rfl rfl (Nat.le_of_ble_eq_true rfl) ⟨rfl, rfl, by decide, by decide⟩ (fun v sg4 hv => ?_)
            rw [← eL] at hv
            obtain ⟨rfl, ⟨u1, u2, u3, u4⟩, hw4, he4, hft4⟩ := hv
            refine ew_goto g qd_M_perform_106 (tgt := 124) (by decide) ?_
            refine ew_vret g qd_M_perform_124 hp ?_
            refine ⟨rfl, ⟨u1, u2, u3, fun kd hk i hi => ?_, fun t ht => ?_⟩, hfr3.tr hft4.p⟩
            · unfold xFnd
              rw [if_neg hne, ← ea]
              exact u4 kd hk i hi
            · by_cases e0 : t = 0
              · subst e0
                exact hk0 sg4 (hft4.2.2.2 0 (by decide)).1 (fun p hp => hft4.2.2.1 p (by omega)) (hft4.2.2.2 0 (by decide)).2
              · have e1 : t = 1 := by omega
                subst e1
                have er : rK q m 1 = tK (xL q m) := by
                  unfold rK
                  rw [if_neg hne, if_neg (by decide)]
                  rfl
                rw [er]
                exact ⟨hw4, he4⟩
    have hxf : ∀ a, a < 64 → pTx q.1 q.2.2.1 a (xc0 q.2.1) false = xF q a := fun a ha => by unfold xF; rw [Nat.mod_eq_of_lt ha]
    rcases hnn with hn | hn
    · have hm64 : m < 64 := by
        have : xN q = 64 := by unfold xN; rw [if_pos hn]
        omega
      rw [hn] at hafter ⊢
      refine ew_aload_n g qd_M_perform_50 rfl ?_
      refine ew_getR g qd_M_perform_51 qf_M_32 (by decide) rfl rfl ?_
      refine ew_iconst g qd_M_perform_54 ic_1 ?_
      refine ew_iconst g qd_M_perform_55 ic_0 ?_
      refine en_iast g qd_M_perform_56 (by decide) rfl (by omega) (by omega) ?_
      refine ew_aload_n g qd_M_perform_57 rfl ?_
      refine ew_getR g qd_M_perform_58 qf_M_35 (by decide) rfl rfl ?_
      refine ew_iconst g qd_M_perform_61 ic_1 ?_
      refine ew_iconst g qd_M_perform_62 ic_4 ?_
      refine en_iast g qd_M_perform_63 (by decide) rfl (by omega) (by omega) ?_
      refine ew_aload_n g qd_M_perform_64 rfl ?_
      refine ew_iconst g qd_M_perform_65 ic_0 ?_
      refine ew_iload_n g qd_M_perform_66 rfl ?_
      refine ew_iconst g qd_M_perform_67 ic_1 ?_
      refine en_ne g qd_M_perform_68 (tgt := 75) (by decide) (by omega) (by omega) (fun hz => ?_) (fun hz => ?_)
      · exact absurd rfl hz
      · refine ew_iload_n g qd_M_perform_71 rfl ?_
        refine ew_goto g qd_M_perform_72 (tgt := 79) (by decide) ?_
        rw [hs2]
        refine ew_callV g qd_M_perform_79 (k_M_transact w k.2.1 sg2 (num := m) (t := 0) (f0 := fun _ _ => false) hcd2 hm64 hq.2.2.1 hc0 h44 hl2 (by decide) h50 hz0) qv_M_141 (by decide) rfl ⟨_, _, rfl⟩ rfl rfl (Nat.le_of_ble_eq_true rfl) ⟨rfl, rfl, by decide, by decide⟩ (fun v sg3 hv => ?_)
        rw [hxf m hm64] at hv
        obtain ⟨rfl, hv, hw, he, hft⟩ := hv
        exact hafter m sg3 hm64 (fun _ => rfl) (fun z => absurd z (by decide)) hv hw he hft
    · rw [hn] at hafter ⊢
      refine ew_aload_n g qd_M_perform_50 rfl ?_
      refine ew_getR g qd_M_perform_51 qf_M_32 (by decide) rfl rfl ?_
      refine ew_iconst g qd_M_perform_54 ic_1 ?_
      refine ew_iconst g qd_M_perform_55 ic_0 ?_
      refine en_iast g qd_M_perform_56 (by decide) rfl (by omega) (by omega) ?_
      refine ew_aload_n g qd_M_perform_57 rfl ?_
      refine ew_getR g qd_M_perform_58 qf_M_35 (by decide) rfl rfl ?_
      refine ew_iconst g qd_M_perform_61 ic_1 ?_
      refine ew_iconst g qd_M_perform_62 ic_4 ?_
      refine en_iast g qd_M_perform_63 (by decide) rfl (by omega) (by omega) ?_
      refine ew_aload_n g qd_M_perform_64 rfl ?_
      refine ew_iconst g qd_M_perform_65 ic_0 ?_
      refine ew_iload_n g qd_M_perform_66 rfl ?_
      refine ew_iconst g qd_M_perform_67 ic_1 ?_
      refine en_ne g qd_M_perform_68 (tgt := 75) (by decide) (by omega) (by omega) (fun hz => ?_) (fun hz => ?_)
      · refine ew_iload_n g qd_M_perform_75 rfl ?_
        refine ew_bipush g qd_M_perform_76 bp_64 ?_
        refine ew_idiv g qd_M_perform_78 (by decide +kernel) ?_
        refine en_top (pk_div (by omega) (by decide) (by decide)) ?_
        rw [hs2]
        refine ew_callV g qd_M_perform_79 (k_M_transact w k.2.1 sg2 (num := m / 64) (t := 0) (f0 := fun _ _ => false) hcd2 (by omega) hq.2.2.1 hc0 h44 hl2 (by decide) h50 hz0) qv_M_141 (by decide) rfl ⟨_, _, rfl⟩ rfl rfl (Nat.le_of_ble_eq_true rfl) ⟨rfl, rfl, by decide, by decide⟩ (fun v sg3 hv => ?_)
        rw [hxf (m / 64) (by omega)] at hv
        obtain ⟨rfl, hv, hw, he, hft⟩ := hv
        exact hafter (m / 64) sg3 (by omega) (fun z => absurd z (by decide)) (fun _ => rfl) hv hw he hft
      · exact absurd hz (by decide)
  have hfl : ∀ (d i : Nat) (sg1 : SG), i + d = 5 → (∀ i, i < 5 → sg1 44 i = nI (xc0 q.2.1 i)) → (∀ kd, kd < i → sg1 50 kd = nI 0) → mFp sg sg1 → ew_E qS w 4 k 32 [some (.inr 41), some (.inl (nI q.2.2.2)), some (.inl (nI m)), some (.inl (nI i))] [] sg1 := by
    intro d
    induction d with
    | zero =>
      intro i sg1 hi hcel hfo hfr
      refine ew_iload_n g qd_M_perform_32 rfl ?_
      refine ew_iconst g qd_M_perform_33 ic_5 ?_
      refine en_ge g qd_M_perform_34 (tgt := 50) (by decide) (by omega) (by omega) (fun hz => ?_) (fun hz => ?_)
      · exact hmain _ sg1 hcel (fun kd hk => hfo kd (by omega)) hfr
      · omega
    | succ d ih =>
      intro i sg1 hi hcel hfo hfr
      refine ew_iload_n g qd_M_perform_32 rfl ?_
      refine ew_iconst g qd_M_perform_33 ic_5 ?_
      refine en_ge g qd_M_perform_34 (tgt := 50) (by decide) (by omega) (by omega) (fun hz => ?_) (fun hz => ?_)
      · omega
      · refine ew_aload_n g qd_M_perform_37 rfl ?_
        refine ew_getR g qd_M_perform_38 qf_M_38 (by decide) rfl rfl ?_
        refine ew_iload_n g qd_M_perform_41 rfl ?_
        refine ew_iconst g qd_M_perform_42 ic_0 ?_
        refine en_iast g qd_M_perform_43 (by decide) rfl (by omega) (by omega) ?_
        refine ew_iinc g qd_M_perform_44 (by decide) rfl (ii_1 _) ?_
        refine ew_goto g qd_M_perform_47 (tgt := 32) (by decide) ?_
        refine ih (i + 1) _ (by omega) (fun j hj => by rw [sup_n (by decide)]; exact hcel j hj) (fun kd hk => ?_) (hfr.tr (mFp_a (by decide) (by decide)))
        rw [sup_s]
        by_cases e : kd = i
        · rw [e, pk_us]
        · rw [pk_un e]; exact hfo kd (by omega)
  have hcl : ∀ (d i : Nat) (sg1 : SG), i + d = 4 → (∀ j, j < i → sg1 44 j = nI 0) → mFp sg sg1 → ew_E qS w 4 k 2 [some (.inr 41), some (.inl (nI q.2.2.2)), some (.inl (nI m)), some (.inl (nI i))] [] sg1 := by
    intro d
    induction d with
    | zero =>
      intro i sg1 hi hcel hfr
      refine ew_iload_n g qd_M_perform_2 rfl ?_
      refine ew_iconst g qd_M_perform_3 ic_4 ?_
      refine en_ge g qd_M_perform_4 (tgt := 20) (by decide) (by omega) (by omega) (fun hz => ?_) (fun hz => ?_)
      · refine ew_aload_n g qd_M_perform_20 rfl ?_
        refine ew_getR g qd_M_perform_21 qf_M_20 (by decide) rfl rfl ?_
        refine ew_iconst g qd_M_perform_24 ic_4 ?_
        refine ew_aload_n g qd_M_perform_25 rfl ?_
        refine ew_get g qd_M_perform_26 qf_M_75 (by decide) rfl rfl ?_
        refine en_top (show sg1 41 3 = nI q.2.1 by rw [hfr.2 3 (by omega)]; exact h3) ?_
        refine en_iast g qd_M_perform_29 (by decide) rfl (by omega) (by omega) ?_
        refine ew_iconst g qd_M_perform_30 ic_0 ?_
        refine ew_istore_n g qd_M_perform_31 (by decide) ?_
        refine hfl 5 0 _ rfl (fun j hj => ?_) (fun kd hk => absurd hk (Nat.not_lt_zero kd)) (hfr.tr (mFp_a (by decide) (by decide)))
        rw [sup_s]
        unfold xc0
        by_cases e : j = 4
        · rw [e, pk_us]; rfl
        · rw [pk_un e, if_neg e]; exact hcel j (by omega)
      · omega
    | succ d ih =>
      intro i sg1 hi hcel hfr
      refine ew_iload_n g qd_M_perform_2 rfl ?_
      refine ew_iconst g qd_M_perform_3 ic_4 ?_
      refine en_ge g qd_M_perform_4 (tgt := 20) (by decide) (by omega) (by omega) (fun hz => ?_) (fun hz => ?_)
      · omega
      · refine ew_aload_n g qd_M_perform_7 rfl ?_
        refine ew_getR g qd_M_perform_8 qf_M_20 (by decide) rfl rfl ?_
        refine ew_iload_n g qd_M_perform_11 rfl ?_
        refine ew_iconst g qd_M_perform_12 ic_0 ?_
        refine en_iast g qd_M_perform_13 (by decide) rfl (by omega) (by omega) ?_
        refine ew_iinc g qd_M_perform_14 (by decide) rfl (ii_1 _) ?_
        refine ew_goto g qd_M_perform_17 (tgt := 2) (by decide) ?_
        refine ih (i + 1) _ (by omega) (fun j hj => ?_) (hfr.tr (mFp_a (by decide) (by decide)))
        rw [sup_s]
        by_cases e : j = i
        · rw [e, pk_us]
        · rw [pk_un e]; exact hcel j (by omega)
  refine ew_iconst g qd_M_perform_0 ic_0 ?_
  refine ew_istore_n g qd_M_perform_1 (by decide) ?_
  exact hcl 4 0 sg rfl (fun j hj => absurd hj (Nat.not_lt_zero j)) (mFp.rf sg)
