def begF (sg : SG) (num st lim : Int32) : SG := sfil (sup (sup (sup (sup (sup (sup (sup (sup (sup sg 1 2 (nI 0)) 1 3 st) 1 4 lim) 1 5 (nI 0)) 1 7 (num / nI 4)) 1 8 (num - num / nI 4 * nI 4)) 1 9 (bI false)) 1 11 (nI 0)) 1 12 (nI 0)) 8 5 (nI 0)
theorem k_K_begin (w : WC) (l : Launch) (sg : SG) (num st lim : Int32) : ew_M qS w l qy_K_begin qw_K_begin qr_K_begin [.inr 1, .inl num, .inl st, .inl lim] sg (fun v sg' => v = none ∧ sg' = begF sg num st lim) := by
  refine ew_entry (ws' := qwg) (own := qR_K) (cc := qc_K_begin) (nL := 4) (ret := none) qnk (by decide) rfl rfl (Nat.le_of_ble_eq_true rfl) ?_
  intro k g hp
  refine ew_aload_n g qd_K_begin_0 rfl ?_
  refine ew_iconst g qd_K_begin_1 ic_0 ?_
  refine ew_put g qd_K_begin_2 qf_K_22 (qp_K_depth _) (by decide) rfl rfl ?_
  refine ew_aload_n g qd_K_begin_5 rfl ?_
  refine ew_iload_n g qd_K_begin_6 rfl ?_
  refine ew_put g qd_K_begin_7 qf_K_26 (qp_K_state _) (by decide) rfl rfl ?_
  refine ew_aload_n g qd_K_begin_10 rfl ?_
  refine ew_iload_n g qd_K_begin_11 rfl ?_
  refine ew_put g qd_K_begin_12 qf_K_29 (qp_K_gas _) (by decide) rfl rfl ?_
  refine ew_aload_n g qd_K_begin_15 rfl ?_
  refine ew_iconst g qd_K_begin_16 ic_0 ?_
  refine ew_put g qd_K_begin_17 qf_K_32 (qp_K_at _) (by decide) rfl rfl ?_
  refine ew_aload_n g qd_K_begin_20 rfl ?_
  refine ew_iload_n g qd_K_begin_21 rfl ?_
  refine ew_iconst g qd_K_begin_22 ic_4 ?_
  refine ew_idiv g qd_K_begin_23 (by decide +kernel) ?_
  refine ew_put g qd_K_begin_24 qf_K_38 (qp_K_input _) (by decide) rfl rfl ?_
  refine ew_aload_n g qd_K_begin_27 rfl ?_
  refine ew_iload_n g qd_K_begin_28 rfl ?_
  refine ew_iconst g qd_K_begin_29 ic_4 ?_
  refine ew_irem g qd_K_begin_30 (by decide +kernel) ?_
  refine ew_put g qd_K_begin_31 qf_K_41 (qp_K_caller _) (by decide) rfl rfl ?_
  refine ew_aload_n g qd_K_begin_34 rfl ?_
  refine ew_iconst g qd_K_begin_35 ic_0 ?_
  refine en_top bI_f.symm ?_
  refine ew_put g qd_K_begin_36 qf_K_44 (qp_K_hasSent _) (by decide) rfl rfl ?_
  refine ew_aload_n g qd_K_begin_39 rfl ?_
  refine ew_iconst g qd_K_begin_40 ic_0 ?_
  refine ew_put g qd_K_begin_41 qf_K_51 (qp_K_stepCount _) (by decide) rfl rfl ?_
  refine ew_aload_n g qd_K_begin_44 rfl ?_
  refine ew_iconst g qd_K_begin_45 ic_0 ?_
  refine ew_put g qd_K_begin_46 qf_K_54 (qp_K_shape _) (by decide) rfl rfl ?_
  refine ew_aload_n g qd_K_begin_49 rfl ?_
  refine ew_getR g qd_K_begin_50 qf_K_57 (by decide) rfl rfl ?_
  refine ew_iconst g qd_K_begin_53 ic_0 ?_
  refine ew_callS g qd_K_begin_54 (k_A_fill w k.2.1 _ (nI 0) (by decide) rfl (by decide)) qs_K_81 rfl rfl (Nat.le_of_ble_eq_true rfl) ⟨rfl, rfl, by decide, by decide⟩ (fun v sg1 hv => ?_)
  obtain ⟨rfl, rfl⟩ := hv
  refine ew_vret g qd_K_begin_57 hp ?_
  exact ⟨rfl, rfl⟩
theorem begF_1 (sg : SG) (num st lim : Int32) : begF sg num st lim 1 = upd (upd (upd (upd (upd (upd (upd (upd (upd (sg 1) 2 (nI 0)) 3 st) 4 lim) 5 (nI 0)) 7 (num / nI 4)) 8 (num - num / nI 4 * nI 4)) 9 (bI false)) 11 (nI 0)) 12 (nI 0) := by
  unfold begF
  rw [sfil_n (by decide)]
  simp only [sup_s]
theorem begF_n {sg : SG} {num st lim : Int32} {q : Nat} (h1 : q ≠ 1) (h8 : q ≠ 8) : begF sg num st lim q = sg q := by
  unfold begF
  rw [sfil_n h8]
  simp only [sup_n h1]
theorem b_zero (i : Nat) : bt (nI 0) i = false := b_0 i
/-- nothing but the machine's own cells -/
def xFm (sg sg' : SG) : Prop := ∀ o, o ≠ 1 → o ≠ 6 → o ≠ 7 → o ≠ 8 → sg' o = sg o
theorem xFm.rf (sg : SG) : xFm sg sg := fun _ _ _ _ _ => rfl
theorem xFm.tr {a b c : SG} (h : xFm a b) (h' : xFm b c) : xFm a c := fun o h1 h2 h3 h4 => (h' o h1 h2 h3 h4).trans (h o h1 h2 h3 h4)
theorem xFr.m {a b : SG} (h : xFr a b) : xFm a b := fun o h1 h2 _ h4 => h.1 o h1 h2 h4
theorem xFm.code {sg sg' : SG} {cd : CDE} (h : xFm sg sg') (hc : xCode sg cd) : xCode sg' cd := by
  unfold xCode at hc ⊢
  rw [h 2 (by decide) (by decide) (by decide) (by decide), h 3 (by decide) (by decide) (by decide) (by decide), h 4 (by decide) (by decide) (by decide) (by decide), h 5 (by decide) (by decide) (by decide) (by decide)]
  exact hc
theorem xM_beg (sg : SG) {num lim how : Nat} {c : Nat → Nat} (hn : num < 64) (hl : lim ≤ 40) (hc : c16 c) : xMach (sup (begF sg (nI num) (nI (pk5 c)) (nI lim)) 1 6 (nI how)) (pBeg lim c how) (num / 4) (num % 4) ∧ xWay (sup (begF sg (nI num) (nI (pk5 c)) (nI lim)) 1 6 (nI how)) [] ∧ xFm sg (sup (begF sg (nI num) (nI (pk5 c)) (nI lim)) 1 6 (nI how)) := by
  have e1 : sup (begF sg (nI num) (nI (pk5 c)) (nI lim)) 1 6 (nI how) 1 = upd (upd (upd (upd (upd (upd (upd (upd (upd (upd (sg 1) 2 (nI 0)) 3 (nI (pk5 c))) 4 (nI lim)) 5 (nI 0)) 7 (nI num / nI 4)) 8 (nI num - nI num / nI 4 * nI 4)) 9 (bI false)) 11 (nI 0)) 12 (nI 0)) 6 (nI how) := by rw [sup_s, begF_1]
  have e8 : ∀ k, k < 5 → sup (begF sg (nI num) (nI (pk5 c)) (nI lim)) 1 6 (nI how) 8 k = nI 0 := fun k hk => by rw [sup_n (by decide)]; unfold begF; exact sfil_at hk
  have d1 : nI num / nI 4 = nI (num / 4) := pk_div (by omega) (by decide) (by decide)
  have d2 : nI num - nI num / nI 4 * nI 4 = nI (num % 4) := pk_rem (by omega) (by decide) (by decide)
  refine ⟨?_, ?_, ?_⟩
  · unfold xMach
    rw [e1, d2, d1]
    refine ⟨⟨Nat.zero_le 6, fun i hi => absurd hi (Nat.not_lt_zero i), hc, hl, Nat.zero_le _⟩, ?_, fun i hi => absurd hi (Nat.not_lt_zero i), ?_, ?_, ?_, ?_, ?_, ⟨?_, by omega⟩, ⟨?_, by omega⟩, ?_⟩
    · simp [upd, pBeg, pDe]
    · simp [upd, pBeg, pCe]
    · simp [upd, pBeg, pGa]
    · simp [upd, pBeg, pAt]
    · simp [upd, pBeg, pSe]
    · intro kd hk i hi
      rw [e8 kd hk, b_zero]
      rfl
    · simp [upd]
    · simp [upd]
    · simp [upd, pBeg, pHo]
  · unfold xWay
    rw [e1]
    refine ⟨by decide, by simp [upd], by simp [upd, shp], fun i hi => absurd hi (Nat.not_lt_zero i)⟩
  · intro o h1 h2 h3 h4
    rw [sup_n h1, begF_n h1 h4]
theorem pSnd_wa (s : PM) (o x : Nat) : pWa (pSnd s o x) = pWa s ∧ pHo (pSnd s o x) = pHo s := by unfold pSnd; split <;> exact ⟨rfl, rfl⟩
theorem pPer_wa {cd : CDE} {inp cal : Nat} {s : PM} {o a : Nat} (h : pHo s ≤ 5) : pWa (pPer cd inp cal s o a) = pWa s ∧ pHo (pPer cd inp cal s o a) ≤ 5 := by
  unfold pPer
  split
  · exact ⟨rfl, by show (2 : Nat) ≤ 5; decide⟩
  · unfold pDo
    split
    · exact ⟨(pSnd_wa _ _ _).1, by show pHo (pSnd _ _ _) ≤ 5; rw [(pSnd_wa _ _ _).2]; exact h⟩
    · unfold pAct
      split
      · exact ⟨rfl, h⟩
      · split
        · exact ⟨rfl, h⟩
        · split
          · exact ⟨rfl, h⟩
          · split
            · split <;> exact ⟨rfl, h⟩
            · split
              · exact ⟨rfl, by show (0 : Nat) ≤ 5; decide⟩
              · split
                · exact ⟨rfl, by show (1 : Nat) ≤ 5; decide⟩
                · split
                  · exact ⟨rfl, by show (3 : Nat) ≤ 5; decide⟩
                  · exact ⟨rfl, h⟩
theorem k_K_transact (w : WC) (l : Launch) (sg : SG) {cd : CDE} {num lim : Nat} {c : Nat → Nat} {dead : Bool} (hcd : xCode sg cd) (hn : num < 64) (hl : lim ≤ 40) (hc : c16 c) : ew_M qS w l qy_K_transact qw_K_transact qr_K_transact [.inr 1, .inl (nI num), .inl (nI (pk5 c)), .inl (bI dead), .inl (nI lim)] sg (fun v sg' => v = none ∧ xMach sg' (pTx cd lim num c dead) (num / 4) (num % 4) ∧ xWay sg' (pWa (pTx cd lim num c dead)) ∧ xFm sg sg' ∧ pHo (pTx cd lim num c dead) ≤ 5) := by
  refine ew_entry (ws' := qwg) (own := qR_K) (cc := qc_K_transact) (nL := 6) (ret := none) qnk (by decide) rfl rfl (Nat.le_of_ble_eq_true rfl) ?_
  intro k g hp
  have hX : ∀ (x : MV) (s : PM) (sg1 : SG), xMach sg1 s (num / 4) (num % 4) → xWay sg1 (pWa s) → xFm sg sg1 → pHo s ≤ 5 → pTx cd lim num c dead = (if pHo s = 1 ∨ pHo s = 2 then pCel s c else s) → ew_E qS w 6 k 109 [some (.inr 1), some (.inl (nI num)), some (.inl (nI (pk5 c))), some (.inl (bI dead)), some (.inl (nI lim)), some x] [] sg1 := by
    intro x s sg1 hm hw hf h5 e
    have hE := hm.2.2.2.2.2.2.2.2.2.2
    have hlast : pHo s = 1 ∨ pHo s = 2 → ew_E qS w 6 k 125 [some (.inr 1), some (.inl (nI num)), some (.inl (nI (pk5 c))), some (.inl (bI dead)), some (.inl (nI lim)), some x] [] sg1 := by
      intro q
      rw [if_pos q] at e
      refine ew_aload_n g qd_K_transact_125 rfl ?_
      refine ew_iload_n g qd_K_transact_126 rfl ?_
      refine ew_put g qd_K_transact_127 qf_K_26 (qp_K_state _) (by decide) rfl rfl ?_
      refine ew_vret g qd_K_transact_130 hp ?_
      rw [e]
      exact ⟨rfl, xM_f3 hc hm, xW_fr hw (xFr_f (by decide) (by decide)), hf.tr (xFr_f (by decide) (by decide)).m, h5⟩
    refine ew_aload_n g qd_K_transact_109 rfl ?_
    refine ew_get g qd_K_transact_110 qf_K_35 (by decide) rfl rfl ?_
    refine en_top hE ?_
    refine ew_iconst g qd_K_transact_113 ic_1 ?_
    refine en_eq g qd_K_transact_114 (tgt := 125) (by decide) (by omega) (by omega) (fun h1 => ?_) (fun h1 => ?_)
    · exact hlast (Or.inl h1)
    · refine ew_aload_n g qd_K_transact_117 rfl ?_
      refine ew_get g qd_K_transact_118 qf_K_35 (by decide) rfl rfl ?_
      refine en_top hE ?_
      refine ew_iconst g qd_K_transact_121 ic_2 ?_
      refine en_ne g qd_K_transact_122 (tgt := 130) (by decide) (by omega) (by omega) (fun h2 => ?_) (fun h2 => ?_)
      · refine ew_vret g qd_K_transact_130 hp ?_
        rw [if_neg (fun q => by rcases q with q | q; exact h1 q; exact h2 q)] at e
        rw [e]
        exact ⟨rfl, hm, hw, hf, h5⟩
      · exact hlast (Or.inr h2)
  have hloop : ∀ (d i : Nat) (s : PM) (sg1 : SG), i + d = 41 → xMach sg1 s (num / 4) (num % 4) → xWay sg1 (pWa s) → xFm sg sg1 → pHo s ≤ 5 → (pHo s = 5 → (pWa s).length = i) → pTx cd lim num c dead = (if pHo (pRun cd (num / 4) (num % 4) d s) = 1 ∨ pHo (pRun cd (num / 4) (num % 4) d s) = 2 then pCel (pRun cd (num / 4) (num % 4) d s) c else pRun cd (num / 4) (num % 4) d s) → ew_E qS w 6 k 32 [some (.inr 1), some (.inl (nI num)), some (.inl (nI (pk5 c))), some (.inl (bI dead)), some (.inl (nI lim)), some (.inl (nI i))] [] sg1 := by
    intro d
    induction d with
    | zero =>
      intro i s sg1 hi hm hw hf h5 hlen e
      refine ew_iload g qd_K_transact_32 rfl ?_
      refine ew_bipush g qd_K_transact_34 bp_41 ?_
      refine en_ge g qd_K_transact_36 (tgt := 109) (by decide) (by omega) (by omega) (fun h => ?_) (fun h => ?_)
      · exact hX _ s sg1 hm hw hf h5 e
      · omega
    | succ d ih =>
      intro i s sg1 hi hm hw hf h5 hlen e
      have hE := hm.2.2.2.2.2.2.2.2.2.2
      have hA := hm.2.2.2.2.2.1
      have hok := hm.1
      have ha32 := hok.2.2.2.2
      have hc1 := hf.code hcd
      have hz := hc1.1.1
      refine ew_iload g qd_K_transact_32 rfl ?_
      refine ew_bipush g qd_K_transact_34 bp_41 ?_
      refine en_ge g qd_K_transact_36 (tgt := 109) (by decide) (by omega) (by omega) (fun h => ?_) (fun h => ?_)
      · omega
      · refine ew_aload_n g qd_K_transact_39 rfl ?_
        refine ew_get g qd_K_transact_40 qf_K_35 (by decide) rfl rfl ?_
        refine en_top hE ?_
        refine ew_iconst g qd_K_transact_43 ic_5 ?_
        refine en_ne g qd_K_transact_44 (tgt := 109) (by decide) (by omega) (by omega) (fun h5n => ?_) (fun h5n => ?_)
        · refine hX _ s sg1 hm hw hf h5 ?_
          rw [pRun_stop h5n] at e
          exact e
        · have hru : pRun cd (num / 4) (num % 4) (d + 1) s = if cd.1 ≤ pAt s then pEnd s 0 else pRun cd (num / 4) (num % 4) d (pStep cd (num / 4) (num % 4) s) := by
            show (if pHo s ≠ 5 then s else _) = _
            rw [if_neg (fun q => q h5n)]
          rw [hru] at e
          refine ew_aload_n g qd_K_transact_47 rfl ?_
          refine ew_get g qd_K_transact_48 qf_K_32 (by decide) rfl rfl ?_
          refine en_top hA ?_
          refine ew_aload_n g qd_K_transact_51 rfl ?_
          refine ew_getR g qd_K_transact_52 qf_K_12 (by decide) rfl rfl ?_
          refine ew_get g qd_K_transact_55 qf_K_64 (by decide) rfl rfl ?_
          refine en_top hc1.2.1 ?_
          refine en_lt g qd_K_transact_58 (tgt := 69) (by decide) (by omega) (by omega) (fun hat => ?_) (fun hat => ?_)
          · rw [if_neg (Nat.not_le.mpr hat)] at e
            have hl41 := hlen h5n
            refine ew_aload_n g qd_K_transact_69 rfl ?_
            refine ew_iload g qd_K_transact_70 rfl ?_
            rw [← hl41]
            refine ew_callV g qd_K_transact_72 (k_K_keepStep w k.2.1 sg1 hA (by omega)) qv_K_67 (by decide) rfl ⟨_, _, rfl⟩ rfl rfl (Nat.le_of_ble_eq_true rfl) ⟨rfl, rfl, by decide, by decide⟩ (fun v sg2 hv => ?_)
            obtain ⟨rfl, hv⟩ := hv
            have hm2 : xMach sg2 (pWay s (pWa s ++ [pAt s])) (num / 4) (num % 4) := by rw [hv]; exact xM_keep hm
            have hw2 : xWay sg2 (pWa s ++ [pAt s]) := by rw [hv]; exact xW_keep hw (by omega) (by omega)
            have hf2 : xFm sg1 sg2 := by
              intro o q1 q2 q3 q4
              rw [hv, sup_n q1, sup_n q1, sup_n q3]
            have hf2' := hf.tr hf2
            have hc2 := hf2'.code hcd
            obtain ⟨ho25, ha16⟩ := hc2.1.2 _ hat
            obtain ⟨hop, harg⟩ := hc2.2.2.1 _ hat
            refine ew_aload_n g qd_K_transact_75 rfl ?_
            refine ew_aload_n g qd_K_transact_76 rfl ?_
            refine ew_getR g qd_K_transact_77 qf_K_12 (by decide) rfl rfl ?_
            refine ew_getR g qd_K_transact_80 qf_K_71 (by decide) rfl rfl ?_
            refine ew_aload_n g qd_K_transact_83 rfl ?_
            refine ew_get g qd_K_transact_84 qf_K_32 (by decide) rfl rfl ?_
            refine en_top (show _ = nI (pAt s) from hm2.2.2.2.2.2.1) ?_
            refine en_iald g qd_K_transact_87 (by decide) rfl (by omega) (by omega) hop ?_
            refine ew_aload_n g qd_K_transact_88 rfl ?_
            refine ew_getR g qd_K_transact_89 qf_K_12 (by decide) rfl rfl ?_
            refine ew_getR g qd_K_transact_92 qf_K_74 (by decide) rfl rfl ?_
            refine ew_aload_n g qd_K_transact_95 rfl ?_
            refine ew_get g qd_K_transact_96 qf_K_32 (by decide) rfl rfl ?_
            refine en_top (show _ = nI (pAt s) from hm2.2.2.2.2.2.1) ?_
            refine en_iald g qd_K_transact_99 (by decide) rfl (by omega) (by omega) harg ?_
            refine ew_callV g qd_K_transact_100 (k_K_perform w k.2.1 sg2 hc2 hm2 ho25 ha16 (by show pAt s < 32; omega)) qv_K_77 (by decide) rfl ⟨_, _, rfl⟩ rfl rfl (Nat.le_of_ble_eq_true rfl) ⟨rfl, rfl, by decide, by decide⟩ (fun v sg3 hv => ?_)
            obtain ⟨rfl, hm3, hf3⟩ := hv
            obtain ⟨hwa, hho⟩ := pPer_wa (cd := cd) (inp := num / 4) (cal := num % 4) (s := pWay s (pWa s ++ [pAt s])) (o := cd.2.1 (pAt s)) (a := cd.2.2 (pAt s)) h5
            refine ew_iinc g qd_K_transact_103 (by decide) rfl (ii_1 _) ?_
            refine ew_goto g qd_K_transact_106 (tgt := 32) (by decide) ?_
            refine ih ((pWa s).length + 1) (pStep cd (num / 4) (num % 4) s) sg3 (by omega) hm3 ?_ (hf2'.tr hf3.m) hho (fun _ => ?_) e
            · show xWay sg3 (pWa (pPer _ _ _ _ _ _))
              rw [hwa]
              exact xW_fr hw2 hf3
            · show (pWa (pPer _ _ _ _ _ _)).length = _
              rw [hwa]
              show (pWa s ++ [pAt s]).length = _
              simp
          · rw [if_pos hat] at e
            refine ew_aload_n g qd_K_transact_61 rfl ?_
            refine ew_iconst g qd_K_transact_62 ic_0 ?_
            refine ew_put g qd_K_transact_63 qf_K_35 (qp_K_ending _) (by decide) rfl rfl ?_
            refine ew_goto g qd_K_transact_66 (tgt := 103) (by decide) ?_
            refine ew_iinc g qd_K_transact_103 (by decide) rfl (ii_1 _) ?_
            refine ew_goto g qd_K_transact_106 (tgt := 32) (by decide) ?_
            refine ih (i + 1) (pEnd s 0) _ (by omega) (xM_f6 hm) (xW_fr hw (xFr_f (by decide) (by decide))) (hf.tr (xFr_f (by decide) (by decide)).m) (by show (0 : Nat) ≤ 5; decide) (fun q => absurd q (by show (0 : Nat) ≠ 5; decide)) ?_
            rw [pRun_stop (by show (0 : Nat) ≠ 5; decide)]
            exact e
  cases dead with
  | true =>
    refine ew_aload_n g qd_K_transact_0 rfl ?_
    refine ew_iload_n g qd_K_transact_1 rfl ?_
    refine ew_iload_n g qd_K_transact_2 rfl ?_
    refine ew_iload_n g qd_K_transact_3 rfl ?_
    refine en_top bI_t ?_
    refine en_if_eq g qd_K_transact_4 (tgt := 11) (by decide) (by omega) (fun h => ?_) (fun h => ?_)
    · exact absurd h (by decide)
    · refine ew_iconst g qd_K_transact_7 ic_0 ?_
      refine ew_goto g qd_K_transact_8 (tgt := 13) (by decide) ?_
      refine ew_callV g qd_K_transact_13 (k_K_begin w k.2.1 sg _ _ _) qv_K_60 (by decide) rfl ⟨_, _, rfl⟩ rfl rfl (Nat.le_of_ble_eq_true rfl) ⟨rfl, rfl, by decide, by decide⟩ (fun v sg1 hv => ?_)
      obtain ⟨rfl, rfl⟩ := hv
      refine ew_aload_n g qd_K_transact_16 rfl ?_
      refine ew_iload_n g qd_K_transact_17 rfl ?_
      refine en_top bI_t ?_
      refine en_if_eq g qd_K_transact_18 (tgt := 25) (by decide) (by omega) (fun h => ?_) (fun h => ?_)
      · exact absurd h (by decide)
      · refine ew_iconst g qd_K_transact_21 ic_4 ?_
        refine ew_goto g qd_K_transact_22 (tgt := 26) (by decide) ?_
        refine ew_put g qd_K_transact_26 qf_K_35 (qp_K_ending _) (by decide) rfl rfl ?_
        refine ew_iconst g qd_K_transact_29 ic_0 ?_
        refine ew_istore g qd_K_transact_30 (by decide) ?_
        obtain ⟨q1, q2, q3⟩ := xM_beg sg (num := num) (lim := 0) (how := 4) hn (by omega) hc
        exact hloop 41 0 (pBeg 0 c 4) _ rfl q1 q2 q3 (by show (4 : Nat) ≤ 5; decide) (fun _ => rfl) rfl
  | false =>
    refine ew_aload_n g qd_K_transact_0 rfl ?_
    refine ew_iload_n g qd_K_transact_1 rfl ?_
    refine ew_iload_n g qd_K_transact_2 rfl ?_
    refine ew_iload_n g qd_K_transact_3 rfl ?_
    refine en_top bI_f ?_
    refine en_if_eq g qd_K_transact_4 (tgt := 11) (by decide) (by omega) (fun h => ?_) (fun h => ?_)
    · refine ew_iload g qd_K_transact_11 rfl ?_
      refine ew_callV g qd_K_transact_13 (k_K_begin w k.2.1 sg _ _ _) qv_K_60 (by decide) rfl ⟨_, _, rfl⟩ rfl rfl (Nat.le_of_ble_eq_true rfl) ⟨rfl, rfl, by decide, by decide⟩ (fun v sg1 hv => ?_)
      obtain ⟨rfl, rfl⟩ := hv
      refine ew_aload_n g qd_K_transact_16 rfl ?_
      refine ew_iload_n g qd_K_transact_17 rfl ?_
      refine en_top bI_f ?_
      refine en_if_eq g qd_K_transact_18 (tgt := 25) (by decide) (by omega) (fun h => ?_) (fun h => ?_)
      · refine ew_iconst g qd_K_transact_25 ic_5 ?_
        refine ew_put g qd_K_transact_26 qf_K_35 (qp_K_ending _) (by decide) rfl rfl ?_
        refine ew_iconst g qd_K_transact_29 ic_0 ?_
        refine ew_istore g qd_K_transact_30 (by decide) ?_
        obtain ⟨q1, q2, q3⟩ := xM_beg sg (num := num) (lim := lim) (how := 5) hn hl hc
        exact hloop 41 0 (pBeg lim c 5) _ rfl q1 q2 q3 (by show (5 : Nat) ≤ 5; decide) (fun _ => rfl) rfl
      · exact absurd rfl h
    · exact absurd rfl h
