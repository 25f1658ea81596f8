theorem pFault_lt {cd : CDE} {s : PM} {o a f : Nat} (h : pFault cd s o a = some f) : f < 5 := by
  unfold pFault at h
  split at h
  · cases h; decide
  · split at h
    · split at h <;> cases h; decide
    · split at h
      · split at h <;> cases h; decide
      · split at h
        · split at h <;> cases h; decide
        · split at h
          · split at h <;> cases h; decide
          · split at h
            · split at h <;> cases h; decide
            · cases h
theorem k_K_perform (w : WC) (l : Launch) (sg : SG) {cd : CDE} {s : PM} {inp cal o a : Nat} (hc : xCode sg cd) (hm : xMach sg s inp cal) (ho : o < 25) (ha : a < 16) (hat : pAt s < 32) : ew_M qS w l qy_K_perform qw_K_perform qr_K_perform [.inr 1, .inl (nI o), .inl (nI a)] sg (fun v sg' => v = none ∧ xMach sg' (pPer cd inp cal s o a) inp cal ∧ xFr sg sg') := by
  obtain ⟨hok, h2, h3, h4, h5, h6, h7, h8, h9, h10, h11⟩ := id hm
  have hd6 := hok.1
  obtain ⟨hT, hC, hC1, hPu⟩ := o_small o ho
  refine ew_entry (ws' := qwg) (own := qR_K) (cc := qc_K_perform) (nL := 6) (ret := none) qnk (by decide) rfl rfl (Nat.le_of_ble_eq_true rfl) ?_
  intro k g hp
  refine ew_aload_n g qd_K_perform_0 rfl ?_
  refine ew_iload_n g qd_K_perform_1 rfl ?_
  refine ew_iload_n g qd_K_perform_2 rfl ?_
  refine ew_callV g qd_K_perform_3 (k_K_faultOf w k.2.1 sg hc hm ho ha) qv_K_87 (by decide) rfl ⟨_, _, rfl⟩ rfl rfl (Nat.le_of_ble_eq_true rfl) ⟨rfl, rfl, by decide, by decide⟩ (fun v sg1 hv => ?_)
  obtain ⟨rfl, rfl⟩ := hv
  cases hf : pFault cd s o a with
  | some f =>
    have hf5 := pFault_lt hf
    refine en_top (show _ = nI f from rfl) ?_
    refine ew_istore_n g qd_K_perform_6 (by decide) ?_
    refine ew_iload_n g qd_K_perform_7 rfl ?_
    refine ew_iconst g qd_K_perform_8 ic_m1 ?_
    refine ew_icmp_eq g qd_K_perform_9 (tgt := 23) (by decide) (fun h => ?_) (fun h => ?_)
    · exact absurd h (nI_m1 (by omega))
    · refine ew_aload_n g qd_K_perform_12 rfl ?_
      refine ew_iload_n g qd_K_perform_13 rfl ?_
      refine ew_callV g qd_K_perform_14 (k_K_note w k.2.1 sg1 h6 hf5) qv_K_91 (by decide) rfl ⟨_, _, rfl⟩ rfl rfl (Nat.le_of_ble_eq_true rfl) ⟨rfl, rfl, by decide, by decide⟩ (fun v sg2 hv => ?_)
      obtain ⟨rfl, rfl⟩ := hv
      refine ew_aload_n g qd_K_perform_17 rfl ?_
      refine ew_iconst g qd_K_perform_18 ic_2 ?_
      refine ew_put g qd_K_perform_19 qf_K_35 (qp_K_ending _) (by decide) rfl rfl ?_
      refine ew_vret g qd_K_perform_22 hp ?_
      refine ⟨rfl, ?_, (xFr_a (Or.inr rfl)).tr (xFr_f (by decide) (by decide))⟩
      unfold pPer
      rw [hf]
      exact xM_f6 (xM_note hm hat hf5)
  | none =>
    obtain ⟨f1, f2, f3, f4, f5, f6, f7, -⟩ := pFault_none hf
    have hx := pUn_lt hok 0
    have hy := pUn_lt hok 1
    have hga := hok.2.2.2.1
    refine en_top (show _ = (-1 : Int32) from rfl) ?_
    refine ew_istore_n g qd_K_perform_6 (by decide) ?_
    refine ew_iload_n g qd_K_perform_7 rfl ?_
    refine ew_iconst g qd_K_perform_8 ic_m1 ?_
    refine ew_icmp_eq g qd_K_perform_9 (tgt := 23) (by decide) (fun h => ?_) (fun h => ?_)
    · refine ew_aload_n g qd_K_perform_23 rfl ?_
      refine ew_iconst g qd_K_perform_24 ic_0 ?_
      refine ew_callV g qd_K_perform_25 (k_K_wordUnder w k.2.1 sg1 h2 hd6 (by decide)) qv_K_94 (by decide) rfl ⟨_, _, rfl⟩ rfl rfl (Nat.le_of_ble_eq_true rfl) ⟨rfl, rfl, by decide, by decide⟩ (fun v sg2 hv => ?_)
      obtain ⟨rfl, rfl⟩ := hv
      refine en_top (xM_un hm 0) ?_
      refine ew_istore g qd_K_perform_28 (by decide) ?_
      refine ew_aload_n g qd_K_perform_30 rfl ?_
      refine ew_iconst g qd_K_perform_31 ic_1 ?_
      refine ew_callV g qd_K_perform_32 (k_K_wordUnder w k.2.1 sg2 h2 hd6 (by decide)) qv_K_94 (by decide) rfl ⟨_, _, rfl⟩ rfl rfl (Nat.le_of_ble_eq_true rfl) ⟨rfl, rfl, by decide, by decide⟩ (fun v sg3 hv => ?_)
      obtain ⟨rfl, rfl⟩ := hv
      refine en_top (xM_un hm 1) ?_
      refine ew_istore g qd_K_perform_35 (by decide) ?_
      refine ew_aload_n g qd_K_perform_37 rfl ?_
      refine ew_iload_n g qd_K_perform_38 rfl ?_
      refine ew_iload g qd_K_perform_39 rfl ?_
      refine ew_iload g qd_K_perform_41 rfl ?_
      refine ew_callV g qd_K_perform_43 (k_K_look w k.2.1 sg3 hm ho hat hx hy) qv_K_98 (by decide) rfl ⟨_, _, rfl⟩ rfl rfl (Nat.le_of_ble_eq_true rfl) ⟨rfl, rfl, by decide, by decide⟩ (fun v sg4 hv => ?_)
      obtain ⟨rfl, hm1, hfr1⟩ := hv
      refine ew_aload_n g qd_K_perform_46 rfl ?_
      refine ew_dup g qd_K_perform_47 ?_
      refine ew_get g qd_K_perform_48 qf_K_29 (by decide) rfl rfl ?_
      refine en_top (show _ = nI (pGa s) from hm1.2.2.2.2.1) ?_
      refine ew_gets g qd_K_perform_51 (j := 0) rfl qf_K_101 ?_
      refine ew_iload_n g qd_K_perform_54 rfl ?_
      refine en_tald g qd_K_perform_55 (j := 0) rfl (by omega) (by omega) rfl ?_
      refine ew_isub g qd_K_perform_56 ?_
      refine en_top (pk_sub f1) ?_
      refine ew_put g qd_K_perform_57 qf_K_29 (qp_K_gas _) (by decide) rfl rfl ?_
      have hm2 := xM_f4 (d := pGa s - oCost o) (by omega) hm1
      refine ew_aload_n g qd_K_perform_60 rfl ?_
      refine ew_dup g qd_K_perform_61 ?_
      refine ew_get g qd_K_perform_62 qf_K_22 (by decide) rfl rfl ?_
      refine en_top (show _ = nI (pDe s) from hm2.2.1) ?_
      refine ew_gets g qd_K_perform_65 (j := 1) rfl qf_K_104 ?_
      refine ew_iload_n g qd_K_perform_68 rfl ?_
      refine en_tald g qd_K_perform_69 (j := 1) rfl (by omega) (by omega) rfl ?_
      refine ew_isub g qd_K_perform_70 ?_
      refine en_top (pk_sub f2) ?_
      refine ew_put g qd_K_perform_71 qf_K_22 (qp_K_depth _) (by decide) rfl rfl ?_
      have hm3 := xM_f2 (d := pDe s - oTake o) (by show pDe s - oTake o ≤ pDe s; omega) hm2
      refine ew_aload_n g qd_K_perform_74 rfl ?_
      refine ew_dup g qd_K_perform_75 ?_
      refine ew_get g qd_K_perform_76 qf_K_32 (by decide) rfl rfl ?_
      refine en_top (show _ = nI (pAt s) from hm3.2.2.2.2.2.1) ?_
      refine ew_iconst g qd_K_perform_79 ic_1 ?_
      refine ew_iadd g qd_K_perform_80 ?_
      refine en_top (nI_add _ _) ?_
      refine ew_put g qd_K_perform_81 qf_K_32 (qp_K_at _) (by decide) rfl rfl ?_
      have hm4 := xM_f5 (d := pAt s + 1) hat hm3
      refine ew_gets g qd_K_perform_84 (j := 2) rfl qf_K_107 ?_
      refine ew_iload_n g qd_K_perform_87 rfl ?_
      refine en_tald g qd_K_perform_88 (j := 2) rfl (by omega) (by omega) rfl ?_
      refine ew_iconst g qd_K_perform_89 ic_1 ?_
      have hm4 : xMach _ (pS1 cal s o (pUn s 1) (pUn s 0)) inp cal := hm4
      have hfr4 := ((hfr1.tr (xFr_f (i := 4) (x := nI (pGa s - oCost o)) (by decide) (by decide))).tr (xFr_f (i := 2) (x := nI (pDe s - oTake o)) (by decide) (by decide))).tr (xFr_f (i := 5) (x := nI (pAt s + 1)) (by decide) (by decide))
      generalize sup (sup (sup sg4 1 4 (nI (pGa s - oCost o))) 1 2 (nI (pDe s - oTake o))) 1 5 (nI (pAt s + 1)) = sg5 at hm4 hfr4 ⊢
      refine en_ne g qd_K_perform_90 (tgt := 125) (by decide) (by omega) (by omega) (fun hp1 => ?_) (fun hp1 => ?_)
      · have h44 : o = 4 → a + 1 < pDe s - oTake o := fun e => by
          have q1 := f5 e
          have q2 : oTake o = 0 := by rw [e]; decide
          omega
        refine ew_aload_n g qd_K_perform_125 rfl ?_
        refine ew_iload_n g qd_K_perform_126 rfl ?_
        refine ew_iload_n g qd_K_perform_127 rfl ?_
        refine ew_iload g qd_K_perform_128 rfl ?_
        refine ew_iload g qd_K_perform_130 rfl ?_
        refine ew_callV g qd_K_perform_132 (k_K_act w k.2.1 sg5 (hfr4.code hc) hm4 ho ha hx hy h44 f6 f7) qv_K_114 (by decide) rfl ⟨_, _, rfl⟩ rfl rfl (Nat.le_of_ble_eq_true rfl) ⟨rfl, rfl, by decide, by decide⟩ (fun v sg6 hv => ?_)
        obtain ⟨rfl, hm6, hfr6⟩ := hv
        refine ew_vret g qd_K_perform_135 hp ?_
        refine ⟨rfl, ?_, hfr4.tr hfr6⟩
        unfold pPer
        rw [hf]
        show xMach sg6 (pDo cd inp cal s o a (pUn s 1) (pUn s 0)) inp cal
        unfold pDo
        rw [if_neg hp1]
        exact hm6
      · refine ew_aload_n g qd_K_perform_93 rfl ?_
        refine ew_getR g qd_K_perform_94 qf_K_18 (by decide) rfl rfl ?_
        refine ew_aload_n g qd_K_perform_97 rfl ?_
        refine ew_get g qd_K_perform_98 qf_K_22 (by decide) rfl rfl ?_
        refine en_top (show _ = nI (pDe s - oTake o) from hm4.2.1) ?_
        refine ew_aload_n g qd_K_perform_101 rfl ?_
        refine ew_iload_n g qd_K_perform_102 rfl ?_
        refine ew_iload_n g qd_K_perform_103 rfl ?_
        refine ew_iload g qd_K_perform_104 rfl ?_
        refine ew_iload g qd_K_perform_106 rfl ?_
        refine ew_callV g qd_K_perform_108 (k_K_wordPut w k.2.1 sg5 hm4 ho ha hx hy) qv_K_110 (by decide) rfl ⟨_, _, rfl⟩ rfl rfl (Nat.le_of_ble_eq_true rfl) ⟨rfl, rfl, by decide, by decide⟩ (fun v sg6 hv => ?_)
        obtain ⟨rfl, hm6, hfr6⟩ := hv
        have hde6 : sg6 1 2 = nI (pDe s - oTake o) := by rw [hm6.2.1, pSnd_de]; rfl
        refine en_iast g qd_K_perform_111 (by decide) rfl (by omega) (by omega) ?_
        refine ew_aload_n g qd_K_perform_112 rfl ?_
        refine ew_dup g qd_K_perform_113 ?_
        refine ew_get g qd_K_perform_114 qf_K_22 (by decide) rfl rfl ?_
        refine en_top (show sup sg6 6 _ _ 1 2 = nI (pDe s - oTake o) by rw [sup_n (by decide)]; exact hde6) ?_
        refine ew_iconst g qd_K_perform_117 ic_1 ?_
        refine ew_iadd g qd_K_perform_118 ?_
        refine en_top (nI_add _ _) ?_
        refine ew_put g qd_K_perform_119 qf_K_22 (qp_K_depth _) (by decide) rfl rfl ?_
        refine ew_goto g qd_K_perform_122 (tgt := 135) (by decide) ?_
        refine ew_vret g qd_K_perform_135 hp ?_
        refine ⟨rfl, ?_, (hfr4.tr hfr6).tr ((xFr_a (Or.inl rfl)).tr (xFr_f (by decide) (by decide)))⟩
        unfold pPer
        rw [hf]
        show xMach _ (pDo cd inp cal s o a (pUn s 1) (pUn s 0)) inp cal
        unfold pDo
        rw [if_pos hp1]
        have hps := xM_push hm6 (pPut_lt (o := o) (a := a) (y := pUn s 1) (x := pUn s 0) hm4.1 h9.2 h10.2 ha hy hx) (by rw [pSnd_de]; show pDe s - oTake o < 6; omega)
        rw [pSnd_de] at hps
        exact hps
    · exact absurd rfl h
/-- what a machine holds of its way -/
def shp (l : List Nat) : Int32 := l.foldl (fun h a => h * nI 31 + nI a + nI 1) (nI 0)
def xWay (sg : SG) (l : List Nat) : Prop := l.length ≤ 41 ∧ sg 1 11 = nI l.length ∧ sg 1 12 = shp l ∧ ∀ i, i < l.length → sg 7 i = nI (l.getD i 0) ∧ l.getD i 0 < 32
theorem shp_snoc (l : List Nat) (a : Nat) : shp (l ++ [a]) = shp l * nI 31 + nI a + nI 1 := by unfold shp; rw [List.foldl_append]; rfl
theorem k_K_keepStep (w : WC) (l : Launch) (sg : SG) {a i : Nat} (ha : sg 1 5 = nI a) (hi : i < 41) : ew_M qS w l qy_K_keepStep qw_K_keepStep qr_K_keepStep [.inr 1, .inl (nI i)] sg (fun v sg' => v = none ∧ sg' = sup (sup (sup sg 7 i (nI a)) 1 11 (nI (i + 1))) 1 12 (sg 1 12 * nI 31 + nI a + nI 1)) := by
  refine ew_entry (ws' := qwg) (own := qR_K) (cc := qc_K_keepStep) (nL := 2) (ret := none) qnk (by decide) rfl rfl (Nat.le_of_ble_eq_true rfl) ?_
  intro k g hp
  refine ew_aload_n g qd_K_keepStep_0 rfl ?_
  refine ew_getR g qd_K_keepStep_1 qf_K_48 (by decide) rfl rfl ?_
  refine ew_iload_n g qd_K_keepStep_4 rfl ?_
  refine ew_aload_n g qd_K_keepStep_5 rfl ?_
  refine ew_get g qd_K_keepStep_6 qf_K_32 (by decide) rfl rfl ?_
  refine en_top ha ?_
  refine en_iast g qd_K_keepStep_9 (by decide) rfl (by omega) (by omega) ?_
  refine ew_aload_n g qd_K_keepStep_10 rfl ?_
  refine ew_iload_n g qd_K_keepStep_11 rfl ?_
  refine ew_iconst g qd_K_keepStep_12 ic_1 ?_
  refine ew_iadd g qd_K_keepStep_13 ?_
  refine en_top (nI_add _ _) ?_
  refine ew_put g qd_K_keepStep_14 qf_K_51 (qp_K_stepCount _) (by decide) rfl rfl ?_
  refine ew_aload_n g qd_K_keepStep_17 rfl ?_
  refine ew_aload_n g qd_K_keepStep_18 rfl ?_
  refine ew_get g qd_K_keepStep_19 qf_K_54 (by decide) rfl rfl ?_
  refine en_top (show sup (sup sg 7 i (nI a)) 1 11 (nI (i + 1)) 1 12 = sg 1 12 by rw [sup_s, pk_un (by decide), sup_n (by decide)]) ?_
  refine ew_bipush g qd_K_keepStep_22 bp_31 ?_
  refine ew_imul g qd_K_keepStep_24 ?_
  refine ew_aload_n g qd_K_keepStep_25 rfl ?_
  refine ew_get g qd_K_keepStep_26 qf_K_32 (by decide) rfl rfl ?_
  refine en_top (show sup (sup sg 7 i (nI a)) 1 11 (nI (i + 1)) 1 5 = nI a by rw [sup_s, pk_un (by decide), sup_n (by decide)]; exact ha) ?_
  refine ew_iadd g qd_K_keepStep_29 ?_
  refine ew_iconst g qd_K_keepStep_30 ic_1 ?_
  refine ew_iadd g qd_K_keepStep_31 ?_
  refine ew_put g qd_K_keepStep_32 qf_K_54 (qp_K_shape _) (by decide) rfl rfl ?_
  refine ew_vret g qd_K_keepStep_35 hp ?_
  exact ⟨rfl, rfl⟩
theorem xM_keep {sg : SG} {s : PM} {inp cal i : Nat} {x y z : Int32} (h : xMach sg s inp cal) : xMach (sup (sup (sup sg 7 i x) 1 11 y) 1 12 z) s inp cal := by
  have e1 : ∀ j, j ≠ 11 → j ≠ 12 → sup (sup (sup sg 7 i x) 1 11 y) 1 12 z 1 j = sg 1 j := fun j h1 h2 => by rw [sup_s, pk_un h2, sup_s, pk_un h1, sup_n (by decide)]
  have e6 : sup (sup (sup sg 7 i x) 1 11 y) 1 12 z 6 = sg 6 := by rw [sup_n (by decide), sup_n (by decide), sup_n (by decide)]
  have e8 : sup (sup (sup sg 7 i x) 1 11 y) 1 12 z 8 = sg 8 := by rw [sup_n (by decide), sup_n (by decide), sup_n (by decide)]
  unfold xMach
  rw [e6, e8, e1 2 (by decide) (by decide), e1 3 (by decide) (by decide), e1 4 (by decide) (by decide), e1 5 (by decide) (by decide), e1 9 (by decide) (by decide), e1 7 (by decide) (by decide), e1 8 (by decide) (by decide), e1 6 (by decide) (by decide)]
  exact h
theorem xW_keep {sg : SG} {l : List Nat} {a : Nat} (h : xWay sg l) (hl : l.length < 41) (ha : a < 32) : xWay (sup (sup (sup sg 7 l.length (nI a)) 1 11 (nI (l.length + 1))) 1 12 (sg 1 12 * nI 31 + nI a + nI 1)) (l ++ [a]) := by
  obtain ⟨-, h2, h3, h4⟩ := h
  refine ⟨by simp; omega, ?_, ?_, fun i hi => ?_⟩
  · rw [sup_s, pk_un (by decide), sup_s, pk_us]; simp
  · rw [sup_s, pk_us, shp_snoc, h3]
  · rw [sup_n (by decide), sup_n (by decide), sup_s]
    have hi : i < l.length + 1 := by simpa using hi
    by_cases e : i = l.length
    · subst e
      rw [pk_us]
      simp [ha]
    · rw [pk_un e]
      have : i < l.length := by omega
      have hg : (l ++ [a]).getD i 0 = l.getD i 0 := by simp [List.getElem?_append, this]
      rw [hg]
      exact h4 i this
theorem xW_fr {sg sg' : SG} {l : List Nat} (h : xWay sg l) (hf : xFr sg sg') : xWay sg' l := by
  unfold xWay
  rw [hf.2.1, hf.2.2, hf.1 7 (by decide) (by decide) (by decide)]
  exact h
