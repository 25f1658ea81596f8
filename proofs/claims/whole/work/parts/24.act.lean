theorem k_K_act (w : WC) (l : Launch) (sg : SG) {cd : CDE} {s : PM} {inp cal o a x y : Nat} (hc : xCode sg cd) (hm : xMach sg s inp cal) (ho : o < 25) (ha : a < 16) (hx : x < 16) (hy : y < 16) (hs4 : o = 4 → a + 1 < pDe s) (h17 : o = 17 → (mkAt cd x).isSome = true) (h18 : o = 18 → y ≠ 0 → (mkAt cd x).isSome = true) : ew_M qS w l qy_K_act qw_K_act qr_K_act [.inr 1, .inl (nI o), .inl (nI a), .inl (nI x), .inl (nI y)] sg (fun v sg' => v = none ∧ xMach sg' (pAct cd s o a y x) inp cal ∧ xFr sg sg') := by
  obtain ⟨hok, h2, h3, h4, h5, h6, h7, h8, h9, h10, h11⟩ := id hm
  have hd6 := hok.1
  have hcd := hc.1.1
  have hmk : (mkAt cd x).isSome = true → sg 5 x = nI ((mkAt cd x).getD 0) := by
    intro q
    rw [hc.2.2.2 x hx]
    unfold mkI
    cases hq : mkAt cd x with
    | none => rw [hq] at q; cases q
    | some k => rfl
  have hgd := getD_lt (cd := cd) (a := x) hcd
  refine ew_entry (ws' := qwg) (own := qR_K) (cc := qc_K_act) (nL := 5) (ret := none) qnk (by decide) rfl rfl (Nat.le_of_ble_eq_true rfl) ?_
  intro k g hp
  refine ew_iload_n g qd_K_act_0 rfl ?_
  rcases (by omega : o = 0 ∨ o = 1 ∨ o = 2 ∨ o = 3 ∨ o = 4 ∨ o = 5 ∨ o = 6 ∨ o = 7 ∨ o = 8 ∨ o = 9 ∨ o = 10 ∨ o = 11 ∨ o = 12 ∨ o = 13 ∨ o = 14 ∨ o = 15 ∨ o = 16 ∨ o = 17 ∨ o = 18 ∨ o = 19 ∨ o = 20 ∨ o = 21 ∨ o = 22 ∨ o = 23 ∨ o = 24) with rfl | rfl | rfl | rfl | rfl | rfl | rfl | rfl | rfl | rfl | rfl | rfl | rfl | rfl | rfl | rfl | rfl | rfl | rfl | rfl | rfl | rfl | rfl | rfl | rfl
  · refine ew_tswO g qd_K_act_1 (tgt := 208) (by decide +kernel) (by decide) ?_
    refine ew_vret g qd_K_act_208 hp ?_
    exact ⟨rfl, hm, xFr.rf sg⟩
  · refine ew_tswO g qd_K_act_1 (tgt := 208) (by decide +kernel) (by decide) ?_
    refine ew_vret g qd_K_act_208 hp ?_
    exact ⟨rfl, hm, xFr.rf sg⟩
  · refine ew_tswO g qd_K_act_1 (tgt := 208) (by decide +kernel) (by decide) ?_
    refine ew_vret g qd_K_act_208 hp ?_
    exact ⟨rfl, hm, xFr.rf sg⟩
  · refine ew_tswO g qd_K_act_1 (tgt := 208) (by decide +kernel) (by decide) ?_
    refine ew_vret g qd_K_act_208 hp ?_
    exact ⟨rfl, hm, xFr.rf sg⟩
  · refine ew_tswI g qd_K_act_1 (off := 99) (tgt := 100) (by decide +kernel) (by decide +kernel) (by decide +kernel) (by decide) ?_
    have h44 := hs4 rfl
    refine ew_aload_n g qd_K_act_100 rfl ?_
    refine ew_aload_n g qd_K_act_101 rfl ?_
    refine ew_get g qd_K_act_102 qf_K_22 (by decide) rfl rfl ?_
    refine en_top h2 ?_
    refine ew_iconst g qd_K_act_105 ic_1 ?_
    refine ew_isub g qd_K_act_106 ?_
    refine en_top (pk_sub (by omega)) ?_
    refine ew_aload_n g qd_K_act_107 rfl ?_
    refine ew_get g qd_K_act_108 qf_K_22 (by decide) rfl rfl ?_
    refine en_top h2 ?_
    refine ew_iconst g qd_K_act_111 ic_2 ?_
    refine ew_isub g qd_K_act_112 ?_
    refine en_top (pk_sub (by omega)) ?_
    refine ew_iload_n g qd_K_act_113 rfl ?_
    refine ew_isub g qd_K_act_114 ?_
    refine en_top (pk_sub (by omega)) ?_
    refine ew_callV g qd_K_act_115 (k_K_swap w k.2.1 sg (by omega) (by omega)) qv_K_127 (by decide) rfl ⟨_, _, rfl⟩ rfl rfl (Nat.le_of_ble_eq_true rfl) ⟨rfl, rfl, by decide, by decide⟩ (fun v sg1 hv => ?_)
    obtain ⟨rfl, rfl⟩ := hv
    refine ew_goto g qd_K_act_118 (tgt := 208) (by decide) ?_
    refine ew_vret g qd_K_act_208 hp ?_
    refine ⟨rfl, ?_, (xFr_a (Or.inl rfl)).tr (xFr_a (Or.inl rfl))⟩
    have e1 := h3 (pDe s - 1) (by omega)
    have e2 := h3 (pDe s - 2 - a) (by omega)
    rw [e1, e2]
    exact xM_s6 (xM_s6 hm (hok.2.1 _ (by omega)) (by omega)) (hok.2.1 _ (by omega)) (by show pDe s - 2 - a < pDe s; omega)
  · refine ew_tswI g qd_K_act_1 (off := 207) (tgt := 208) (by decide +kernel) (by decide +kernel) (by decide +kernel) (by decide) ?_
    refine ew_vret g qd_K_act_208 hp ?_
    exact ⟨rfl, hm, xFr.rf sg⟩
  · refine ew_tswI g qd_K_act_1 (off := 207) (tgt := 208) (by decide +kernel) (by decide +kernel) (by decide +kernel) (by decide) ?_
    refine ew_vret g qd_K_act_208 hp ?_
    exact ⟨rfl, hm, xFr.rf sg⟩
  · refine ew_tswI g qd_K_act_1 (off := 207) (tgt := 208) (by decide +kernel) (by decide +kernel) (by decide +kernel) (by decide) ?_
    refine ew_vret g qd_K_act_208 hp ?_
    exact ⟨rfl, hm, xFr.rf sg⟩
  · refine ew_tswI g qd_K_act_1 (off := 207) (tgt := 208) (by decide +kernel) (by decide +kernel) (by decide +kernel) (by decide) ?_
    refine ew_vret g qd_K_act_208 hp ?_
    exact ⟨rfl, hm, xFr.rf sg⟩
  · refine ew_tswI g qd_K_act_1 (off := 207) (tgt := 208) (by decide +kernel) (by decide +kernel) (by decide +kernel) (by decide) ?_
    refine ew_vret g qd_K_act_208 hp ?_
    exact ⟨rfl, hm, xFr.rf sg⟩
  · refine ew_tswI g qd_K_act_1 (off := 207) (tgt := 208) (by decide +kernel) (by decide +kernel) (by decide +kernel) (by decide) ?_
    refine ew_vret g qd_K_act_208 hp ?_
    exact ⟨rfl, hm, xFr.rf sg⟩
  · refine ew_tswI g qd_K_act_1 (off := 207) (tgt := 208) (by decide +kernel) (by decide +kernel) (by decide +kernel) (by decide) ?_
    refine ew_vret g qd_K_act_208 hp ?_
    exact ⟨rfl, hm, xFr.rf sg⟩
  · refine ew_tswI g qd_K_act_1 (off := 207) (tgt := 208) (by decide +kernel) (by decide +kernel) (by decide +kernel) (by decide) ?_
    refine ew_vret g qd_K_act_208 hp ?_
    exact ⟨rfl, hm, xFr.rf sg⟩
  · refine ew_tswI g qd_K_act_1 (off := 207) (tgt := 208) (by decide +kernel) (by decide +kernel) (by decide +kernel) (by decide) ?_
    refine ew_vret g qd_K_act_208 hp ?_
    exact ⟨rfl, hm, xFr.rf sg⟩
  · refine ew_tswI g qd_K_act_1 (off := 207) (tgt := 208) (by decide +kernel) (by decide +kernel) (by decide +kernel) (by decide) ?_
    refine ew_vret g qd_K_act_208 hp ?_
    exact ⟨rfl, hm, xFr.rf sg⟩
  · refine ew_tswI g qd_K_act_1 (off := 120) (tgt := 121) (by decide +kernel) (by decide +kernel) (by decide +kernel) (by decide) ?_
    refine ew_aload_n g qd_K_act_121 rfl ?_
    refine ew_aload_n g qd_K_act_122 rfl ?_
    refine ew_get g qd_K_act_123 qf_K_26 (by decide) rfl rfl ?_
    refine en_top h4 ?_
    refine ew_iload_n g qd_K_act_126 rfl ?_
    refine ew_iconst g qd_K_act_127 ic_4 ?_
    refine ew_irem g qd_K_act_128 (by decide +kernel) ?_
    refine en_top (pk_rem (by omega) (by omega) (by omega)) ?_
    refine ew_iload g qd_K_act_129 rfl ?_
    refine ew_callS g qd_K_act_131 (k_X_withWord w k.2.1 sg _ _ _) qs_K_130 rfl rfl (Nat.le_of_ble_eq_true rfl) ⟨rfl, rfl, by decide, by decide⟩ (fun v sg1 hv => ?_)
    obtain ⟨rfl, rfl⟩ := hv
    refine en_top (wWith_c hok.2.2.1 (by omega) hy) ?_
    refine ew_put g qd_K_act_134 qf_K_26 (qp_K_state _) (by decide) rfl rfl ?_
    refine ew_goto g qd_K_act_137 (tgt := 208) (by decide) ?_
    refine ew_vret g qd_K_act_208 hp ?_
    exact ⟨rfl, xM_f3 (nup_c16 hok.2.2.1 hy) hm, xFr_f (by decide) (by decide)⟩
  · refine ew_tswI g qd_K_act_1 (off := 207) (tgt := 208) (by decide +kernel) (by decide +kernel) (by decide +kernel) (by decide) ?_
    refine ew_vret g qd_K_act_208 hp ?_
    exact ⟨rfl, hm, xFr.rf sg⟩
  · refine ew_tswI g qd_K_act_1 (off := 139) (tgt := 140) (by decide +kernel) (by decide +kernel) (by decide +kernel) (by decide) ?_
    refine ew_aload_n g qd_K_act_140 rfl ?_
    refine ew_aload_n g qd_K_act_141 rfl ?_
    refine ew_getR g qd_K_act_142 qf_K_12 (by decide) rfl rfl ?_
    refine ew_getR g qd_K_act_145 qf_K_118 (by decide) rfl rfl ?_
    refine ew_iload_n g qd_K_act_148 rfl ?_
    refine en_iald g qd_K_act_149 (by decide) rfl (by omega) (by omega) (hmk (h17 rfl)) ?_
    refine ew_put g qd_K_act_150 qf_K_32 (qp_K_at _) (by decide) rfl rfl ?_
    refine ew_goto g qd_K_act_153 (tgt := 208) (by decide) ?_
    refine ew_vret g qd_K_act_208 hp ?_
    exact ⟨rfl, xM_f5 hgd hm, xFr_f (by decide) (by decide)⟩
  · refine ew_tswI g qd_K_act_1 (off := 155) (tgt := 156) (by decide +kernel) (by decide +kernel) (by decide +kernel) (by decide) ?_
    refine ew_aload_n g qd_K_act_156 rfl ?_
    refine ew_iload g qd_K_act_157 rfl ?_
    refine en_if_eq g qd_K_act_159 (tgt := 174) (by decide) (by omega) (fun hz => ?_) (fun hz => ?_)
    · have ha32 := hok.2.2.2.2
      refine ew_aload_n g qd_K_act_174 rfl ?_
      refine ew_get g qd_K_act_175 qf_K_32 (by decide) rfl rfl ?_
      refine en_top h6 ?_
      refine ew_put g qd_K_act_178 qf_K_32 (qp_K_at _) (by decide) rfl rfl ?_
      refine ew_goto g qd_K_act_181 (tgt := 208) (by decide) ?_
      refine ew_vret g qd_K_act_208 hp ?_
      refine ⟨rfl, ?_, xFr_f (by decide) (by decide)⟩
      have e : pAct cd s 18 a y x = pJmp s (pAt s) := by
        show (if y ≠ 0 then _ else s) = _
        rw [if_neg (fun q => q hz)]
        rfl
      rw [e]; exact xM_f5 ha32 hm
    · refine ew_aload_n g qd_K_act_162 rfl ?_
      refine ew_getR g qd_K_act_163 qf_K_12 (by decide) rfl rfl ?_
      refine ew_getR g qd_K_act_166 qf_K_118 (by decide) rfl rfl ?_
      refine ew_iload_n g qd_K_act_169 rfl ?_
      refine en_iald g qd_K_act_170 (by decide) rfl (by omega) (by omega) (hmk (h18 rfl hz)) ?_
      refine ew_goto g qd_K_act_171 (tgt := 178) (by decide) ?_
      refine ew_put g qd_K_act_178 qf_K_32 (qp_K_at _) (by decide) rfl rfl ?_
      refine ew_goto g qd_K_act_181 (tgt := 208) (by decide) ?_
      refine ew_vret g qd_K_act_208 hp ?_
      refine ⟨rfl, ?_, xFr_f (by decide) (by decide)⟩
      have e : pAct cd s 18 a y x = pJmp s ((mkAt cd x).getD 0) := by
        show (if y ≠ 0 then _ else s) = _
        rw [if_pos hz]
      rw [e]; exact xM_f5 hgd hm
  · refine ew_tswI g qd_K_act_1 (off := 207) (tgt := 208) (by decide +kernel) (by decide +kernel) (by decide +kernel) (by decide) ?_
    refine ew_vret g qd_K_act_208 hp ?_
    exact ⟨rfl, hm, xFr.rf sg⟩
  · refine ew_tswI g qd_K_act_1 (off := 207) (tgt := 208) (by decide +kernel) (by decide +kernel) (by decide +kernel) (by decide) ?_
    refine ew_vret g qd_K_act_208 hp ?_
    exact ⟨rfl, hm, xFr.rf sg⟩
  · refine ew_tswI g qd_K_act_1 (off := 207) (tgt := 208) (by decide +kernel) (by decide +kernel) (by decide +kernel) (by decide) ?_
    refine ew_vret g qd_K_act_208 hp ?_
    exact ⟨rfl, hm, xFr.rf sg⟩
  · refine ew_tswI g qd_K_act_1 (off := 183) (tgt := 184) (by decide +kernel) (by decide +kernel) (by decide +kernel) (by decide) ?_
    refine ew_aload_n g qd_K_act_184 rfl ?_
    refine ew_iconst g qd_K_act_185 ic_0 ?_
    refine ew_put g qd_K_act_186 qf_K_35 (qp_K_ending _) (by decide) rfl rfl ?_
    refine ew_goto g qd_K_act_189 (tgt := 208) (by decide) ?_
    refine ew_vret g qd_K_act_208 hp ?_
    exact ⟨rfl, xM_f6 hm, xFr_f (by decide) (by decide)⟩
  · refine ew_tswI g qd_K_act_1 (off := 191) (tgt := 192) (by decide +kernel) (by decide +kernel) (by decide +kernel) (by decide) ?_
    refine ew_aload_n g qd_K_act_192 rfl ?_
    refine ew_iconst g qd_K_act_193 ic_1 ?_
    refine ew_put g qd_K_act_194 qf_K_35 (qp_K_ending _) (by decide) rfl rfl ?_
    refine ew_goto g qd_K_act_197 (tgt := 208) (by decide) ?_
    refine ew_vret g qd_K_act_208 hp ?_
    exact ⟨rfl, xM_f6 hm, xFr_f (by decide) (by decide)⟩
  · refine ew_tswI g qd_K_act_1 (off := 199) (tgt := 200) (by decide +kernel) (by decide +kernel) (by decide +kernel) (by decide) ?_
    refine ew_aload_n g qd_K_act_200 rfl ?_
    refine ew_iconst g qd_K_act_201 ic_3 ?_
    refine ew_put g qd_K_act_202 qf_K_35 (qp_K_ending _) (by decide) rfl rfl ?_
    refine ew_goto g qd_K_act_205 (tgt := 208) (by decide) ?_
    refine ew_vret g qd_K_act_208 hp ?_
    exact ⟨rfl, xM_f6 hm, xFr_f (by decide) (by decide)⟩
theorem k_K_look (w : WC) (l : Launch) (sg : SG) {s : PM} {inp cal o x y : Nat} (hm : xMach sg s inp cal) (ho : o < 25) (hat : pAt s < 32) (hx : x < 16) (hy : y < 16) : ew_M qS w l qy_K_look qw_K_look qr_K_look [.inr 1, .inl (nI o), .inl (nI x), .inl (nI y)] sg (fun v sg' => v = none ∧ xMach sg' (pNote s (pLook cal s o y x)) inp cal ∧ xFr sg sg') := by
  obtain ⟨hok, h2, h3, h4, h5, h6, h7, h8, h9, h10, h11⟩ := id hm
  have hyx : y * x < 2 ^ 31 := Nat.lt_of_le_of_lt (Nat.mul_le_mul (Nat.le_of_lt hy) (Nat.le_of_lt hx)) (by decide)
  have hcal := h10.2
  refine ew_entry (ws' := qwg) (own := qR_K) (cc := qc_K_look) (nL := 5) (ret := none) qnk (by decide) rfl rfl (Nat.le_of_ble_eq_true rfl) ?_
  intro k g hp
  have hJ : ∀ b, b = pOver o y x → ew_E qS w 5 k 44 [some (.inr 1), some (.inl (nI o)), some (.inl (nI x)), some (.inl (nI y)), none] [.inl (bI b)] sg := by
    intro b hb
    cases b with
    | true =>
      refine ew_istore g qd_K_look_44 (by decide) ?_
      refine ew_iload g qd_K_look_46 rfl ?_
      refine en_top bI_t ?_
      refine en_if_eq g qd_K_look_48 (tgt := 59) (by decide) (by omega) (fun h => ?_) (fun h => ?_)
      · exact absurd h (by decide)
      · refine ew_aload_n g qd_K_look_51 rfl ?_
        refine ew_iconst g qd_K_look_52 ic_1 ?_
        refine ew_callV g qd_K_look_53 (k_K_note w k.2.1 sg h6 (by decide)) qv_K_91 (by decide) rfl ⟨_, _, rfl⟩ rfl rfl (Nat.le_of_ble_eq_true rfl) ⟨rfl, rfl, by decide, by decide⟩ (fun v sg1 hv => ?_)
        obtain ⟨rfl, rfl⟩ := hv
        refine ew_goto g qd_K_look_56 (tgt := 98) (by decide) ?_
        refine ew_vret g qd_K_look_98 hp ?_
        refine ⟨rfl, ?_, xFr_a (Or.inr rfl)⟩
        unfold pLook
        rw [if_pos hb.symm]
        exact xM_note hm hat (by decide)
    | false =>
      have hnb : ¬ pOver o y x = true := by rw [← hb]; decide
      refine ew_istore g qd_K_look_44 (by decide) ?_
      refine ew_iload g qd_K_look_46 rfl ?_
      refine en_top bI_f ?_
      refine en_if_eq g qd_K_look_48 (tgt := 59) (by decide) (by omega) (fun h => ?_) (fun h => ?_)
      · refine ew_iload_n g qd_K_look_59 rfl ?_
        refine ew_bipush g qd_K_look_60 bp_24 ?_
        have h80 : ¬ (o = 24 ∧ cal ≠ 0) → ew_E qS w 5 k 80 (([some (.inr 1), some (.inl (nI o)), some (.inl (nI x)), some (.inl (nI y)), none] : List (Option MV)).set 4 (some (.inl (bI false)))) [] sg := by
          intro hno
          refine ew_iload_n g qd_K_look_80 rfl ?_
          refine ew_bipush g qd_K_look_81 bp_15 ?_
          refine en_ne g qd_K_look_83 (tgt := 98) (by decide) (by omega) (by omega) (fun h3 => ?_) (fun h3 => ?_)
          · refine ew_vret g qd_K_look_98 hp ?_
            refine ⟨rfl, ?_, xFr.rf sg⟩
            unfold pLook
            rw [if_neg hnb, if_neg hno, if_neg (fun q => h3 q.1)]
            exact hm
          · refine ew_aload_n g qd_K_look_86 rfl ?_
            refine ew_get g qd_K_look_87 qf_K_44 (by decide) rfl rfl ?_
            cases hse : pSe s with
            | true =>
              rw [hse] at h7
              refine en_top (h7.trans bI_t) ?_
              refine en_if_eq g qd_K_look_90 (tgt := 98) (by decide) (by omega) (fun hz => ?_) (fun hz => ?_)
              · exact absurd hz (by decide)
              · refine ew_aload_n g qd_K_look_93 rfl ?_
                refine ew_iconst g qd_K_look_94 ic_3 ?_
                refine ew_callV g qd_K_look_95 (k_K_note w k.2.1 sg h6 (by decide)) qv_K_91 (by decide) rfl ⟨_, _, rfl⟩ rfl rfl (Nat.le_of_ble_eq_true rfl) ⟨rfl, rfl, by decide, by decide⟩ (fun v sg1 hv => ?_)
                obtain ⟨rfl, rfl⟩ := hv
                refine ew_vret g qd_K_look_98 hp ?_
                refine ⟨rfl, ?_, xFr_a (Or.inr rfl)⟩
                unfold pLook
                rw [if_neg hnb, if_neg hno, if_pos ⟨h3, hse⟩]
                exact xM_note hm hat (by decide)
            | false =>
              rw [hse] at h7
              refine en_top (h7.trans bI_f) ?_
              refine en_if_eq g qd_K_look_90 (tgt := 98) (by decide) (by omega) (fun hz => ?_) (fun hz => ?_)
              · refine ew_vret g qd_K_look_98 hp ?_
                refine ⟨rfl, ?_, xFr.rf sg⟩
                unfold pLook
                rw [if_neg hnb, if_neg hno, if_neg (fun q => by rw [hse] at q; exact absurd q.2 (by decide))]
                exact hm
              · exact absurd rfl hz
        refine en_ne g qd_K_look_62 (tgt := 80) (by decide) (by omega) (by omega) (fun h24 => ?_) (fun h24 => ?_)
        · exact h80 (fun q => h24 q.1)
        · refine ew_aload_n g qd_K_look_65 rfl ?_
          refine ew_get g qd_K_look_66 qf_K_41 (by decide) rfl rfl ?_
          refine en_top h10.1 ?_
          refine en_if_eq g qd_K_look_69 (tgt := 80) (by decide) (by omega) (fun hz => ?_) (fun hz => ?_)
          · exact h80 (fun q => q.2 hz)
          · refine ew_aload_n g qd_K_look_72 rfl ?_
            refine ew_iconst g qd_K_look_73 ic_2 ?_
            refine ew_callV g qd_K_look_74 (k_K_note w k.2.1 sg h6 (by decide)) qv_K_91 (by decide) rfl ⟨_, _, rfl⟩ rfl rfl (Nat.le_of_ble_eq_true rfl) ⟨rfl, rfl, by decide, by decide⟩ (fun v sg1 hv => ?_)
            obtain ⟨rfl, rfl⟩ := hv
            refine ew_goto g qd_K_look_77 (tgt := 98) (by decide) ?_
            refine ew_vret g qd_K_look_98 hp ?_
            refine ⟨rfl, ?_, xFr_a (Or.inr rfl)⟩
            unfold pLook
            rw [if_neg hnb, if_pos ⟨h24, hz⟩]
            exact xM_note hm hat (by decide)
      · exact absurd rfl h
  have hT : pOver o y x = true → ew_E qS w 5 k 39 [some (.inr 1), some (.inl (nI o)), some (.inl (nI x)), some (.inl (nI y)), none] [] sg := by
    intro q
    refine ew_iconst g qd_K_look_39 ic_1 ?_
    refine ew_goto g qd_K_look_40 (tgt := 44) (by decide) ?_
    exact hJ true q.symm
  have hF : ¬ ((o = 6 ∧ 16 ≤ y + x) ∨ (o = 8 ∧ 16 ≤ y * x) ∨ (o = 7 ∧ y < x)) → ew_E qS w 5 k 43 [some (.inr 1), some (.inl (nI o)), some (.inl (nI x)), some (.inl (nI y)), none] [] sg := by
    intro q
    refine ew_iconst g qd_K_look_43 ic_0 ?_
    exact hJ false (decide_eq_false q).symm
  have h28 : ¬ (o = 6 ∧ 16 ≤ y + x) → ¬ (o = 8 ∧ 16 ≤ y * x) → ew_E qS w 5 k 28 [some (.inr 1), some (.inl (nI o)), some (.inl (nI x)), some (.inl (nI y)), none] [] sg := by
    intro q1 q2
    refine ew_iload_n g qd_K_look_28 rfl ?_
    refine ew_bipush g qd_K_look_29 bp_7 ?_
    refine en_ne g qd_K_look_31 (tgt := 43) (by decide) (by omega) (by omega) (fun h => ?_) (fun h => ?_)
    · exact hF (fun z => by rcases z with z | z | z; exact q1 z; exact q2 z; exact h z.1)
    · refine ew_iload_n g qd_K_look_34 rfl ?_
      refine ew_iload_n g qd_K_look_35 rfl ?_
      refine en_le g qd_K_look_36 (tgt := 43) (by decide) (by omega) (by omega) (fun h' => ?_) (fun h' => ?_)
      · exact hF (fun z => by rcases z with z | z | z; exact q1 z; exact q2 z; omega)
      · exact hT (decide_eq_true (Or.inr (Or.inr ⟨h, h'⟩)))
  have h14 : ¬ (o = 6 ∧ 16 ≤ y + x) → ew_E qS w 5 k 14 [some (.inr 1), some (.inl (nI o)), some (.inl (nI x)), some (.inl (nI y)), none] [] sg := by
    intro q1
    refine ew_iload_n g qd_K_look_14 rfl ?_
    refine ew_bipush g qd_K_look_15 bp_8 ?_
    refine en_ne g qd_K_look_17 (tgt := 28) (by decide) (by omega) (by omega) (fun h => ?_) (fun h => ?_)
    · exact h28 q1 (fun z => h z.1)
    · refine ew_iload_n g qd_K_look_20 rfl ?_
      refine ew_iload_n g qd_K_look_21 rfl ?_
      refine ew_imul g qd_K_look_22 ?_
      refine en_top (pk_mul _ _) ?_
      refine ew_bipush g qd_K_look_23 bp_16 ?_
      refine en_ge g qd_K_look_25 (tgt := 39) (by decide) (by omega) (by omega) (fun h' => ?_) (fun h' => ?_)
      · exact hT (decide_eq_true (Or.inr (Or.inl ⟨h, h'⟩)))
      · exact h28 q1 (fun z => by have := z.2; omega)
  refine ew_iload_n g qd_K_look_0 rfl ?_
  refine ew_bipush g qd_K_look_1 bp_6 ?_
  refine en_ne g qd_K_look_3 (tgt := 14) (by decide) (by omega) (by omega) (fun h => ?_) (fun h => ?_)
  · exact h14 (fun z => h z.1)
  · refine ew_iload_n g qd_K_look_6 rfl ?_
    refine ew_iload_n g qd_K_look_7 rfl ?_
    refine ew_iadd g qd_K_look_8 ?_
    refine en_top (nI_add _ _) ?_
    refine ew_bipush g qd_K_look_9 bp_16 ?_
    refine en_ge g qd_K_look_11 (tgt := 39) (by decide) (by omega) (by omega) (fun h' => ?_) (fun h' => ?_)
    · exact hT (decide_eq_true (Or.inl ⟨h, h'⟩))
    · exact h14 (fun z => by have := z.2; omega)
