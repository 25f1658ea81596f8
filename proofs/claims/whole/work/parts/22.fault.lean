theorem o_small : ∀ o, o < 25 → oTake o ≤ 2 ∧ oCost o ≤ 5 ∧ 1 ≤ oCost o ∧ oPuts o ≤ 1 := by decide +kernel
theorem mkI_m {cd : CDE} (hc : cd.1 ≤ 32) (a : Nat) : mkI cd a = -1 ↔ mkAt cd a = none := by
  unfold mkI
  cases h : mkAt cd a with
  | none => simp
  | some k =>
    have := (mkAt_lt h).1
    have h1 := nI_m1 (a := k) (by omega)
    simp [h1]
theorem k_K_faultOf (w : WC) (l : Launch) (sg : SG) {cd : CDE} {s : PM} {inp cal o a : Nat} (hc : xCode sg cd) (hm : xMach sg s inp cal) (ho : o < 25) (ha : a < 16) : ew_M qS w l qy_K_faultOf qw_K_faultOf qr_K_faultOf [.inr 1, .inl (nI o), .inl (nI a)] sg (fun v sg' => v = some (.inl (fI (pFault cd s o a))) ∧ sg' = sg) := by
  obtain ⟨hok, h2, h3, h4, h5, h6, h7, h8, h9, h10, h11⟩ := id hm
  have hd6 := hok.1
  have hg := hok.2.2.2.1
  have hcd := hc.1.1
  obtain ⟨hT, hC, hC1, hPu⟩ := o_small o ho
  refine ew_entry (ws' := qwg) (own := qR_K) (cc := qc_K_faultOf) (nL := 4) (ret := some .int) qnk (by decide) rfl rfl (Nat.le_of_ble_eq_true rfl) ?_
  intro k g hp
  rcases Nat.lt_or_ge (pDe s) (oTake o) with hlt | hge
  · have hF : pFault cd s o a = some 4 := by unfold pFault; rw [if_pos (Or.inr (Or.inl hlt))]
    refine ew_aload_n g qd_K_faultOf_0 rfl ?_
    refine ew_get g qd_K_faultOf_1 qf_K_22 (by decide) rfl rfl ?_
    refine en_top h2 ?_
    refine ew_gets g qd_K_faultOf_4 (j := 1) rfl qf_K_104 ?_
    refine ew_iload_n g qd_K_faultOf_7 rfl ?_
    refine en_tald g qd_K_faultOf_8 (j := 1) rfl (by omega) (by omega) rfl ?_
    refine ew_isub g qd_K_faultOf_9 ?_
    refine ew_istore_n g qd_K_faultOf_10 (by decide) ?_
    refine ew_aload_n g qd_K_faultOf_11 rfl ?_
    refine ew_get g qd_K_faultOf_12 qf_K_29 (by decide) rfl rfl ?_
    refine en_top h5 ?_
    refine ew_gets g qd_K_faultOf_15 (j := 0) rfl qf_K_101 ?_
    refine ew_iload_n g qd_K_faultOf_18 rfl ?_
    refine en_tald g qd_K_faultOf_19 (j := 0) rfl (by omega) (by omega) rfl ?_
    refine en_lt g qd_K_faultOf_20 (tgt := 39) (by decide) (by omega) (by omega) (fun h => ?_) (fun h => ?_)
    · refine ew_iconst g qd_K_faultOf_39 ic_4 ?_
      refine ew_iret g qd_K_faultOf_40 hp ?_
      rw [hF]; exact ⟨rfl, rfl⟩
    · refine ew_iload_n g qd_K_faultOf_23 rfl ?_
      refine ew_if_lt g qd_K_faultOf_24 (tgt := 39) (by decide) (fun h' => ?_) (fun h' => ?_)
      · refine ew_iconst g qd_K_faultOf_39 ic_4 ?_
        refine ew_iret g qd_K_faultOf_40 hp ?_
        rw [hF]; exact ⟨rfl, rfl⟩
      · exact absurd (pk_sneg (by omega) hlt) h'
  · refine ew_aload_n g qd_K_faultOf_0 rfl ?_
    refine ew_get g qd_K_faultOf_1 qf_K_22 (by decide) rfl rfl ?_
    refine en_top h2 ?_
    refine ew_gets g qd_K_faultOf_4 (j := 1) rfl qf_K_104 ?_
    refine ew_iload_n g qd_K_faultOf_7 rfl ?_
    refine en_tald g qd_K_faultOf_8 (j := 1) rfl (by omega) (by omega) rfl ?_
    refine ew_isub g qd_K_faultOf_9 ?_
    refine en_top (pk_sub hge) ?_
    refine ew_istore_n g qd_K_faultOf_10 (by decide) ?_
    refine ew_aload_n g qd_K_faultOf_11 rfl ?_
    refine ew_get g qd_K_faultOf_12 qf_K_29 (by decide) rfl rfl ?_
    refine en_top h5 ?_
    refine ew_gets g qd_K_faultOf_15 (j := 0) rfl qf_K_101 ?_
    refine ew_iload_n g qd_K_faultOf_18 rfl ?_
    refine en_tald g qd_K_faultOf_19 (j := 0) rfl (by omega) (by omega) rfl ?_
    refine en_lt g qd_K_faultOf_20 (tgt := 39) (by decide) (by omega) (by omega) (fun h => ?_) (fun h => ?_)
    · have hF : pFault cd s o a = some 4 := by unfold pFault; rw [if_pos (Or.inl h)]
      refine ew_iconst g qd_K_faultOf_39 ic_4 ?_
      refine ew_iret g qd_K_faultOf_40 hp ?_
      rw [hF]; exact ⟨rfl, rfl⟩
    · refine ew_iload_n g qd_K_faultOf_23 rfl ?_
      refine ew_if_lt g qd_K_faultOf_24 (tgt := 39) (by decide) (fun h' => ?_) (fun h' => ?_)
      · exact absurd h' (nI_pos (by omega))
      · refine ew_iload_n g qd_K_faultOf_27 rfl ?_
        refine ew_gets g qd_K_faultOf_28 (j := 2) rfl qf_K_107 ?_
        refine ew_iload_n g qd_K_faultOf_31 rfl ?_
        refine en_tald g qd_K_faultOf_32 (j := 2) rfl (by omega) (by omega) rfl ?_
        refine ew_iadd g qd_K_faultOf_33 ?_
        refine en_top (nI_add _ _) ?_
        refine ew_bipush g qd_K_faultOf_34 bp_6 ?_
        refine en_le g qd_K_faultOf_36 (tgt := 41) (by decide) (by omega) (by omega) (fun h6 => ?_) (fun h6 => ?_)
        · have h0 : ¬ (pGa s < oCost o ∨ pDe s < oTake o ∨ 6 < pDe s - oTake o + oPuts o) := by omega
          have hF := (show pFault cd s o a = _ by unfold pFault; rw [if_neg h0])
          refine ew_iload_n g qd_K_faultOf_41 rfl ?_
          rcases (by omega : o = 0 ∨ o = 1 ∨ o = 2 ∨ o = 3 ∨ o = 4 ∨ o = 5 ∨ o = 6 ∨ o = 7 ∨ o = 8 ∨ o = 9 ∨ o = 10 ∨ o = 11 ∨ o = 12 ∨ o = 13 ∨ o = 14 ∨ o = 15 ∨ o = 16 ∨ o = 17 ∨ o = 18 ∨ o = 19 ∨ o = 20 ∨ o = 21 ∨ o = 22 ∨ o = 23 ∨ o = 24) with rfl | rfl | rfl | rfl | rfl | rfl | rfl | rfl | rfl | rfl | rfl | rfl | rfl | rfl | rfl | rfl | rfl | rfl | rfl | rfl | rfl | rfl | rfl | rfl | rfl
          · refine ew_lsw g qd_K_faultOf_42 (off := 148) (tgt := 190) (by decide +kernel) (by decide +kernel) (by decide) ?_
            refine ew_iconst g qd_K_faultOf_190 ic_m1 ?_
            refine ew_iret g qd_K_faultOf_191 hp ?_
            rw [hF]; exact ⟨rfl, rfl⟩
          · refine ew_lsw g qd_K_faultOf_42 (off := 148) (tgt := 190) (by decide +kernel) (by decide +kernel) (by decide) ?_
            refine ew_iconst g qd_K_faultOf_190 ic_m1 ?_
            refine ew_iret g qd_K_faultOf_191 hp ?_
            rw [hF]; exact ⟨rfl, rfl⟩
          · refine ew_lsw g qd_K_faultOf_42 (off := 148) (tgt := 190) (by decide +kernel) (by decide +kernel) (by decide) ?_
            refine ew_iconst g qd_K_faultOf_190 ic_m1 ?_
            refine ew_iret g qd_K_faultOf_191 hp ?_
            rw [hF]; exact ⟨rfl, rfl⟩
          · refine ew_lsw g qd_K_faultOf_42 (off := 50) (tgt := 92) (by decide +kernel) (by decide +kernel) (by decide) ?_
            refine ew_iload_n g qd_K_faultOf_92 rfl ?_
            refine ew_aload_n g qd_K_faultOf_93 rfl ?_
            refine ew_get g qd_K_faultOf_94 qf_K_22 (by decide) rfl rfl ?_
            refine en_top h2 ?_
            refine en_ge g qd_K_faultOf_97 (tgt := 104) (by decide) (by omega) (by omega) (fun hh => ?_) (fun hh => ?_)
            · refine ew_iconst g qd_K_faultOf_104 ic_4 ?_
              refine ew_iret g qd_K_faultOf_105 hp ?_
              rw [hF, if_pos rfl, if_neg (by omega)]; exact ⟨rfl, rfl⟩
            · refine ew_iconst g qd_K_faultOf_100 ic_m1 ?_
              refine ew_goto g qd_K_faultOf_101 (tgt := 105) (by decide) ?_
              refine ew_iret g qd_K_faultOf_105 hp ?_
              rw [hF, if_pos rfl, if_pos hh]; exact ⟨rfl, rfl⟩
          · refine ew_lsw g qd_K_faultOf_42 (off := 64) (tgt := 106) (by decide +kernel) (by decide +kernel) (by decide) ?_
            refine ew_iload_n g qd_K_faultOf_106 rfl ?_
            refine ew_iconst g qd_K_faultOf_107 ic_1 ?_
            refine ew_iadd g qd_K_faultOf_108 ?_
            refine en_top (nI_add _ _) ?_
            refine ew_aload_n g qd_K_faultOf_109 rfl ?_
            refine ew_get g qd_K_faultOf_110 qf_K_22 (by decide) rfl rfl ?_
            refine en_top h2 ?_
            refine en_ge g qd_K_faultOf_113 (tgt := 120) (by decide) (by omega) (by omega) (fun hh => ?_) (fun hh => ?_)
            · refine ew_iconst g qd_K_faultOf_120 ic_4 ?_
              refine ew_iret g qd_K_faultOf_121 hp ?_
              rw [hF, if_neg (by decide), if_pos rfl, if_neg (by omega)]; exact ⟨rfl, rfl⟩
            · refine ew_iconst g qd_K_faultOf_116 ic_m1 ?_
              refine ew_goto g qd_K_faultOf_117 (tgt := 121) (by decide) ?_
              refine ew_iret g qd_K_faultOf_121 hp ?_
              rw [hF, if_neg (by decide), if_pos rfl, if_pos hh]; exact ⟨rfl, rfl⟩
          · refine ew_lsw g qd_K_faultOf_42 (off := 148) (tgt := 190) (by decide +kernel) (by decide +kernel) (by decide) ?_
            refine ew_iconst g qd_K_faultOf_190 ic_m1 ?_
            refine ew_iret g qd_K_faultOf_191 hp ?_
            rw [hF]; exact ⟨rfl, rfl⟩
          · refine ew_lsw g qd_K_faultOf_42 (off := 148) (tgt := 190) (by decide +kernel) (by decide +kernel) (by decide) ?_
            refine ew_iconst g qd_K_faultOf_190 ic_m1 ?_
            refine ew_iret g qd_K_faultOf_191 hp ?_
            rw [hF]; exact ⟨rfl, rfl⟩
          · refine ew_lsw g qd_K_faultOf_42 (off := 148) (tgt := 190) (by decide +kernel) (by decide +kernel) (by decide) ?_
            refine ew_iconst g qd_K_faultOf_190 ic_m1 ?_
            refine ew_iret g qd_K_faultOf_191 hp ?_
            rw [hF]; exact ⟨rfl, rfl⟩
          · refine ew_lsw g qd_K_faultOf_42 (off := 148) (tgt := 190) (by decide +kernel) (by decide +kernel) (by decide) ?_
            refine ew_iconst g qd_K_faultOf_190 ic_m1 ?_
            refine ew_iret g qd_K_faultOf_191 hp ?_
            rw [hF]; exact ⟨rfl, rfl⟩
          · refine ew_lsw g qd_K_faultOf_42 (off := 148) (tgt := 190) (by decide +kernel) (by decide +kernel) (by decide) ?_
            refine ew_iconst g qd_K_faultOf_190 ic_m1 ?_
            refine ew_iret g qd_K_faultOf_191 hp ?_
            rw [hF]; exact ⟨rfl, rfl⟩
          · refine ew_lsw g qd_K_faultOf_42 (off := 148) (tgt := 190) (by decide +kernel) (by decide +kernel) (by decide) ?_
            refine ew_iconst g qd_K_faultOf_190 ic_m1 ?_
            refine ew_iret g qd_K_faultOf_191 hp ?_
            rw [hF]; exact ⟨rfl, rfl⟩
          · refine ew_lsw g qd_K_faultOf_42 (off := 148) (tgt := 190) (by decide +kernel) (by decide +kernel) (by decide) ?_
            refine ew_iconst g qd_K_faultOf_190 ic_m1 ?_
            refine ew_iret g qd_K_faultOf_191 hp ?_
            rw [hF]; exact ⟨rfl, rfl⟩
          · refine ew_lsw g qd_K_faultOf_42 (off := 148) (tgt := 190) (by decide +kernel) (by decide +kernel) (by decide) ?_
            refine ew_iconst g qd_K_faultOf_190 ic_m1 ?_
            refine ew_iret g qd_K_faultOf_191 hp ?_
            rw [hF]; exact ⟨rfl, rfl⟩
          · refine ew_lsw g qd_K_faultOf_42 (off := 148) (tgt := 190) (by decide +kernel) (by decide +kernel) (by decide) ?_
            refine ew_iconst g qd_K_faultOf_190 ic_m1 ?_
            refine ew_iret g qd_K_faultOf_191 hp ?_
            rw [hF]; exact ⟨rfl, rfl⟩
          · refine ew_lsw g qd_K_faultOf_42 (off := 148) (tgt := 190) (by decide +kernel) (by decide +kernel) (by decide) ?_
            refine ew_iconst g qd_K_faultOf_190 ic_m1 ?_
            refine ew_iret g qd_K_faultOf_191 hp ?_
            rw [hF]; exact ⟨rfl, rfl⟩
          · refine ew_lsw g qd_K_faultOf_42 (off := 148) (tgt := 190) (by decide +kernel) (by decide +kernel) (by decide) ?_
            refine ew_iconst g qd_K_faultOf_190 ic_m1 ?_
            refine ew_iret g qd_K_faultOf_191 hp ?_
            rw [hF]; exact ⟨rfl, rfl⟩
          · refine ew_lsw g qd_K_faultOf_42 (off := 148) (tgt := 190) (by decide +kernel) (by decide +kernel) (by decide) ?_
            refine ew_iconst g qd_K_faultOf_190 ic_m1 ?_
            refine ew_iret g qd_K_faultOf_191 hp ?_
            rw [hF]; exact ⟨rfl, rfl⟩
          · refine ew_lsw g qd_K_faultOf_42 (off := 80) (tgt := 122) (by decide +kernel) (by decide +kernel) (by decide) ?_
            refine ew_aload_n g qd_K_faultOf_122 rfl ?_
            refine ew_getR g qd_K_faultOf_123 qf_K_12 (by decide) rfl rfl ?_
            refine ew_getR g qd_K_faultOf_126 qf_K_118 (by decide) rfl rfl ?_
            refine ew_aload_n g qd_K_faultOf_129 rfl ?_
            refine ew_iconst g qd_K_faultOf_130 ic_0 ?_
            refine ew_callV g qd_K_faultOf_131 (k_K_wordUnder w k.2.1 sg h2 hd6 (by decide)) qv_K_94 (by decide) rfl ⟨_, _, rfl⟩ rfl rfl (Nat.le_of_ble_eq_true rfl) ⟨rfl, rfl, by decide, by decide⟩ (fun v sg1 hv => ?_)
            obtain ⟨rfl, rfl⟩ := hv
            refine en_top (xM_un hm 0) ?_
            refine en_iald g qd_K_faultOf_134 (by decide) rfl (pUn_lt hok 0) (by omega) (hc.2.2.2 _ (pUn_lt hok 0)) ?_
            refine ew_iconst g qd_K_faultOf_135 ic_m1 ?_
            refine ew_icmp_eq g qd_K_faultOf_136 (tgt := 143) (by decide) (fun hh => ?_) (fun hh => ?_)
            · have hn := (mkI_m hcd _).mp hh
              refine ew_iconst g qd_K_faultOf_143 ic_4 ?_
              refine ew_iret g qd_K_faultOf_144 hp ?_
              rw [hF, if_neg (by decide), if_neg (by decide), if_pos rfl, hn]; exact ⟨rfl, rfl⟩
            · have hn : (mkAt cd (pUn s 0)).isSome = true := Option.isSome_iff_ne_none.mpr (fun q => hh ((mkI_m hcd _).mpr q))
              refine ew_iconst g qd_K_faultOf_139 ic_m1 ?_
              refine ew_goto g qd_K_faultOf_140 (tgt := 144) (by decide) ?_
              refine ew_iret g qd_K_faultOf_144 hp ?_
              rw [hF, if_neg (by decide), if_neg (by decide), if_pos rfl, if_pos hn]; exact ⟨rfl, rfl⟩
          · refine ew_lsw g qd_K_faultOf_42 (off := 103) (tgt := 145) (by decide +kernel) (by decide +kernel) (by decide) ?_
            refine ew_aload_n g qd_K_faultOf_145 rfl ?_
            refine ew_iconst g qd_K_faultOf_146 ic_1 ?_
            refine ew_callV g qd_K_faultOf_147 (k_K_wordUnder w k.2.1 sg h2 hd6 (by decide)) qv_K_94 (by decide) rfl ⟨_, _, rfl⟩ rfl rfl (Nat.le_of_ble_eq_true rfl) ⟨rfl, rfl, by decide, by decide⟩ (fun v sg1 hv => ?_)
            obtain ⟨rfl, rfl⟩ := hv
            refine en_top (xM_un hm 1) ?_
            have hu1 := pUn_lt hok 1
            refine en_if_eq g qd_K_faultOf_150 (tgt := 170) (by decide) (by omega) (fun hz => ?_) (fun hz => ?_)
            · refine ew_iconst g qd_K_faultOf_170 ic_m1 ?_
              refine ew_goto g qd_K_faultOf_171 (tgt := 175) (by decide) ?_
              refine ew_iret g qd_K_faultOf_175 hp ?_
              rw [hF, if_neg (by decide), if_neg (by decide), if_neg (by decide), if_pos rfl, if_pos (Or.inl hz)]; exact ⟨rfl, rfl⟩
            · refine ew_aload_n g qd_K_faultOf_153 rfl ?_
              refine ew_getR g qd_K_faultOf_154 qf_K_12 (by decide) rfl rfl ?_
              refine ew_getR g qd_K_faultOf_157 qf_K_118 (by decide) rfl rfl ?_
              refine ew_aload_n g qd_K_faultOf_160 rfl ?_
              refine ew_iconst g qd_K_faultOf_161 ic_0 ?_
              refine ew_callV g qd_K_faultOf_162 (k_K_wordUnder w k.2.1 sg1 h2 hd6 (by decide)) qv_K_94 (by decide) rfl ⟨_, _, rfl⟩ rfl rfl (Nat.le_of_ble_eq_true rfl) ⟨rfl, rfl, by decide, by decide⟩ (fun v sg2 hv => ?_)
              obtain ⟨rfl, rfl⟩ := hv
              refine en_top (xM_un hm 0) ?_
              refine en_iald g qd_K_faultOf_165 (by decide) rfl (pUn_lt hok 0) (by omega) (hc.2.2.2 _ (pUn_lt hok 0)) ?_
              refine ew_iconst g qd_K_faultOf_166 ic_m1 ?_
              refine ew_icmp_eq g qd_K_faultOf_167 (tgt := 174) (by decide) (fun hh => ?_) (fun hh => ?_)
              · have hn := (mkI_m hcd _).mp hh
                refine ew_iconst g qd_K_faultOf_174 ic_4 ?_
                refine ew_iret g qd_K_faultOf_175 hp ?_
                rw [hF, if_neg (by decide), if_neg (by decide), if_neg (by decide), if_pos rfl, if_neg (by rw [hn]; rintro (q | q); exact hz q; cases q)]; exact ⟨rfl, rfl⟩
              · have hn : (mkAt cd (pUn s 0)).isSome = true := Option.isSome_iff_ne_none.mpr (fun q => hh ((mkI_m hcd _).mpr q))
                refine ew_iconst g qd_K_faultOf_170 ic_m1 ?_
                refine ew_goto g qd_K_faultOf_171 (tgt := 175) (by decide) ?_
                refine ew_iret g qd_K_faultOf_175 hp ?_
                rw [hF, if_neg (by decide), if_neg (by decide), if_neg (by decide), if_pos rfl, if_pos (Or.inr hn)]; exact ⟨rfl, rfl⟩
          · refine ew_lsw g qd_K_faultOf_42 (off := 148) (tgt := 190) (by decide +kernel) (by decide +kernel) (by decide) ?_
            refine ew_iconst g qd_K_faultOf_190 ic_m1 ?_
            refine ew_iret g qd_K_faultOf_191 hp ?_
            rw [hF]; exact ⟨rfl, rfl⟩
          · refine ew_lsw g qd_K_faultOf_42 (off := 148) (tgt := 190) (by decide +kernel) (by decide +kernel) (by decide) ?_
            refine ew_iconst g qd_K_faultOf_190 ic_m1 ?_
            refine ew_iret g qd_K_faultOf_191 hp ?_
            rw [hF]; exact ⟨rfl, rfl⟩
          · refine ew_lsw g qd_K_faultOf_42 (off := 134) (tgt := 176) (by decide +kernel) (by decide +kernel) (by decide) ?_
            refine ew_aload_n g qd_K_faultOf_176 rfl ?_
            refine ew_iconst g qd_K_faultOf_177 ic_0 ?_
            refine ew_callV g qd_K_faultOf_178 (k_K_wordUnder w k.2.1 sg h2 hd6 (by decide)) qv_K_94 (by decide) rfl ⟨_, _, rfl⟩ rfl rfl (Nat.le_of_ble_eq_true rfl) ⟨rfl, rfl, by decide, by decide⟩ (fun v sg1 hv => ?_)
            obtain ⟨rfl, rfl⟩ := hv
            refine en_top (xM_un hm 0) ?_
            have hu0 := pUn_lt hok 0
            refine en_if_eq g qd_K_faultOf_181 (tgt := 188) (by decide) (by omega) (fun hz => ?_) (fun hz => ?_)
            · refine ew_iconst g qd_K_faultOf_188 ic_0 ?_
              refine ew_iret g qd_K_faultOf_189 hp ?_
              rw [hF, if_neg (by decide), if_neg (by decide), if_neg (by decide), if_neg (by decide), if_pos rfl, if_neg (fun q => q hz)]; exact ⟨rfl, rfl⟩
            · refine ew_iconst g qd_K_faultOf_184 ic_m1 ?_
              refine ew_goto g qd_K_faultOf_185 (tgt := 189) (by decide) ?_
              refine ew_iret g qd_K_faultOf_189 hp ?_
              rw [hF, if_neg (by decide), if_neg (by decide), if_neg (by decide), if_neg (by decide), if_pos rfl, if_pos hz]; exact ⟨rfl, rfl⟩
          · refine ew_lsw g qd_K_faultOf_42 (off := 148) (tgt := 190) (by decide +kernel) (by decide +kernel) (by decide) ?_
            refine ew_iconst g qd_K_faultOf_190 ic_m1 ?_
            refine ew_iret g qd_K_faultOf_191 hp ?_
            rw [hF]; exact ⟨rfl, rfl⟩
          · refine ew_lsw g qd_K_faultOf_42 (off := 148) (tgt := 190) (by decide +kernel) (by decide +kernel) (by decide) ?_
            refine ew_iconst g qd_K_faultOf_190 ic_m1 ?_
            refine ew_iret g qd_K_faultOf_191 hp ?_
            rw [hF]; exact ⟨rfl, rfl⟩
          · refine ew_lsw g qd_K_faultOf_42 (off := 148) (tgt := 190) (by decide +kernel) (by decide +kernel) (by decide) ?_
            refine ew_iconst g qd_K_faultOf_190 ic_m1 ?_
            refine ew_iret g qd_K_faultOf_191 hp ?_
            rw [hF]; exact ⟨rfl, rfl⟩
        · have hF : pFault cd s o a = some 4 := by unfold pFault; rw [if_pos (Or.inr (Or.inr h6))]
          refine ew_iconst g qd_K_faultOf_39 ic_4 ?_
          refine ew_iret g qd_K_faultOf_40 hp ?_
          rw [hF]; exact ⟨rfl, rfl⟩
