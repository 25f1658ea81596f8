/-! fields of the machine, one write each -/
theorem xM_f2 {sg : SG} {s : PM} {inp cal : Nat} {d : Nat} (hd : d ≤ pDe s) (h : xMach sg s inp cal) : xMach (sup sg 1 2 (nI d)) (pAt s, d, pGa s, pSt s, pCe s, pSe s, pFo s, pHo s, pWa s) inp cal := xM_at h ⟨Nat.le_trans hd h.1.1, fun i hi => h.1.2.1 i (Nat.lt_of_lt_of_le hi hd), h.1.2.2⟩ (fun j hj => ⟨Nat.lt_of_lt_of_le hj hd, rfl⟩) rfl (by omega) pk_us (by rw [pk_un (by decide)]; exact h.2.2.2.1) (by rw [pk_un (by decide)]; exact h.2.2.2.2.1) (by rw [pk_un (by decide)]; exact h.2.2.2.2.2.1) (by rw [pk_un (by decide)]; exact h.2.2.2.2.2.2.2.2.2.2) (by rw [pk_un (by decide)]; exact h.2.2.2.2.2.2.1)
theorem xM_f3 {sg : SG} {s : PM} {inp cal : Nat} {c : Nat → Nat} (hc : c16 c) (h : xMach sg s inp cal) : xMach (sup sg 1 3 (nI (pk5 c))) (pCel s c) inp cal := xM_at h (pCel_ok h.1 hc) (fun j hj => ⟨hj, rfl⟩) rfl (by omega) (by rw [pk_un (by decide)]; exact h.2.1) pk_us (by rw [pk_un (by decide)]; exact h.2.2.2.2.1) (by rw [pk_un (by decide)]; exact h.2.2.2.2.2.1) (by rw [pk_un (by decide)]; exact h.2.2.2.2.2.2.2.2.2.2) (by rw [pk_un (by decide)]; exact h.2.2.2.2.2.2.1)
theorem xM_f4 {sg : SG} {s : PM} {inp cal : Nat} {d : Nat} (hd : d ≤ 40) (h : xMach sg s inp cal) : xMach (sup sg 1 4 (nI d)) (pAt s, pDe s, d, pSt s, pCe s, pSe s, pFo s, pHo s, pWa s) inp cal := xM_at h ⟨h.1.1, h.1.2.1, h.1.2.2.1, hd, h.1.2.2.2.2⟩ (fun j hj => ⟨hj, rfl⟩) rfl (by omega) (by rw [pk_un (by decide)]; exact h.2.1) (by rw [pk_un (by decide)]; exact h.2.2.2.1) pk_us (by rw [pk_un (by decide)]; exact h.2.2.2.2.2.1) (by rw [pk_un (by decide)]; exact h.2.2.2.2.2.2.2.2.2.2) (by rw [pk_un (by decide)]; exact h.2.2.2.2.2.2.1)
theorem xM_f5 {sg : SG} {s : PM} {inp cal : Nat} {d : Nat} (hd : d ≤ 32) (h : xMach sg s inp cal) : xMach (sup sg 1 5 (nI d)) (pJmp s d) inp cal := xM_at h (pJmp_ok h.1 hd) (fun j hj => ⟨hj, rfl⟩) rfl (by omega) (by rw [pk_un (by decide)]; exact h.2.1) (by rw [pk_un (by decide)]; exact h.2.2.2.1) (by rw [pk_un (by decide)]; exact h.2.2.2.2.1) pk_us (by rw [pk_un (by decide)]; exact h.2.2.2.2.2.2.2.2.2.2) (by rw [pk_un (by decide)]; exact h.2.2.2.2.2.2.1)
theorem xM_f6 {sg : SG} {s : PM} {inp cal : Nat} {d : Nat} (h : xMach sg s inp cal) : xMach (sup sg 1 6 (nI d)) (pEnd s d) inp cal := xM_at h (pEnd_ok h.1) (fun j hj => ⟨hj, rfl⟩) rfl (by omega) (by rw [pk_un (by decide)]; exact h.2.1) (by rw [pk_un (by decide)]; exact h.2.2.2.1) (by rw [pk_un (by decide)]; exact h.2.2.2.2.1) (by rw [pk_un (by decide)]; exact h.2.2.2.2.2.1) pk_us (by rw [pk_un (by decide)]; exact h.2.2.2.2.2.2.1)
theorem xM_f9 {sg : SG} {s : PM} {inp cal : Nat} {d : Bool} (h : xMach sg s inp cal) : xMach (sup sg 1 9 (bI d)) (pAt s, pDe s, pGa s, pSt s, pCe s, d, pFo s, pHo s, pWa s) inp cal := xM_at h h.1 (fun j hj => ⟨hj, rfl⟩) rfl (by omega) (by rw [pk_un (by decide)]; exact h.2.1) (by rw [pk_un (by decide)]; exact h.2.2.2.1) (by rw [pk_un (by decide)]; exact h.2.2.2.2.1) (by rw [pk_un (by decide)]; exact h.2.2.2.2.2.1) (by rw [pk_un (by decide)]; exact h.2.2.2.2.2.2.2.2.2.2) pk_us
theorem xM_s6 {sg : SG} {s : PM} {inp cal v i : Nat} (h : xMach sg s inp cal) (hv : v < 16) (hi : i < pDe s) : xMach (sup sg 6 i (nI v)) (pAt s, pDe s, pGa s, nup (pSt s) i v, pCe s, pSe s, pFo s, pHo s, pWa s) inp cal := by
  have e1 : sup sg 6 i (nI v) 1 = sg 1 := sup_n (by decide)
  have e8 : sup sg 6 i (nI v) 8 = sg 8 := sup_n (by decide)
  unfold xMach
  rw [e1, e8, sup_s]
  refine ⟨⟨h.1.1, nup_lt h.1.2.1 hv, h.1.2.2⟩, h.2.1, fun j hj => ?_, h.2.2.2⟩
  show upd (sg 6) i (nI v) j = nI (nup (pSt s) i v j)
  unfold upd nup
  split
  · rfl
  · exact h.2.2.1 j hj
theorem xM_push {sg : SG} {s : PM} {inp cal v : Nat} (h : xMach sg s inp cal) (hv : v < 16) (hd : pDe s < 6) : xMach (sup (sup sg 6 (pDe s) (nI v)) 1 2 (nI (pDe s + 1))) (pPush s v) inp cal := by
  have e1 : sup (sup sg 6 (pDe s) (nI v)) 1 2 (nI (pDe s + 1)) 1 = upd (sg 1) 2 (nI (pDe s + 1)) := by rw [sup_s, sup_n (by decide)]
  have e6 : sup (sup sg 6 (pDe s) (nI v)) 1 2 (nI (pDe s + 1)) 6 = upd (sg 6) (pDe s) (nI v) := by rw [sup_n (by decide), sup_s]
  have e8 : sup (sup sg 6 (pDe s) (nI v)) 1 2 (nI (pDe s + 1)) 8 = sg 8 := by rw [sup_n (by decide), sup_n (by decide)]
  obtain ⟨h1, h2, h3, h4, h5, h6, h7, h8, h9, h10, h11⟩ := h
  unfold xMach
  rw [e1, e6, e8]
  have u : ∀ j, j ≠ 2 → upd (sg 1) 2 (nI (pDe s + 1)) j = sg 1 j := fun j hj => pk_un hj
  rw [u 3 (by decide), u 4 (by decide), u 5 (by decide), u 9 (by decide), u 7 (by decide), u 8 (by decide), u 6 (by decide), pk_us]
  refine ⟨pPush_ok h1 hd hv, rfl, fun j hj => ?_, h4, h5, h6, h7, h8, h9, h10, h11⟩
  show upd (sg 6) (pDe s) (nI v) j = nI (nup (pSt s) (pDe s) v j)
  unfold upd nup
  split
  · rfl
  · have : j < pDe s + 1 := hj
    exact h3 j (by omega)
theorem k_K_wordPut (w : WC) (l : Launch) (sg : SG) {s : PM} {inp cal o a x y : Nat} (hm : xMach sg s inp cal) (ho : o < 25) (ha : a < 16) (hx : x < 16) (hy : y < 16) : ew_M qS w l qy_K_wordPut qw_K_wordPut qr_K_wordPut [.inr 1, .inl (nI o), .inl (nI a), .inl (nI x), .inl (nI y)] sg (fun v sg' => v = some (.inl (nI (pPut inp cal s o a y x))) ∧ xMach sg' (pSnd s o x) inp cal ∧ xFr sg sg') := by
  obtain ⟨hok, h2, h3, h4, h5, h6, h7, h8, h9, h10, h11⟩ := id hm
  have hd6 := hok.1
  have hnS : o ≠ 19 → pSnd s o x = s := fun q => by unfold pSnd; rw [if_neg (fun z => q z.1)]
  refine ew_entry (ws' := qwg) (own := qR_K) (cc := qc_K_wordPut) (nL := 5) (ret := some .int) qnk (by decide) rfl rfl (Nat.le_of_ble_eq_true rfl) ?_
  intro k g hp
  refine ew_iload_n g qd_K_wordPut_0 rfl ?_
  rcases (by omega : o = 0 ∨ o = 1 ∨ o = 2 ∨ o = 3 ∨ o = 4 ∨ o = 5 ∨ o = 6 ∨ o = 7 ∨ o = 8 ∨ o = 9 ∨ o = 10 ∨ o = 11 ∨ o = 12 ∨ o = 13 ∨ o = 14 ∨ o = 15 ∨ o = 16 ∨ o = 17 ∨ o = 18 ∨ o = 19 ∨ o = 20 ∨ o = 21 ∨ o = 22 ∨ o = 23 ∨ o = 24) with rfl | rfl | rfl | rfl | rfl | rfl | rfl | rfl | rfl | rfl | rfl | rfl | rfl | rfl | rfl | rfl | rfl | rfl | rfl | rfl | rfl | rfl | rfl | rfl | rfl
  · refine ew_tswI g qd_K_wordPut_1 (off := 99) (tgt := 100) (by decide +kernel) (by decide +kernel) (by decide +kernel) (by decide) ?_
    refine ew_iload_n g qd_K_wordPut_100 rfl ?_
    refine ew_iret g qd_K_wordPut_101 hp ?_
    exact ⟨rfl, by rw [hnS (by decide)]; exact hm, xFr.rf sg⟩
  · refine ew_tswI g qd_K_wordPut_1 (off := 101) (tgt := 102) (by decide +kernel) (by decide +kernel) (by decide +kernel) (by decide) ?_
    refine ew_aload_n g qd_K_wordPut_102 rfl ?_
    refine ew_get g qd_K_wordPut_103 qf_K_38 (by decide) rfl rfl ?_
    refine en_top h9.1 ?_
    refine ew_iret g qd_K_wordPut_106 hp ?_
    exact ⟨rfl, by rw [hnS (by decide)]; exact hm, xFr.rf sg⟩
  · refine ew_tswI g qd_K_wordPut_1 (off := 106) (tgt := 107) (by decide +kernel) (by decide +kernel) (by decide +kernel) (by decide) ?_
    refine ew_aload_n g qd_K_wordPut_107 rfl ?_
    refine ew_get g qd_K_wordPut_108 qf_K_41 (by decide) rfl rfl ?_
    refine en_top h10.1 ?_
    refine ew_iret g qd_K_wordPut_111 hp ?_
    exact ⟨rfl, by rw [hnS (by decide)]; exact hm, xFr.rf sg⟩
  · refine ew_tswI g qd_K_wordPut_1 (off := 111) (tgt := 112) (by decide +kernel) (by decide +kernel) (by decide +kernel) (by decide) ?_
    refine ew_aload_n g qd_K_wordPut_112 rfl ?_
    refine ew_iload_n g qd_K_wordPut_113 rfl ?_
    refine ew_callV g qd_K_wordPut_114 (k_K_wordUnder w k.2.1 sg h2 hd6 (by omega)) qv_K_94 (by decide) rfl ⟨_, _, rfl⟩ rfl rfl (Nat.le_of_ble_eq_true rfl) ⟨rfl, rfl, by decide, by decide⟩ (fun v sg1 hv => ?_)
    obtain ⟨rfl, rfl⟩ := hv
    refine en_top (xM_un hm a) ?_
    refine ew_iret g qd_K_wordPut_117 hp ?_
    exact ⟨rfl, by rw [hnS (by decide)]; exact hm, xFr.rf _⟩
  · refine ew_tswI g qd_K_wordPut_1 (off := 210) (tgt := 211) (by decide +kernel) (by decide +kernel) (by decide +kernel) (by decide) ?_
    refine ew_iconst g qd_K_wordPut_211 ic_0 ?_
    refine ew_iret g qd_K_wordPut_212 hp ?_
    exact ⟨rfl, by rw [hnS (by decide)]; exact hm, xFr.rf sg⟩
  · refine ew_tswI g qd_K_wordPut_1 (off := 210) (tgt := 211) (by decide +kernel) (by decide +kernel) (by decide +kernel) (by decide) ?_
    refine ew_iconst g qd_K_wordPut_211 ic_0 ?_
    refine ew_iret g qd_K_wordPut_212 hp ?_
    exact ⟨rfl, by rw [hnS (by decide)]; exact hm, xFr.rf sg⟩
  · refine ew_tswI g qd_K_wordPut_1 (off := 117) (tgt := 118) (by decide +kernel) (by decide +kernel) (by decide +kernel) (by decide) ?_
    refine ew_iload g qd_K_wordPut_118 rfl ?_
    refine ew_iload_n g qd_K_wordPut_120 rfl ?_
    refine ew_iadd g qd_K_wordPut_121 ?_
    refine ew_bipush g qd_K_wordPut_122 bp_15 ?_
    refine ew_iand g qd_K_wordPut_124 ?_
    refine en_top (w_add y hy x hx) ?_
    refine ew_iret g qd_K_wordPut_125 hp ?_
    exact ⟨rfl, by rw [hnS (by decide)]; exact hm, xFr.rf sg⟩
  · refine ew_tswI g qd_K_wordPut_1 (off := 125) (tgt := 126) (by decide +kernel) (by decide +kernel) (by decide +kernel) (by decide) ?_
    refine ew_iload g qd_K_wordPut_126 rfl ?_
    refine ew_iload_n g qd_K_wordPut_128 rfl ?_
    refine ew_isub g qd_K_wordPut_129 ?_
    refine ew_bipush g qd_K_wordPut_130 bp_15 ?_
    refine ew_iand g qd_K_wordPut_132 ?_
    refine en_top (w_sub y hy x hx) ?_
    refine ew_iret g qd_K_wordPut_133 hp ?_
    exact ⟨rfl, by rw [hnS (by decide)]; exact hm, xFr.rf sg⟩
  · refine ew_tswI g qd_K_wordPut_1 (off := 133) (tgt := 134) (by decide +kernel) (by decide +kernel) (by decide +kernel) (by decide) ?_
    refine ew_iload g qd_K_wordPut_134 rfl ?_
    refine ew_iload_n g qd_K_wordPut_136 rfl ?_
    refine ew_imul g qd_K_wordPut_137 ?_
    refine ew_bipush g qd_K_wordPut_138 bp_15 ?_
    refine ew_iand g qd_K_wordPut_140 ?_
    refine en_top (w_mul y hy x hx) ?_
    refine ew_iret g qd_K_wordPut_141 hp ?_
    exact ⟨rfl, by rw [hnS (by decide)]; exact hm, xFr.rf sg⟩
  · refine ew_tswI g qd_K_wordPut_1 (off := 141) (tgt := 142) (by decide +kernel) (by decide +kernel) (by decide +kernel) (by decide) ?_
    refine ew_iload g qd_K_wordPut_142 rfl ?_
    refine ew_iload_n g qd_K_wordPut_144 rfl ?_
    refine ew_iand g qd_K_wordPut_145 ?_
    refine en_top (nx_and y x) ?_
    refine ew_iret g qd_K_wordPut_146 hp ?_
    exact ⟨rfl, by rw [hnS (by decide)]; exact hm, xFr.rf sg⟩
  · refine ew_tswI g qd_K_wordPut_1 (off := 146) (tgt := 147) (by decide +kernel) (by decide +kernel) (by decide +kernel) (by decide) ?_
    refine ew_iload g qd_K_wordPut_147 rfl ?_
    refine ew_iload_n g qd_K_wordPut_149 rfl ?_
    refine ew_ixor g qd_K_wordPut_150 ?_
    refine en_top (nx_xor y x) ?_
    refine ew_iret g qd_K_wordPut_151 hp ?_
    exact ⟨rfl, by rw [hnS (by decide)]; exact hm, xFr.rf sg⟩
  · refine ew_tswI g qd_K_wordPut_1 (off := 151) (tgt := 152) (by decide +kernel) (by decide +kernel) (by decide +kernel) (by decide) ?_
    refine ew_iload g qd_K_wordPut_152 rfl ?_
    refine ew_iload_n g qd_K_wordPut_154 rfl ?_
    refine en_ge g qd_K_wordPut_155 (tgt := 162) (by decide) (by omega) (by omega) (fun hh => ?_) (fun hh => ?_)
    · refine ew_iconst g qd_K_wordPut_162 ic_0 ?_
      refine ew_iret g qd_K_wordPut_163 hp ?_
      have e : ¬ y < x := by omega
      refine ⟨?_, by rw [hnS (by decide)]; exact hm, xFr.rf sg⟩
      show _ = some (Sum.inl (nI (if y < x then 1 else 0)))
      rw [if_neg e]
    · refine ew_iconst g qd_K_wordPut_158 ic_1 ?_
      refine ew_goto g qd_K_wordPut_159 (tgt := 163) (by decide) ?_
      refine ew_iret g qd_K_wordPut_163 hp ?_
      have e : y < x := by omega
      refine ⟨?_, by rw [hnS (by decide)]; exact hm, xFr.rf sg⟩
      show _ = some (Sum.inl (nI (if y < x then 1 else 0)))
      rw [if_pos e]
  · refine ew_tswI g qd_K_wordPut_1 (off := 163) (tgt := 164) (by decide +kernel) (by decide +kernel) (by decide +kernel) (by decide) ?_
    refine ew_iload g qd_K_wordPut_164 rfl ?_
    refine ew_iload_n g qd_K_wordPut_166 rfl ?_
    refine en_ne g qd_K_wordPut_167 (tgt := 174) (by decide) (by omega) (by omega) (fun hh => ?_) (fun hh => ?_)
    · refine ew_iconst g qd_K_wordPut_174 ic_0 ?_
      refine ew_iret g qd_K_wordPut_175 hp ?_
      have e : ¬ y = x := by omega
      refine ⟨?_, by rw [hnS (by decide)]; exact hm, xFr.rf sg⟩
      show _ = some (Sum.inl (nI (if y = x then 1 else 0)))
      rw [if_neg e]
    · refine ew_iconst g qd_K_wordPut_170 ic_1 ?_
      refine ew_goto g qd_K_wordPut_171 (tgt := 175) (by decide) ?_
      refine ew_iret g qd_K_wordPut_175 hp ?_
      have e : y = x := by omega
      refine ⟨?_, by rw [hnS (by decide)]; exact hm, xFr.rf sg⟩
      show _ = some (Sum.inl (nI (if y = x then 1 else 0)))
      rw [if_pos e]
  · refine ew_tswI g qd_K_wordPut_1 (off := 175) (tgt := 176) (by decide +kernel) (by decide +kernel) (by decide +kernel) (by decide) ?_
    refine ew_iload_n g qd_K_wordPut_176 rfl ?_
    refine en_if_ne g qd_K_wordPut_177 (tgt := 184) (by decide) (by omega) (fun hh => ?_) (fun hh => ?_)
    · refine ew_iconst g qd_K_wordPut_184 ic_0 ?_
      refine ew_iret g qd_K_wordPut_185 hp ?_
      have e : ¬ x = 0 := by omega
      refine ⟨?_, by rw [hnS (by decide)]; exact hm, xFr.rf sg⟩
      show _ = some (Sum.inl (nI (if x = 0 then 1 else 0)))
      rw [if_neg e]
    · refine ew_iconst g qd_K_wordPut_180 ic_1 ?_
      refine ew_goto g qd_K_wordPut_181 (tgt := 185) (by decide) ?_
      refine ew_iret g qd_K_wordPut_185 hp ?_
      have e : x = 0 := by omega
      refine ⟨?_, by rw [hnS (by decide)]; exact hm, xFr.rf sg⟩
      show _ = some (Sum.inl (nI (if x = 0 then 1 else 0)))
      rw [if_pos e]
  · refine ew_tswI g qd_K_wordPut_1 (off := 185) (tgt := 186) (by decide +kernel) (by decide +kernel) (by decide +kernel) (by decide) ?_
    refine ew_aload_n g qd_K_wordPut_186 rfl ?_
    refine ew_get g qd_K_wordPut_187 qf_K_26 (by decide) rfl rfl ?_
    refine en_top h4 ?_
    refine ew_iload_n g qd_K_wordPut_190 rfl ?_
    refine ew_iconst g qd_K_wordPut_191 ic_4 ?_
    refine ew_irem g qd_K_wordPut_192 (by decide +kernel) ?_
    refine en_top (pk_rem (by omega) (by omega) (by omega)) ?_
    refine ew_callS g qd_K_wordPut_193 (k_X_wordOf w k.2.1 sg _ _) qs_K_121 rfl rfl (Nat.le_of_ble_eq_true rfl) ⟨rfl, rfl, by decide, by decide⟩ (fun v sg1 hv => ?_)
    obtain ⟨rfl, rfl⟩ := hv
    refine en_top (wOf_c hok.2.2.1 (by omega)) ?_
    refine ew_iret g qd_K_wordPut_196 hp ?_
    exact ⟨rfl, by rw [hnS (by decide)]; exact hm, xFr.rf _⟩
  · refine ew_tswI g qd_K_wordPut_1 (off := 210) (tgt := 211) (by decide +kernel) (by decide +kernel) (by decide +kernel) (by decide) ?_
    refine ew_iconst g qd_K_wordPut_211 ic_0 ?_
    refine ew_iret g qd_K_wordPut_212 hp ?_
    exact ⟨rfl, by rw [hnS (by decide)]; exact hm, xFr.rf sg⟩
  · refine ew_tswI g qd_K_wordPut_1 (off := 210) (tgt := 211) (by decide +kernel) (by decide +kernel) (by decide +kernel) (by decide) ?_
    refine ew_iconst g qd_K_wordPut_211 ic_0 ?_
    refine ew_iret g qd_K_wordPut_212 hp ?_
    exact ⟨rfl, by rw [hnS (by decide)]; exact hm, xFr.rf sg⟩
  · refine ew_tswI g qd_K_wordPut_1 (off := 210) (tgt := 211) (by decide +kernel) (by decide +kernel) (by decide +kernel) (by decide) ?_
    refine ew_iconst g qd_K_wordPut_211 ic_0 ?_
    refine ew_iret g qd_K_wordPut_212 hp ?_
    exact ⟨rfl, by rw [hnS (by decide)]; exact hm, xFr.rf sg⟩
  · refine ew_tswI g qd_K_wordPut_1 (off := 210) (tgt := 211) (by decide +kernel) (by decide +kernel) (by decide +kernel) (by decide) ?_
    refine ew_iconst g qd_K_wordPut_211 ic_0 ?_
    refine ew_iret g qd_K_wordPut_212 hp ?_
    exact ⟨rfl, by rw [hnS (by decide)]; exact hm, xFr.rf sg⟩
  · refine ew_tswI g qd_K_wordPut_1 (off := 196) (tgt := 197) (by decide +kernel) (by decide +kernel) (by decide +kernel) (by decide) ?_
    refine ew_aload_n g qd_K_wordPut_197 rfl ?_
    refine ew_iload_n g qd_K_wordPut_198 rfl ?_
    refine ew_callV g qd_K_wordPut_199 (k_K_send w k.2.1 sg h4 hok.2.2.1 hx) qv_K_124 (by decide) rfl ⟨_, _, rfl⟩ rfl rfl (Nat.le_of_ble_eq_true rfl) ⟨rfl, rfl, by decide, by decide⟩ (fun v sg1 hv => ?_)
    rcases hv with ⟨hle, rfl, rfl⟩ | ⟨hlt, rfl, rfl⟩
    · refine ew_iret g qd_K_wordPut_202 hp ?_
      refine ⟨?_, ?_, (xFr_f (by decide) (by decide)).tr (xFr_f (by decide) (by decide))⟩
      · show _ = some (Sum.inl (nI (if x ≤ pCe s 4 then 1 else 0)))
        rw [if_pos hle]
      · have e : pSnd s 19 x = (pAt s, pDe s, pGa s, pSt s, nup (pCe s) 4 (pCe s 4 - x), true, pFo s, pHo s, pWa s) := by unfold pSnd; rw [if_pos ⟨rfl, hle⟩]
        rw [e]
        have hc4 := hok.2.2.1 4 (by omega)
        exact xM_f9 (xM_f3 (nup_c16 hok.2.2.1 (by omega)) hm)
    · refine ew_iret g qd_K_wordPut_202 hp ?_
      refine ⟨?_, ?_, xFr.rf _⟩
      · show _ = some (Sum.inl (nI (if x ≤ pCe s 4 then 1 else 0)))
        rw [if_neg (by omega)]
      · have e : pSnd s 19 x = s := by unfold pSnd; rw [if_neg (by omega)]
        rw [e]; exact hm
  · refine ew_tswI g qd_K_wordPut_1 (off := 202) (tgt := 203) (by decide +kernel) (by decide +kernel) (by decide +kernel) (by decide) ?_
    refine ew_aload_n g qd_K_wordPut_203 rfl ?_
    refine ew_get g qd_K_wordPut_204 qf_K_26 (by decide) rfl rfl ?_
    refine en_top h4 ?_
    refine ew_bipush g qd_K_wordPut_207 bp_16 ?_
    refine ew_ishr g qd_K_wordPut_209 ?_
    refine en_top (bal_c hok.2.2.1) ?_
    refine ew_iret g qd_K_wordPut_210 hp ?_
    exact ⟨rfl, by rw [hnS (by decide)]; exact hm, xFr.rf sg⟩
  · refine ew_tswO g qd_K_wordPut_1 (tgt := 211) (by decide +kernel) (by decide) ?_
    refine ew_iconst g qd_K_wordPut_211 ic_0 ?_
    refine ew_iret g qd_K_wordPut_212 hp ?_
    exact ⟨rfl, by rw [hnS (by decide)]; exact hm, xFr.rf sg⟩
  · refine ew_tswO g qd_K_wordPut_1 (tgt := 211) (by decide +kernel) (by decide) ?_
    refine ew_iconst g qd_K_wordPut_211 ic_0 ?_
    refine ew_iret g qd_K_wordPut_212 hp ?_
    exact ⟨rfl, by rw [hnS (by decide)]; exact hm, xFr.rf sg⟩
  · refine ew_tswO g qd_K_wordPut_1 (tgt := 211) (by decide +kernel) (by decide) ?_
    refine ew_iconst g qd_K_wordPut_211 ic_0 ?_
    refine ew_iret g qd_K_wordPut_212 hp ?_
    exact ⟨rfl, by rw [hnS (by decide)]; exact hm, xFr.rf sg⟩
  · refine ew_tswO g qd_K_wordPut_1 (tgt := 211) (by decide +kernel) (by decide) ?_
    refine ew_iconst g qd_K_wordPut_211 ic_0 ?_
    refine ew_iret g qd_K_wordPut_212 hp ?_
    exact ⟨rfl, by rw [hnS (by decide)]; exact hm, xFr.rf sg⟩
