/-! the law's loop -/
def el_X (w : WC) (k : KX) (L : Nat) (xs : Nat → Int32) : Prop := match k with
  | (_, _, _, _, s, _, _, _, _, _, A, _, _, _) => va_X (w.2.2.2 2000) L xs s s.heap ∧ w.2.2.2 2000 < s.heap.size ∧ ¬ A (w.2.2.2 2000)
section EL
variable {S : SD} {w : WC} {nL : Nat} {k : KX} {cc : ByteArray} {own : String} {Ts : List Cond} {ret : Option FieldType} {rm : Room} {pc L : Nat} {xs : Nat → Int32} {lv : List (Option MV)} {st : List MV} {sg : SG}
theorem el_ald (g : ew_G S w nL k cc own Ts ret rm) (hX : el_X w k L xs) {j : Nat} {v : Int32} (d : decode cc pc = .ok (.iaload, 1)) (hj : j < L) (hL : L < 2 ^ 31) (hv : xs j = v) (h : ew_E S w nL k (pc + 1) lv (.inl v :: st) sg) : ew_E S w nL k pc lv (.inl (nI j) :: .inr 2000 :: st) sg := by
  obtain ⟨p, l, e, R, s, m, args, below, meth, c, A, cs, sl, Q⟩ := k
  obtain ⟨gx, gb, gm, go, gt, gK, gi, gn, gs, gr, gl, gR, gk, gA, gh, gc, gd⟩ := g
  obtain ⟨x1, x2, x3⟩ := hX
  intro H locs ls hl hP hS
  refine va_sld gx gb x1 x2 x3 hS (i := nI j) (vp_in_nI hj hL) d ?_
  rw [nI_clamp (Nat.lt_trans hj hL), hv]
  exact h H locs ls hl hP hS
theorem el_len (g : ew_G S w nL k cc own Ts ret rm) (hX : el_X w k L xs) (d : decode cc pc = .ok (.arraylength, 1)) (h : ew_E S w nL k (pc + 1) lv (.inl (nI L) :: st) sg) : ew_E S w nL k pc lv (.inr 2000 :: st) sg := by
  obtain ⟨p, l, e, R, s, m, args, below, meth, c, A, cs, sl, Q⟩ := k
  obtain ⟨gx, gb, gm, go, gt, gK, gi, gn, gs, gr, gl, gR, gk, gA, gh, gc, gd⟩ := g
  obtain ⟨x1, x2, x3⟩ := hX
  intro H locs ls hl hP hS
  exact va_slen gx gb x1 x2 x3 hS d (h H locs ls hl hP hS)
end EL
theorem xS_fr {sg sg' : SG} {a : AS} (h : xS sg a) (hf : ∀ o, o < 41 → sg' o = sg o) : xS sg' a := by
  obtain ⟨h1, h2, h3, h4, h5⟩ := h
  refine ⟨?_, by rw [hf 0 (by decide)]; exact h2, by rw [hf 0 (by decide)]; exact h3, xEx_fr h4 (fun o a b => hf o (by omega)), xRp_fr h5 (by rw [hf 0 (by decide)]) (hf 40 (by decide))⟩
  unfold xCode at h1 ⊢
  rw [hf 2 (by decide), hf 3 (by decide), hf 4 (by decide), hf 5 (by decide)]
  exact h1
theorem mS_fr {sg sg' : SG} {a : AS} (h : mS sg a) (hf : ∀ o, 41 ≤ o → sg' o = sg o) : mS sg' a := by
  obtain ⟨h1, h2, h3, h4, h5⟩ := h
  refine ⟨?_, by rw [hf 41 (by decide)]; exact h2, by rw [hf 41 (by decide)]; exact h3, mEx_fr h4 (fun o a b => hf o (by omega)) (by rw [hf 41 (by decide)]) (by rw [hf 41 (by decide)]), mRp_fr h5 (by rw [hf 41 (by decide)]) (hf 60 (by decide))⟩
  unfold mCode at h1 ⊢
  rw [hf 41 (by decide), hf 42 (by decide), hf 43 (by decide)]
  exact h1
theorem ii_4 (a : Nat) : nI a + Int32.ofInt 4 = nI (a + 4) := by
  rw [show Int32.ofInt 4 = nI 4 by decide +kernel, nI_add]
theorem and15 (x : Int32) : ∃ v : Nat, v < 16 ∧ x &&& nI 15 = nI v := by
  refine ⟨(x.toBitVec &&& (nI 15).toBitVec).toNat, ?_, ?_⟩
  · rw [BitVec.toNat_and]
    refine Nat.lt_of_le_of_lt Nat.and_le_right ?_
    decide +kernel
  · apply Int32.toBitVec_inj.mp
    rw [Int32.toBitVec_and]
    show _ = BitVec.ofNat 32 _
    rw [BitVec.ofNat_toNat, BitVec.setWidth_eq]
theorem law_loop {w : WC} {k : KX} {ret : Option FieldType} {rm : Room} {L : Nat} {xs : Nat → Int32} (g : ew_G qS w 4 k qc_L_law qR_L qwg ret room_1) (hX : el_X w k L xs) (hL : L ≤ 2048) (hend : ∀ (lv : List (Option MV)) (sg : SG), ew_E qS w 4 k 494 lv [.inl (nI 1)] sg) : ∀ (d i : Nat) (sg : SG) (a : AS), L ≤ i + d → (4 ≤ L ∨ i = 0) → i ≤ L → xS sg a → mS sg a → ew_E qS w 4 k 18 [some (.inr 2000), some (.inr 0), some (.inr 41), some (.inl (nI i))] [] sg := by
  intro d
  induction d with
  | zero =>
    intro i sg a hd h4 hi hx hm
    have ei : i = L := by omega
    refine ew_iload_n g qd_L_law_18 rfl ?_
    refine ew_aload_n g qd_L_law_19 rfl ?_
    refine el_len g hX qd_L_law_20 ?_
    refine ew_iconst g qd_L_law_21 ic_4 ?_
    refine ew_isub g qd_L_law_22 ?_
    refine ew_icmp_gt g qd_L_law_23 (tgt := 493) (by decide) (fun _ => ?_) (fun hn => ?_)
    · refine ew_iconst g qd_L_law_493 ic_1 ?_
      exact hend _ _
    · refine absurd ?_ hn
      rcases h4 with h4 | h4
      · rw [pk_sub h4]
        exact nI_lt (by omega) (by omega)
      · have : L = 0 := by omega
        subst this
        subst ei
        decide +kernel
  | succ d ih =>
    intro i sg a hd h4 hi hx hm
    by_cases hin : i + 4 ≤ L
    · -- one call more
      have hnext : ∀ (sg' : SG) (a' : AS), xS sg' a' → mS sg' a' → ew_E qS w 4 k 487 [some (.inr 2000), some (.inr 0), some (.inr 41), some (.inl (nI i))] [] sg' := by
        intro sg' a' hx' hm'
        refine ew_iinc g qd_L_law_487 (by decide) rfl (ii_4 _) ?_
        refine ew_goto g qd_L_law_490 (tgt := 18) (by decide) ?_
        exact ih (i + 4) sg' a' (by omega) (Or.inl (by omega)) hin hx' hm'
      refine ew_iload_n g qd_L_law_18 rfl ?_
      refine ew_aload_n g qd_L_law_19 rfl ?_
      refine el_len g hX qd_L_law_20 ?_
      refine ew_iconst g qd_L_law_21 ic_4 ?_
      refine ew_isub g qd_L_law_22 ?_
      refine en_top (pk_sub (by omega)) ?_
      refine en_gt g qd_L_law_23 (tgt := 493) (by decide) (by omega) (by omega) (fun z => absurd z (by omega)) (fun _ => ?_)
      obtain ⟨v, v1, v2⟩ := and15 (xs i)
      refine ew_aload_n g qd_L_law_26 rfl ?_
      refine ew_iload_n g qd_L_law_27 rfl ?_
      refine el_ald g hX qd_L_law_28 (by omega) (by omega) rfl ?_
      refine ew_bipush g qd_L_law_29 bp_15 ?_
      refine ew_iand g qd_L_law_31 ?_
      refine en_top v2 ?_
      rcases (by omega : v = 0 ∨ v = 1 ∨ v = 2 ∨ v = 3 ∨ v = 4 ∨ v = 5 ∨ v = 6 ∨ v = 7 ∨ v = 8 ∨ v = 9 ∨ v = 10 ∨ v = 11 ∨ v = 12 ∨ v = 13 ∨ v = 14 ∨ v = 15) with rfl | rfl | rfl | rfl | rfl | rfl | rfl | rfl | rfl | rfl | rfl | rfl | rfl | rfl | rfl | rfl
      · refine ew_tswI g qd_L_law_32 (off := 68) (tgt := 100) (by decide +kernel) (by decide +kernel) (by decide +kernel) (by decide) ?_
        refine ew_aload_n g qd_L_law_100 rfl ?_
        refine ew_aload_n g qd_L_law_101 rfl ?_
        refine ew_iload_n g qd_L_law_102 rfl ?_
        refine ew_iconst g qd_L_law_103 ic_1 ?_
        refine ew_iadd g qd_L_law_104 ?_
        refine en_top (nI_add _ _) ?_
        refine el_ald g hX qd_L_law_105 (by omega) (by omega) rfl ?_
        refine ew_aload_n g qd_L_law_106 rfl ?_
        refine ew_iload_n g qd_L_law_107 rfl ?_
        refine ew_iconst g qd_L_law_108 ic_2 ?_
        refine ew_iadd g qd_L_law_109 ?_
        refine en_top (nI_add _ _) ?_
        refine el_ald g hX qd_L_law_110 (by omega) (by omega) rfl ?_
        refine ew_callV g qd_L_law_111 (k_X_add w k.2.1 sg hx (xs (i + 1)) (xs (i + 2))) qv_L_13 (by decide) rfl ⟨_, _, rfl⟩ rfl rfl (Nat.le_of_ble_eq_true rfl) ⟨rfl, rfl, by decide, by decide⟩ (fun v1 sg1 hv => ?_)
        obtain ⟨rfl, hx1, f1⟩ := hv
        refine ew_aload_n g qd_L_law_114 rfl ?_
        refine ew_aload_n g qd_L_law_115 rfl ?_
        refine ew_iload_n g qd_L_law_116 rfl ?_
        refine ew_iconst g qd_L_law_117 ic_1 ?_
        refine ew_iadd g qd_L_law_118 ?_
        refine en_top (nI_add _ _) ?_
        refine el_ald g hX qd_L_law_119 (by omega) (by omega) rfl ?_
        refine ew_aload_n g qd_L_law_120 rfl ?_
        refine ew_iload_n g qd_L_law_121 rfl ?_
        refine ew_iconst g qd_L_law_122 ic_2 ?_
        refine ew_iadd g qd_L_law_123 ?_
        refine en_top (nI_add _ _) ?_
        refine el_ald g hX qd_L_law_124 (by omega) (by omega) rfl ?_
        refine ew_callV g qd_L_law_125 (k_M_add w k.2.1 sg1 (mS_fr hm f1) (xs (i + 1)) (xs (i + 2))) qv_L_17 (by decide) rfl ⟨_, _, rfl⟩ rfl rfl (Nat.le_of_ble_eq_true rfl) ⟨rfl, rfl, by decide, by decide⟩ (fun v2 sg2 hv => ?_)
        obtain ⟨rfl, hm1, f2⟩ := hv
        refine ew_icmp_eq g qd_L_law_128 (tgt := 487) (by decide) (fun _ => ?_) (fun z => absurd rfl z)
        exact hnext sg2 _ (xS_fr hx1 (fun o ho => f2 o (Or.inl ho))) hm1
      · refine ew_tswI g qd_L_law_32 (off := 101) (tgt := 133) (by decide +kernel) (by decide +kernel) (by decide +kernel) (by decide) ?_
        refine ew_aload_n g qd_L_law_133 rfl ?_
        refine ew_callV g qd_L_law_134 (k_X_clear w k.2.1 sg hx) qv_L_18 (by decide) rfl ⟨_, _, rfl⟩ rfl rfl (Nat.le_of_ble_eq_true rfl) ⟨rfl, rfl, by decide, by decide⟩ (fun v1 sg1 hv => ?_)
        obtain ⟨rfl, hx1, f1⟩ := hv
        refine ew_aload_n g qd_L_law_137 rfl ?_
        refine ew_callV g qd_L_law_138 (k_M_clear w k.2.1 sg1 (mS_fr hm f1)) qv_L_21 (by decide) rfl ⟨_, _, rfl⟩ rfl rfl (Nat.le_of_ble_eq_true rfl) ⟨rfl, rfl, by decide, by decide⟩ (fun v2 sg2 hv => ?_)
        obtain ⟨rfl, hm1, f2⟩ := hv
        refine ew_goto g qd_L_law_141 (tgt := 487) (by decide) ?_
        exact hnext sg2 _ (xS_fr hx1 (fun o ho => f2 o (Or.inl ho))) hm1
      · refine ew_tswI g qd_L_law_32 (off := 112) (tgt := 144) (by decide +kernel) (by decide +kernel) (by decide +kernel) (by decide) ?_
        refine ew_aload_n g qd_L_law_144 rfl ?_
        refine ew_aload_n g qd_L_law_145 rfl ?_
        refine ew_iload_n g qd_L_law_146 rfl ?_
        refine ew_iconst g qd_L_law_147 ic_1 ?_
        refine ew_iadd g qd_L_law_148 ?_
        refine en_top (nI_add _ _) ?_
        refine el_ald g hX qd_L_law_149 (by omega) (by omega) rfl ?_
        refine ew_aload_n g qd_L_law_150 rfl ?_
        refine ew_iload_n g qd_L_law_151 rfl ?_
        refine ew_iconst g qd_L_law_152 ic_2 ?_
        refine ew_iadd g qd_L_law_153 ?_
        refine en_top (nI_add _ _) ?_
        refine el_ald g hX qd_L_law_154 (by omega) (by omega) rfl ?_
        refine ew_callV g qd_L_law_155 (k_X_start w k.2.1 sg hx (xs (i + 1)) (xs (i + 2))) qv_L_22 (by decide) rfl ⟨_, _, rfl⟩ rfl rfl (Nat.le_of_ble_eq_true rfl) ⟨rfl, rfl, by decide, by decide⟩ (fun v1 sg1 hv => ?_)
        obtain ⟨rfl, hx1, f1⟩ := hv
        refine ew_aload_n g qd_L_law_158 rfl ?_
        refine ew_aload_n g qd_L_law_159 rfl ?_
        refine ew_iload_n g qd_L_law_160 rfl ?_
        refine ew_iconst g qd_L_law_161 ic_1 ?_
        refine ew_iadd g qd_L_law_162 ?_
        refine en_top (nI_add _ _) ?_
        refine el_ald g hX qd_L_law_163 (by omega) (by omega) rfl ?_
        refine ew_aload_n g qd_L_law_164 rfl ?_
        refine ew_iload_n g qd_L_law_165 rfl ?_
        refine ew_iconst g qd_L_law_166 ic_2 ?_
        refine ew_iadd g qd_L_law_167 ?_
        refine en_top (nI_add _ _) ?_
        refine el_ald g hX qd_L_law_168 (by omega) (by omega) rfl ?_
        refine ew_callV g qd_L_law_169 (k_M_start w k.2.1 sg1 (mS_fr hm f1) (xs (i + 1)) (xs (i + 2))) qv_L_26 (by decide) rfl ⟨_, _, rfl⟩ rfl rfl (Nat.le_of_ble_eq_true rfl) ⟨rfl, rfl, by decide, by decide⟩ (fun v2 sg2 hv => ?_)
        obtain ⟨rfl, hm1, f2⟩ := hv
        refine ew_icmp_eq g qd_L_law_172 (tgt := 487) (by decide) (fun _ => ?_) (fun z => absurd rfl z)
        exact hnext sg2 _ (xS_fr hx1 (fun o ho => f2 o (Or.inl ho))) hm1
      · refine ew_tswI g qd_L_law_32 (off := 145) (tgt := 177) (by decide +kernel) (by decide +kernel) (by decide +kernel) (by decide) ?_
        refine ew_aload_n g qd_L_law_177 rfl ?_
        refine ew_aload_n g qd_L_law_178 rfl ?_
        refine ew_iload_n g qd_L_law_179 rfl ?_
        refine ew_iconst g qd_L_law_180 ic_1 ?_
        refine ew_iadd g qd_L_law_181 ?_
        refine en_top (nI_add _ _) ?_
        refine el_ald g hX qd_L_law_182 (by omega) (by omega) rfl ?_
        refine ew_callV g qd_L_law_183 (k_X_explore w k.2.1 sg hx (xs (i + 1))) qv_L_27 (by decide) rfl ⟨_, _, rfl⟩ rfl rfl (Nat.le_of_ble_eq_true rfl) ⟨rfl, rfl, by decide, by decide⟩ (fun v1 sg1 hv => ?_)
        obtain ⟨rfl, hx1, f1⟩ := hv
        refine ew_aload_n g qd_L_law_186 rfl ?_
        refine ew_aload_n g qd_L_law_187 rfl ?_
        refine ew_iload_n g qd_L_law_188 rfl ?_
        refine ew_iconst g qd_L_law_189 ic_1 ?_
        refine ew_iadd g qd_L_law_190 ?_
        refine en_top (nI_add _ _) ?_
        refine el_ald g hX qd_L_law_191 (by omega) (by omega) rfl ?_
        refine ew_callV g qd_L_law_192 (k_M_explore w k.2.1 sg1 (mS_fr hm f1) (xs (i + 1))) qv_L_31 (by decide) rfl ⟨_, _, rfl⟩ rfl rfl (Nat.le_of_ble_eq_true rfl) ⟨rfl, rfl, by decide, by decide⟩ (fun v2 sg2 hv => ?_)
        obtain ⟨rfl, hm1, f2⟩ := hv
        refine ew_icmp_eq g qd_L_law_195 (tgt := 487) (by decide) (fun _ => ?_) (fun z => absurd rfl z)
        exact hnext sg2 _ (xS_fr hx1 (fun o ho => f2 o (Or.inl ho))) hm1
      · refine ew_tswI g qd_L_law_32 (off := 168) (tgt := 200) (by decide +kernel) (by decide +kernel) (by decide +kernel) (by decide) ?_
        refine ew_aload_n g qd_L_law_200 rfl ?_
        refine ew_aload_n g qd_L_law_201 rfl ?_
        refine ew_iload_n g qd_L_law_202 rfl ?_
        refine ew_iconst g qd_L_law_203 ic_1 ?_
        refine ew_iadd g qd_L_law_204 ?_
        refine en_top (nI_add _ _) ?_
        refine el_ald g hX qd_L_law_205 (by omega) (by omega) rfl ?_
        refine ew_callV g qd_L_law_206 (k_X_inputs w k.2.1 sg hx.2.2.2.1 (xs (i + 1))) qv_L_32 (by decide) rfl ⟨_, _, rfl⟩ rfl rfl (Nat.le_of_ble_eq_true rfl) ⟨rfl, rfl, by decide, by decide⟩ (fun v1 sg1 hv => ?_)
        obtain ⟨rfl, rfl⟩ := hv
        refine ew_aload_n g qd_L_law_209 rfl ?_
        refine ew_aload_n g qd_L_law_210 rfl ?_
        refine ew_iload_n g qd_L_law_211 rfl ?_
        refine ew_iconst g qd_L_law_212 ic_1 ?_
        refine ew_iadd g qd_L_law_213 ?_
        refine en_top (nI_add _ _) ?_
        refine el_ald g hX qd_L_law_214 (by omega) (by omega) rfl ?_
        refine ew_callV g qd_L_law_215 (k_M_inputs w k.2.1 sg1 hm.2.2.2.1 (xs (i + 1))) qv_L_35 (by decide) rfl ⟨_, _, rfl⟩ rfl rfl (Nat.le_of_ble_eq_true rfl) ⟨rfl, rfl, by decide, by decide⟩ (fun v2 sg2 hv => ?_)
        obtain ⟨rfl, rfl⟩ := hv
        refine ew_icmp_eq g qd_L_law_218 (tgt := 487) (by decide) (fun _ => ?_) (fun z => absurd rfl z)
        exact hnext sg2 _ hx hm
      · refine ew_tswI g qd_L_law_32 (off := 191) (tgt := 223) (by decide +kernel) (by decide +kernel) (by decide +kernel) (by decide) ?_
        refine ew_aload_n g qd_L_law_223 rfl ?_
        refine ew_aload_n g qd_L_law_224 rfl ?_
        refine ew_iload_n g qd_L_law_225 rfl ?_
        refine ew_iconst g qd_L_law_226 ic_1 ?_
        refine ew_iadd g qd_L_law_227 ?_
        refine en_top (nI_add _ _) ?_
        refine el_ald g hX qd_L_law_228 (by omega) (by omega) rfl ?_
        refine ew_callV g qd_L_law_229 (k_X_witness w k.2.1 sg hx.2.2.2.1 (xs (i + 1))) qv_L_36 (by decide) rfl ⟨_, _, rfl⟩ rfl rfl (Nat.le_of_ble_eq_true rfl) ⟨rfl, rfl, by decide, by decide⟩ (fun v1 sg1 hv => ?_)
        obtain ⟨rfl, rfl⟩ := hv
        refine ew_aload_n g qd_L_law_232 rfl ?_
        refine ew_aload_n g qd_L_law_233 rfl ?_
        refine ew_iload_n g qd_L_law_234 rfl ?_
        refine ew_iconst g qd_L_law_235 ic_1 ?_
        refine ew_iadd g qd_L_law_236 ?_
        refine en_top (nI_add _ _) ?_
        refine el_ald g hX qd_L_law_237 (by omega) (by omega) rfl ?_
        refine ew_callV g qd_L_law_238 (k_M_witness w k.2.1 sg1 hm.2.2.2.1 (xs (i + 1))) qv_L_39 (by decide) rfl ⟨_, _, rfl⟩ rfl rfl (Nat.le_of_ble_eq_true rfl) ⟨rfl, rfl, by decide, by decide⟩ (fun v2 sg2 hv => ?_)
        obtain ⟨rfl, rfl⟩ := hv
        refine ew_icmp_eq g qd_L_law_241 (tgt := 487) (by decide) (fun _ => ?_) (fun z => absurd rfl z)
        exact hnext sg2 _ hx hm
      · refine ew_tswI g qd_L_law_32 (off := 214) (tgt := 246) (by decide +kernel) (by decide +kernel) (by decide +kernel) (by decide) ?_
        refine ew_aload_n g qd_L_law_246 rfl ?_
        refine ew_aload_n g qd_L_law_247 rfl ?_
        refine ew_iload_n g qd_L_law_248 rfl ?_
        refine ew_iconst g qd_L_law_249 ic_1 ?_
        refine ew_iadd g qd_L_law_250 ?_
        refine en_top (nI_add _ _) ?_
        refine el_ald g hX qd_L_law_251 (by omega) (by omega) rfl ?_
        refine ew_aload_n g qd_L_law_252 rfl ?_
        refine ew_iload_n g qd_L_law_253 rfl ?_
        refine ew_iconst g qd_L_law_254 ic_2 ?_
        refine ew_iadd g qd_L_law_255 ?_
        refine en_top (nI_add _ _) ?_
        refine el_ald g hX qd_L_law_256 (by omega) (by omega) rfl ?_
        refine ew_callV g qd_L_law_257 (k_X_end w k.2.1 sg hx.2.2.2.1 (xs (i + 1)) (xs (i + 2))) qv_L_40 (by decide) rfl ⟨_, _, rfl⟩ rfl rfl (Nat.le_of_ble_eq_true rfl) ⟨rfl, rfl, by decide, by decide⟩ (fun v1 sg1 hv => ?_)
        obtain ⟨rfl, rfl⟩ := hv
        refine ew_aload_n g qd_L_law_260 rfl ?_
        refine ew_aload_n g qd_L_law_261 rfl ?_
        refine ew_iload_n g qd_L_law_262 rfl ?_
        refine ew_iconst g qd_L_law_263 ic_1 ?_
        refine ew_iadd g qd_L_law_264 ?_
        refine en_top (nI_add _ _) ?_
        refine el_ald g hX qd_L_law_265 (by omega) (by omega) rfl ?_
        refine ew_aload_n g qd_L_law_266 rfl ?_
        refine ew_iload_n g qd_L_law_267 rfl ?_
        refine ew_iconst g qd_L_law_268 ic_2 ?_
        refine ew_iadd g qd_L_law_269 ?_
        refine en_top (nI_add _ _) ?_
        refine el_ald g hX qd_L_law_270 (by omega) (by omega) rfl ?_
        refine ew_callV g qd_L_law_271 (k_M_end w k.2.1 sg1 hm.2.2.2.1 (xs (i + 1)) (xs (i + 2))) qv_L_43 (by decide) rfl ⟨_, _, rfl⟩ rfl rfl (Nat.le_of_ble_eq_true rfl) ⟨rfl, rfl, by decide, by decide⟩ (fun v2 sg2 hv => ?_)
        obtain ⟨rfl, rfl⟩ := hv
        refine ew_icmp_eq g qd_L_law_274 (tgt := 487) (by decide) (fun _ => ?_) (fun z => absurd rfl z)
        exact hnext sg2 _ hx hm
      · refine ew_tswI g qd_L_law_32 (off := 247) (tgt := 279) (by decide +kernel) (by decide +kernel) (by decide +kernel) (by decide) ?_
        refine ew_aload_n g qd_L_law_279 rfl ?_
        refine ew_aload_n g qd_L_law_280 rfl ?_
        refine ew_iload_n g qd_L_law_281 rfl ?_
        refine ew_iconst g qd_L_law_282 ic_1 ?_
        refine ew_iadd g qd_L_law_283 ?_
        refine en_top (nI_add _ _) ?_
        refine el_ald g hX qd_L_law_284 (by omega) (by omega) rfl ?_
        refine ew_aload_n g qd_L_law_285 rfl ?_
        refine ew_iload_n g qd_L_law_286 rfl ?_
        refine ew_iconst g qd_L_law_287 ic_2 ?_
        refine ew_iadd g qd_L_law_288 ?_
        refine en_top (nI_add _ _) ?_
        refine el_ald g hX qd_L_law_289 (by omega) (by omega) rfl ?_
        refine ew_aload_n g qd_L_law_290 rfl ?_
        refine ew_iload_n g qd_L_law_291 rfl ?_
        refine ew_iconst g qd_L_law_292 ic_3 ?_
        refine ew_iadd g qd_L_law_293 ?_
        refine en_top (nI_add _ _) ?_
        refine el_ald g hX qd_L_law_294 (by omega) (by omega) rfl ?_
        refine ew_callV g qd_L_law_295 (k_X_step w k.2.1 sg hx.2.2.2.1 (xs (i + 1)) (xs (i + 2)) (xs (i + 3))) qv_L_44 (by decide) rfl ⟨_, _, rfl⟩ rfl rfl (Nat.le_of_ble_eq_true rfl) ⟨rfl, rfl, by decide, by decide⟩ (fun v1 sg1 hv => ?_)
        obtain ⟨rfl, rfl⟩ := hv
        refine ew_aload_n g qd_L_law_298 rfl ?_
        refine ew_aload_n g qd_L_law_299 rfl ?_
        refine ew_iload_n g qd_L_law_300 rfl ?_
        refine ew_iconst g qd_L_law_301 ic_1 ?_
        refine ew_iadd g qd_L_law_302 ?_
        refine en_top (nI_add _ _) ?_
        refine el_ald g hX qd_L_law_303 (by omega) (by omega) rfl ?_
        refine ew_aload_n g qd_L_law_304 rfl ?_
        refine ew_iload_n g qd_L_law_305 rfl ?_
        refine ew_iconst g qd_L_law_306 ic_2 ?_
        refine ew_iadd g qd_L_law_307 ?_
        refine en_top (nI_add _ _) ?_
        refine el_ald g hX qd_L_law_308 (by omega) (by omega) rfl ?_
        refine ew_aload_n g qd_L_law_309 rfl ?_
        refine ew_iload_n g qd_L_law_310 rfl ?_
        refine ew_iconst g qd_L_law_311 ic_3 ?_
        refine ew_iadd g qd_L_law_312 ?_
        refine en_top (nI_add _ _) ?_
        refine el_ald g hX qd_L_law_313 (by omega) (by omega) rfl ?_
        refine ew_callV g qd_L_law_314 (k_M_step w k.2.1 sg1 hm.2.2.2.1 (xs (i + 1)) (xs (i + 2)) (xs (i + 3))) qv_L_48 (by decide) rfl ⟨_, _, rfl⟩ rfl rfl (Nat.le_of_ble_eq_true rfl) ⟨rfl, rfl, by decide, by decide⟩ (fun v2 sg2 hv => ?_)
        obtain ⟨rfl, rfl⟩ := hv
        refine ew_icmp_eq g qd_L_law_317 (tgt := 487) (by decide) (fun _ => ?_) (fun z => absurd rfl z)
        exact hnext sg2 _ hx hm
      · refine ew_tswI g qd_L_law_32 (off := 290) (tgt := 322) (by decide +kernel) (by decide +kernel) (by decide +kernel) (by decide) ?_
        refine ew_aload_n g qd_L_law_322 rfl ?_
        refine ew_aload_n g qd_L_law_323 rfl ?_
        refine ew_iload_n g qd_L_law_324 rfl ?_
        refine ew_iconst g qd_L_law_325 ic_1 ?_
        refine ew_iadd g qd_L_law_326 ?_
        refine en_top (nI_add _ _) ?_
        refine el_ald g hX qd_L_law_327 (by omega) (by omega) rfl ?_
        refine ew_aload_n g qd_L_law_328 rfl ?_
        refine ew_iload_n g qd_L_law_329 rfl ?_
        refine ew_iconst g qd_L_law_330 ic_2 ?_
        refine ew_iadd g qd_L_law_331 ?_
        refine en_top (nI_add _ _) ?_
        refine el_ald g hX qd_L_law_332 (by omega) (by omega) rfl ?_
        refine ew_callV g qd_L_law_333 (k_X_left w k.2.1 sg hx.2.2.2.1 (xs (i + 1)) (xs (i + 2))) qv_L_49 (by decide) rfl ⟨_, _, rfl⟩ rfl rfl (Nat.le_of_ble_eq_true rfl) ⟨rfl, rfl, by decide, by decide⟩ (fun v1 sg1 hv => ?_)
        obtain ⟨rfl, rfl⟩ := hv
        refine ew_aload_n g qd_L_law_336 rfl ?_
        refine ew_aload_n g qd_L_law_337 rfl ?_
        refine ew_iload_n g qd_L_law_338 rfl ?_
        refine ew_iconst g qd_L_law_339 ic_1 ?_
        refine ew_iadd g qd_L_law_340 ?_
        refine en_top (nI_add _ _) ?_
        refine el_ald g hX qd_L_law_341 (by omega) (by omega) rfl ?_
        refine ew_aload_n g qd_L_law_342 rfl ?_
        refine ew_iload_n g qd_L_law_343 rfl ?_
        refine ew_iconst g qd_L_law_344 ic_2 ?_
        refine ew_iadd g qd_L_law_345 ?_
        refine en_top (nI_add _ _) ?_
        refine el_ald g hX qd_L_law_346 (by omega) (by omega) rfl ?_
        refine ew_callV g qd_L_law_347 (k_M_left w k.2.1 sg1 hm.2.2.2.1 (xs (i + 1)) (xs (i + 2))) qv_L_52 (by decide) rfl ⟨_, _, rfl⟩ rfl rfl (Nat.le_of_ble_eq_true rfl) ⟨rfl, rfl, by decide, by decide⟩ (fun v2 sg2 hv => ?_)
        obtain ⟨rfl, rfl⟩ := hv
        refine ew_icmp_eq g qd_L_law_350 (tgt := 487) (by decide) (fun _ => ?_) (fun z => absurd rfl z)
        exact hnext sg2 _ hx hm
      · refine ew_tswI g qd_L_law_32 (off := 323) (tgt := 355) (by decide +kernel) (by decide +kernel) (by decide +kernel) (by decide) ?_
        refine ew_aload_n g qd_L_law_355 rfl ?_
        refine ew_aload_n g qd_L_law_356 rfl ?_
        refine ew_iload_n g qd_L_law_357 rfl ?_
        refine ew_iconst g qd_L_law_358 ic_1 ?_
        refine ew_iadd g qd_L_law_359 ?_
        refine en_top (nI_add _ _) ?_
        refine el_ald g hX qd_L_law_360 (by omega) (by omega) rfl ?_
        refine ew_aload_n g qd_L_law_361 rfl ?_
        refine ew_iload_n g qd_L_law_362 rfl ?_
        refine ew_iconst g qd_L_law_363 ic_2 ?_
        refine ew_iadd g qd_L_law_364 ?_
        refine en_top (nI_add _ _) ?_
        refine el_ald g hX qd_L_law_365 (by omega) (by omega) rfl ?_
        refine ew_callV g qd_L_law_366 (k_X_finding w k.2.1 sg hx.2.2.2.1 (xs (i + 1)) (xs (i + 2))) qv_L_53 (by decide) rfl ⟨_, _, rfl⟩ rfl rfl (Nat.le_of_ble_eq_true rfl) ⟨rfl, rfl, by decide, by decide⟩ (fun v1 sg1 hv => ?_)
        obtain ⟨rfl, rfl⟩ := hv
        refine ew_aload_n g qd_L_law_369 rfl ?_
        refine ew_aload_n g qd_L_law_370 rfl ?_
        refine ew_iload_n g qd_L_law_371 rfl ?_
        refine ew_iconst g qd_L_law_372 ic_1 ?_
        refine ew_iadd g qd_L_law_373 ?_
        refine en_top (nI_add _ _) ?_
        refine el_ald g hX qd_L_law_374 (by omega) (by omega) rfl ?_
        refine ew_aload_n g qd_L_law_375 rfl ?_
        refine ew_iload_n g qd_L_law_376 rfl ?_
        refine ew_iconst g qd_L_law_377 ic_2 ?_
        refine ew_iadd g qd_L_law_378 ?_
        refine en_top (nI_add _ _) ?_
        refine el_ald g hX qd_L_law_379 (by omega) (by omega) rfl ?_
        refine ew_callV g qd_L_law_380 (k_M_finding w k.2.1 sg1 hm.2.2.2.1 (xs (i + 1)) (xs (i + 2))) qv_L_56 (by decide) rfl ⟨_, _, rfl⟩ rfl rfl (Nat.le_of_ble_eq_true rfl) ⟨rfl, rfl, by decide, by decide⟩ (fun v2 sg2 hv => ?_)
        obtain ⟨rfl, rfl⟩ := hv
        refine ew_icmp_eq g qd_L_law_383 (tgt := 487) (by decide) (fun _ => ?_) (fun z => absurd rfl z)
        exact hnext sg2 _ hx hm
      · refine ew_tswI g qd_L_law_32 (off := 356) (tgt := 388) (by decide +kernel) (by decide +kernel) (by decide +kernel) (by decide) ?_
        refine ew_aload_n g qd_L_law_388 rfl ?_
        refine ew_aload_n g qd_L_law_389 rfl ?_
        refine ew_iload_n g qd_L_law_390 rfl ?_
        refine ew_iconst g qd_L_law_391 ic_1 ?_
        refine ew_iadd g qd_L_law_392 ?_
        refine en_top (nI_add _ _) ?_
        refine el_ald g hX qd_L_law_393 (by omega) (by omega) rfl ?_
        refine ew_aload_n g qd_L_law_394 rfl ?_
        refine ew_iload_n g qd_L_law_395 rfl ?_
        refine ew_iconst g qd_L_law_396 ic_2 ?_
        refine ew_iadd g qd_L_law_397 ?_
        refine en_top (nI_add _ _) ?_
        refine el_ald g hX qd_L_law_398 (by omega) (by omega) rfl ?_
        refine ew_aload_n g qd_L_law_399 rfl ?_
        refine ew_iload_n g qd_L_law_400 rfl ?_
        refine ew_iconst g qd_L_law_401 ic_3 ?_
        refine ew_iadd g qd_L_law_402 ?_
        refine en_top (nI_add _ _) ?_
        refine el_ald g hX qd_L_law_403 (by omega) (by omega) rfl ?_
        refine ew_callV g qd_L_law_404 (k_X_risk w k.2.1 sg hx.2.2.2.1 (xs (i + 1)) (xs (i + 2)) (xs (i + 3))) qv_L_57 (by decide) rfl ⟨_, _, rfl⟩ rfl rfl (Nat.le_of_ble_eq_true rfl) ⟨rfl, rfl, by decide, by decide⟩ (fun v1 sg1 hv => ?_)
        obtain ⟨rfl, rfl⟩ := hv
        refine ew_aload_n g qd_L_law_407 rfl ?_
        refine ew_aload_n g qd_L_law_408 rfl ?_
        refine ew_iload_n g qd_L_law_409 rfl ?_
        refine ew_iconst g qd_L_law_410 ic_1 ?_
        refine ew_iadd g qd_L_law_411 ?_
        refine en_top (nI_add _ _) ?_
        refine el_ald g hX qd_L_law_412 (by omega) (by omega) rfl ?_
        refine ew_aload_n g qd_L_law_413 rfl ?_
        refine ew_iload_n g qd_L_law_414 rfl ?_
        refine ew_iconst g qd_L_law_415 ic_2 ?_
        refine ew_iadd g qd_L_law_416 ?_
        refine en_top (nI_add _ _) ?_
        refine el_ald g hX qd_L_law_417 (by omega) (by omega) rfl ?_
        refine ew_aload_n g qd_L_law_418 rfl ?_
        refine ew_iload_n g qd_L_law_419 rfl ?_
        refine ew_iconst g qd_L_law_420 ic_3 ?_
        refine ew_iadd g qd_L_law_421 ?_
        refine en_top (nI_add _ _) ?_
        refine el_ald g hX qd_L_law_422 (by omega) (by omega) rfl ?_
        refine ew_callV g qd_L_law_423 (k_M_risk w k.2.1 sg1 hm.2.2.2.1 (xs (i + 1)) (xs (i + 2)) (xs (i + 3))) qv_L_60 (by decide) rfl ⟨_, _, rfl⟩ rfl rfl (Nat.le_of_ble_eq_true rfl) ⟨rfl, rfl, by decide, by decide⟩ (fun v2 sg2 hv => ?_)
        obtain ⟨rfl, rfl⟩ := hv
        refine ew_icmp_eq g qd_L_law_426 (tgt := 487) (by decide) (fun _ => ?_) (fun z => absurd rfl z)
        exact hnext sg2 _ hx hm
      · refine ew_tswI g qd_L_law_32 (off := 399) (tgt := 431) (by decide +kernel) (by decide +kernel) (by decide +kernel) (by decide) ?_
        refine ew_aload_n g qd_L_law_431 rfl ?_
        refine ew_aload_n g qd_L_law_432 rfl ?_
        refine ew_iload_n g qd_L_law_433 rfl ?_
        refine ew_iconst g qd_L_law_434 ic_1 ?_
        refine ew_iadd g qd_L_law_435 ?_
        refine en_top (nI_add _ _) ?_
        refine el_ald g hX qd_L_law_436 (by omega) (by omega) rfl ?_
        refine ew_aload_n g qd_L_law_437 rfl ?_
        refine ew_iload_n g qd_L_law_438 rfl ?_
        refine ew_iconst g qd_L_law_439 ic_2 ?_
        refine ew_iadd g qd_L_law_440 ?_
        refine en_top (nI_add _ _) ?_
        refine el_ald g hX qd_L_law_441 (by omega) (by omega) rfl ?_
        refine ew_callV g qd_L_law_442 (k_X_replay w k.2.1 sg hx (xs (i + 1)) (xs (i + 2))) qv_L_61 (by decide) rfl ⟨_, _, rfl⟩ rfl rfl (Nat.le_of_ble_eq_true rfl) ⟨rfl, rfl, by decide, by decide⟩ (fun v1 sg1 hv => ?_)
        obtain ⟨rfl, hx1, f1⟩ := hv
        refine ew_aload_n g qd_L_law_445 rfl ?_
        refine ew_aload_n g qd_L_law_446 rfl ?_
        refine ew_iload_n g qd_L_law_447 rfl ?_
        refine ew_iconst g qd_L_law_448 ic_1 ?_
        refine ew_iadd g qd_L_law_449 ?_
        refine en_top (nI_add _ _) ?_
        refine el_ald g hX qd_L_law_450 (by omega) (by omega) rfl ?_
        refine ew_aload_n g qd_L_law_451 rfl ?_
        refine ew_iload_n g qd_L_law_452 rfl ?_
        refine ew_iconst g qd_L_law_453 ic_2 ?_
        refine ew_iadd g qd_L_law_454 ?_
        refine en_top (nI_add _ _) ?_
        refine el_ald g hX qd_L_law_455 (by omega) (by omega) rfl ?_
        refine ew_callV g qd_L_law_456 (k_M_replay w k.2.1 sg1 (mS_fr hm f1) (xs (i + 1)) (xs (i + 2))) qv_L_64 (by decide) rfl ⟨_, _, rfl⟩ rfl rfl (Nat.le_of_ble_eq_true rfl) ⟨rfl, rfl, by decide, by decide⟩ (fun v2 sg2 hv => ?_)
        obtain ⟨rfl, hm1, f2⟩ := hv
        refine ew_icmp_eq g qd_L_law_459 (tgt := 487) (by decide) (fun _ => ?_) (fun z => absurd rfl z)
        exact hnext sg2 _ (xS_fr hx1 (fun o ho => f2 o (Or.inl ho))) hm1
      · refine ew_tswI g qd_L_law_32 (off := 432) (tgt := 464) (by decide +kernel) (by decide +kernel) (by decide +kernel) (by decide) ?_
        refine ew_aload_n g qd_L_law_464 rfl ?_
        refine ew_aload_n g qd_L_law_465 rfl ?_
        refine ew_iload_n g qd_L_law_466 rfl ?_
        refine ew_iconst g qd_L_law_467 ic_1 ?_
        refine ew_iadd g qd_L_law_468 ?_
        refine en_top (nI_add _ _) ?_
        refine el_ald g hX qd_L_law_469 (by omega) (by omega) rfl ?_
        refine ew_callV g qd_L_law_470 (k_X_replayed w k.2.1 sg hx (xs (i + 1))) qv_L_65 (by decide) rfl ⟨_, _, rfl⟩ rfl rfl (Nat.le_of_ble_eq_true rfl) ⟨rfl, rfl, by decide, by decide⟩ (fun v1 sg1 hv => ?_)
        obtain ⟨rfl, rfl⟩ := hv
        refine ew_aload_n g qd_L_law_473 rfl ?_
        refine ew_aload_n g qd_L_law_474 rfl ?_
        refine ew_iload_n g qd_L_law_475 rfl ?_
        refine ew_iconst g qd_L_law_476 ic_1 ?_
        refine ew_iadd g qd_L_law_477 ?_
        refine en_top (nI_add _ _) ?_
        refine el_ald g hX qd_L_law_478 (by omega) (by omega) rfl ?_
        refine ew_callV g qd_L_law_479 (k_M_replayed w k.2.1 sg1 hm (xs (i + 1))) qv_L_68 (by decide) rfl ⟨_, _, rfl⟩ rfl rfl (Nat.le_of_ble_eq_true rfl) ⟨rfl, rfl, by decide, by decide⟩ (fun v2 sg2 hv => ?_)
        obtain ⟨rfl, rfl⟩ := hv
        refine ew_icmp_eq g qd_L_law_482 (tgt := 487) (by decide) (fun _ => ?_) (fun z => absurd rfl z)
        exact hnext sg2 _ hx hm
      · refine ew_tswO g qd_L_law_32 (tgt := 487) (by decide +kernel) (by decide) ?_
        exact hnext sg a hx hm
      · refine ew_tswO g qd_L_law_32 (tgt := 487) (by decide +kernel) (by decide) ?_
        exact hnext sg a hx hm
      · refine ew_tswO g qd_L_law_32 (tgt := 487) (by decide +kernel) (by decide) ?_
        exact hnext sg a hx hm
    · refine ew_iload_n g qd_L_law_18 rfl ?_
      refine ew_aload_n g qd_L_law_19 rfl ?_
      refine el_len g hX qd_L_law_20 ?_
      refine ew_iconst g qd_L_law_21 ic_4 ?_
      refine ew_isub g qd_L_law_22 ?_
      refine ew_icmp_gt g qd_L_law_23 (tgt := 493) (by decide) (fun _ => ?_) (fun hn => ?_)
      · refine ew_iconst g qd_L_law_493 ic_1 ?_
        exact hend _ _
      · refine absurd ?_ hn
        rcases h4 with h4 | h4
        · rw [pk_sub h4]
          exact nI_lt (by omega) (by omega)
        · subst h4
          rcases (by omega : L = 0 ∨ L = 1 ∨ L = 2 ∨ L = 3) with rfl | rfl | rfl | rfl <;> decide +kernel
