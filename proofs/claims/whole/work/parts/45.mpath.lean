def pK (sg : SG) (p : Nat) (kk : Nat → List Nat × Nat) : Prop := ∀ t, t < 2 → sg 52 (2 * p + t) = nI (kk t).1.length ∧ (kk t).1.length ≤ 41 ∧ sg 53 (2 * p + t) = nI (kk t).2 ∧ ∀ i, i < (kk t).1.length → sg 51 (82 * p + (41 * t + i)) = nI ((kk t).1.getD i 0)
def kB (kk : Nat → List Nat × Nat) : Prop := ∀ t, (kk t).2 ≤ 5 ∧ ∀ x, x ∈ (kk t).1 → x < 32
theorem getD_b {l : List Nat} (h : ∀ x, x ∈ l → x < 32) (i : Nat) : l.getD i 0 < 32 := by
  by_cases hi : i < l.length
  · have : l.getD i 0 = l[i] := by simp [hi]
    rw [this]
    exact h _ (List.getElem_mem hi)
  · have : l.getD i 0 = 0 := by simp [Nat.le_of_not_lt hi]
    rw [this]; decide
theorem k_M_goes (w : WC) (l : Launch) (sg : SG) {p : Nat} {kk cur : Nat → List Nat × Nat} (hp4 : p < 40) (hk : pK sg p kk) (hkb : kB kk) (hc : ∀ t, t < 2 → mW sg t (cur t).1 ∧ sg 49 t = nI (cur t).2) (hcb : kB cur) : ew_M qS w l qy_M_goes qw_M_goes qr_M_goes [.inr 41, .inl (nI p)] sg (fun v sg' => (((∀ t, t < 2 → kk t = cur t) ∧ v = some (.inl (nI 1))) ∨ (¬ (∀ t, t < 2 → kk t = cur t) ∧ v = some (.inl (nI 0)))) ∧ sg' = sg) := by
  refine ew_entry (ws' := qwg) (own := qR_M) (cc := qc_M_goes) (nL := 4) (ret := some .boolean) qnk (by decide) rfl rfl (Nat.le_of_ble_eq_true rfl) ?_
  intro k g hp
  have outer : ∀ (d t : Nat) (x3 : Option MV), t + d = 2 → (∀ u, u < t → kk u = cur u) → ew_E qS w 4 k 2 [some (.inr 41), some (.inl (nI p)), some (.inl (nI t)), x3] [] sg := by
    intro d
    induction d with
    | zero =>
      intro t x3 ht hinv
      refine ew_iload_n g qd_M_goes_2 rfl ?_
      refine ew_iconst g qd_M_goes_3 ic_2 ?_
      refine en_ge g qd_M_goes_4 (tgt := 101) (by decide) (by omega) (by omega) (fun hz => ?_) (fun hz => ?_)
      · refine ew_iconst g qd_M_goes_101 ic_1 ?_
        refine ew_zret g qd_M_goes_102 hp (by first | exact bI_nar _ | decide +kernel) ?_
        exact ⟨Or.inl ⟨fun u hu => hinv u (by omega), rfl⟩, rfl⟩
      · omega
    | succ d ih =>
      intro t x3 ht hinv
      refine ew_iload_n g qd_M_goes_2 rfl ?_
      refine ew_iconst g qd_M_goes_3 ic_2 ?_
      refine en_ge g qd_M_goes_4 (tgt := 101) (by decide) (by omega) (by omega) (fun hz => ?_) (fun hz => ?_)
      · omega
      · obtain ⟨k1, k2, k3, k4⟩ := hk t hz
        obtain ⟨⟨c1, c2, c3⟩, c4⟩ := hc t hz
        obtain ⟨kb1, kb2⟩ := hkb t
        obtain ⟨cb1, cb2⟩ := hcb t
        have hno : ¬ kk t = cur t → ew_E qS w 4 k 45 [some (.inr 41), some (.inl (nI p)), some (.inl (nI t)), x3] [] sg := by
          intro hne
          refine ew_iconst g qd_M_goes_45 ic_0 ?_
          refine ew_zret g qd_M_goes_46 hp (by first | exact bI_nar _ | decide +kernel) ?_
          exact ⟨Or.inr ⟨fun z => hne (z t hz), rfl⟩, rfl⟩
        refine ew_aload_n g qd_M_goes_7 rfl ?_
        refine ew_getR g qd_M_goes_8 qf_M_32 (by decide) rfl rfl ?_
        refine ew_iload_n g qd_M_goes_11 rfl ?_
        refine en_iald g qd_M_goes_12 (by decide) rfl (by omega) (by omega) c1 ?_
        refine ew_aload_n g qd_M_goes_13 rfl ?_
        refine ew_getR g qd_M_goes_14 qf_M_44 (by decide) rfl rfl ?_
        refine ew_iconst g qd_M_goes_17 ic_2 ?_
        refine ew_iload_n g qd_M_goes_18 rfl ?_
        refine ew_imul g qd_M_goes_19 ?_
        refine en_top (pk_mul _ _) ?_
        refine ew_iload_n g qd_M_goes_20 rfl ?_
        refine ew_iadd g qd_M_goes_21 ?_
        refine en_top (nI_add _ _) ?_
        refine en_iald g qd_M_goes_22 (by decide) rfl (by omega) (by omega) k1 ?_
        refine en_ne g qd_M_goes_23 (tgt := 45) (by decide) (by omega) (by omega) (fun hl => ?_) (fun hl => ?_)
        · exact hno (fun z => hl (by rw [z]))
        · refine ew_aload_n g qd_M_goes_26 rfl ?_
          refine ew_getR g qd_M_goes_27 qf_M_35 (by decide) rfl rfl ?_
          refine ew_iload_n g qd_M_goes_30 rfl ?_
          refine en_iald g qd_M_goes_31 (by decide) rfl (by omega) (by omega) c4 ?_
          refine ew_aload_n g qd_M_goes_32 rfl ?_
          refine ew_getR g qd_M_goes_33 qf_M_47 (by decide) rfl rfl ?_
          refine ew_iconst g qd_M_goes_36 ic_2 ?_
          refine ew_iload_n g qd_M_goes_37 rfl ?_
          refine ew_imul g qd_M_goes_38 ?_
          refine en_top (pk_mul _ _) ?_
          refine ew_iload_n g qd_M_goes_39 rfl ?_
          refine ew_iadd g qd_M_goes_40 ?_
          refine en_top (nI_add _ _) ?_
          refine en_iald g qd_M_goes_41 (by decide) rfl (by omega) (by omega) k3 ?_
          refine en_eq g qd_M_goes_42 (tgt := 47) (by decide) (by omega) (by omega) (fun he => ?_) (fun he => ?_)
          · have inner : ∀ (d' i : Nat), i + d' = (cur t).1.length → (∀ j, j < i → (kk t).1.getD j 0 = (cur t).1.getD j 0) → ew_E qS w 4 k 52 [some (.inr 41), some (.inl (nI p)), some (.inl (nI t)), some (.inl (nI (41 * t + i)))] [] sg := by
              intro d'
              induction d' with
              | zero =>
                intro i hi hj
                refine ew_iload_n g qd_M_goes_52 rfl ?_
                refine ew_bipush g qd_M_goes_53 bp_41 ?_
                refine ew_iload_n g qd_M_goes_55 rfl ?_
                refine ew_imul g qd_M_goes_56 ?_
                refine en_top (pk_mul _ _) ?_
                refine ew_aload_n g qd_M_goes_57 rfl ?_
                refine ew_getR g qd_M_goes_58 qf_M_32 (by decide) rfl rfl ?_
                refine ew_iload_n g qd_M_goes_61 rfl ?_
                refine en_iald g qd_M_goes_62 (by decide) rfl (by omega) (by omega) c1 ?_
                refine ew_iadd g qd_M_goes_63 ?_
                refine en_top (nI_add _ _) ?_
                refine en_ge g qd_M_goes_64 (tgt := 95) (by decide) (by omega) (by omega) (fun hz2 => ?_) (fun hz2 => ?_)
                · refine ew_iinc g qd_M_goes_95 (by decide) rfl (ii_1 _) ?_
                  refine ew_goto g qd_M_goes_98 (tgt := 2) (by decide) ?_
                  refine ih (t + 1) _ (by omega) (fun u hu => ?_)
                  by_cases e : u = t
                  · subst e
                    exact Prod.ext (getD_ext hl.symm (fun j hj' => hj j (by omega))) he.symm
                  · exact hinv u (by omega)
                · omega
              | succ d' ih' =>
                intro i hi hj
                have b1 := getD_b kb2 i
                have b2 := getD_b cb2 i
                refine ew_iload_n g qd_M_goes_52 rfl ?_
                refine ew_bipush g qd_M_goes_53 bp_41 ?_
                refine ew_iload_n g qd_M_goes_55 rfl ?_
                refine ew_imul g qd_M_goes_56 ?_
                refine en_top (pk_mul _ _) ?_
                refine ew_aload_n g qd_M_goes_57 rfl ?_
                refine ew_getR g qd_M_goes_58 qf_M_32 (by decide) rfl rfl ?_
                refine ew_iload_n g qd_M_goes_61 rfl ?_
                refine en_iald g qd_M_goes_62 (by decide) rfl (by omega) (by omega) c1 ?_
                refine ew_iadd g qd_M_goes_63 ?_
                refine en_top (nI_add _ _) ?_
                refine en_ge g qd_M_goes_64 (tgt := 95) (by decide) (by omega) (by omega) (fun hz2 => ?_) (fun hz2 => ?_)
                · omega
                · refine ew_aload_n g qd_M_goes_67 rfl ?_
                  refine ew_getR g qd_M_goes_68 qf_M_29 (by decide) rfl rfl ?_
                  refine ew_iload_n g qd_M_goes_71 rfl ?_
                  refine en_iald g qd_M_goes_72 (by decide) rfl (by omega) (by omega) (c3 i (by omega)) ?_
                  refine ew_aload_n g qd_M_goes_73 rfl ?_
                  refine ew_getR g qd_M_goes_74 qf_M_41 (by decide) rfl rfl ?_
                  refine ew_bipush g qd_M_goes_77 bp_82 ?_
                  refine ew_iload_n g qd_M_goes_79 rfl ?_
                  refine ew_imul g qd_M_goes_80 ?_
                  refine en_top (pk_mul _ _) ?_
                  refine ew_iload_n g qd_M_goes_81 rfl ?_
                  refine ew_iadd g qd_M_goes_82 ?_
                  refine en_top (nI_add _ _) ?_
                  refine en_iald g qd_M_goes_83 (by decide) rfl (by omega) (by omega) (k4 i (by omega)) ?_
                  refine en_eq g qd_M_goes_84 (tgt := 89) (by decide) (by omega) (by omega) (fun hz3 => ?_) (fun hz3 => ?_)
                  · refine ew_iinc g qd_M_goes_89 (by decide) rfl (ii_1 _) ?_
                    refine ew_goto g qd_M_goes_92 (tgt := 52) (by decide) ?_
                    refine ih' (i + 1) (by omega) (fun j hj' => ?_)
                    by_cases e : j = i
                    · rw [e]; exact hz3.symm
                    · exact hj j (by omega)
                  · refine ew_iconst g qd_M_goes_87 ic_0 ?_
                    refine ew_zret g qd_M_goes_88 hp (by first | exact bI_nar _ | decide +kernel) ?_
                    exact ⟨Or.inr ⟨fun z => hz3 (by rw [z t hz]), rfl⟩, rfl⟩
            refine ew_bipush g qd_M_goes_47 bp_41 ?_
            refine ew_iload_n g qd_M_goes_49 rfl ?_
            refine ew_imul g qd_M_goes_50 ?_
            refine en_top (pk_mul _ _) ?_
            refine ew_istore_n g qd_M_goes_51 (by decide) ?_
            exact inner (cur t).1.length 0 (by omega) (fun j hj => absurd hj (Nat.not_lt_zero j))
          · exact hno (fun z => he (by rw [z]))
  refine ew_iconst g qd_M_goes_0 ic_0 ?_
  refine ew_istore_n g qd_M_goes_1 (by decide) ?_
  exact outer 2 0 _ rfl (fun u hu => absurd hu (Nat.not_lt_zero u))
/-- what belongs to other paths stays -/
def oFr (p : Nat) (sg sg' : SG) : Prop := (∀ o, o < 51 ∨ 58 < o → sg' o = sg o) ∧ (∀ x, x < 82 * p ∨ 82 * p + 82 ≤ x → sg' 51 x = sg 51 x) ∧ (∀ x, x < 2 * p ∨ 2 * p + 2 ≤ x → sg' 52 x = sg 52 x ∧ sg' 53 x = sg 53 x) ∧ (∀ x, x ≠ p → sg' 54 x = sg 54 x ∧ sg' 55 x = sg 55 x) ∧ (∀ x, x < 5 * p ∨ 5 * p + 5 ≤ x → sg' 56 x = sg 56 x ∧ sg' 57 x = sg 57 x) ∧ ∀ x, x < 160 * p ∨ 160 * p + 160 ≤ x → sg' 58 x = sg 58 x
theorem oFr.rf (p : Nat) (sg : SG) : oFr p sg sg := ⟨fun _ _ => rfl, fun _ _ => rfl, fun _ _ => ⟨rfl, rfl⟩, fun _ _ => ⟨rfl, rfl⟩, fun _ _ => ⟨rfl, rfl⟩, fun _ _ => rfl⟩
theorem oFr.tr {p : Nat} {a b c : SG} (h : oFr p a b) (h' : oFr p b c) : oFr p a c := ⟨fun o z => (h'.1 o z).trans (h.1 o z), fun x z => (h'.2.1 x z).trans (h.2.1 x z), fun x z => ⟨(h'.2.2.1 x z).1.trans (h.2.2.1 x z).1, (h'.2.2.1 x z).2.trans (h.2.2.1 x z).2⟩, fun x z => ⟨(h'.2.2.2.1 x z).1.trans (h.2.2.2.1 x z).1, (h'.2.2.2.1 x z).2.trans (h.2.2.2.1 x z).2⟩, fun x z => ⟨(h'.2.2.2.2.1 x z).1.trans (h.2.2.2.2.1 x z).1, (h'.2.2.2.2.1 x z).2.trans (h.2.2.2.2.1 x z).2⟩, fun x z => (h'.2.2.2.2.2 x z).trans (h.2.2.2.2.2 x z)⟩
theorem oFr_51 {p : Nat} {sg : SG} {i : Nat} {x : Int32} (h : 82 * p ≤ i ∧ i < 82 * p + 82) : oFr p sg (sup sg 51 i x) := ⟨fun q z => sup_n (by omega), fun y z => by rw [sup_s, pk_un (by omega)], fun y z => ⟨by rw [sup_n (by decide)], by rw [sup_n (by decide)]⟩, fun y z => ⟨by rw [sup_n (by decide)], by rw [sup_n (by decide)]⟩, fun y z => ⟨by rw [sup_n (by decide)], by rw [sup_n (by decide)]⟩, fun y z => by rw [sup_n (by decide)]⟩
theorem oFr_52 {p : Nat} {sg : SG} {i : Nat} {x : Int32} (h : 2 * p ≤ i ∧ i < 2 * p + 2) : oFr p sg (sup sg 52 i x) := ⟨fun q z => sup_n (by omega), fun y z => by rw [sup_n (by decide)], fun y z => ⟨by rw [sup_s, pk_un (by omega)], by rw [sup_n (by decide)]⟩, fun y z => ⟨by rw [sup_n (by decide)], by rw [sup_n (by decide)]⟩, fun y z => ⟨by rw [sup_n (by decide)], by rw [sup_n (by decide)]⟩, fun y z => by rw [sup_n (by decide)]⟩
theorem oFr_53 {p : Nat} {sg : SG} {i : Nat} {x : Int32} (h : 2 * p ≤ i ∧ i < 2 * p + 2) : oFr p sg (sup sg 53 i x) := ⟨fun q z => sup_n (by omega), fun y z => by rw [sup_n (by decide)], fun y z => ⟨by rw [sup_n (by decide)], by rw [sup_s, pk_un (by omega)]⟩, fun y z => ⟨by rw [sup_n (by decide)], by rw [sup_n (by decide)]⟩, fun y z => ⟨by rw [sup_n (by decide)], by rw [sup_n (by decide)]⟩, fun y z => by rw [sup_n (by decide)]⟩
theorem oFr_54 {p : Nat} {sg : SG} {i : Nat} {x : Int32} (h : i = p) : oFr p sg (sup sg 54 i x) := ⟨fun q z => sup_n (by omega), fun y z => by rw [sup_n (by decide)], fun y z => ⟨by rw [sup_n (by decide)], by rw [sup_n (by decide)]⟩, fun y z => ⟨by rw [sup_s, pk_un (by omega)], by rw [sup_n (by decide)]⟩, fun y z => ⟨by rw [sup_n (by decide)], by rw [sup_n (by decide)]⟩, fun y z => by rw [sup_n (by decide)]⟩
theorem oFr_55 {p : Nat} {sg : SG} {i : Nat} {x : Int32} (h : i = p) : oFr p sg (sup sg 55 i x) := ⟨fun q z => sup_n (by omega), fun y z => by rw [sup_n (by decide)], fun y z => ⟨by rw [sup_n (by decide)], by rw [sup_n (by decide)]⟩, fun y z => ⟨by rw [sup_n (by decide)], by rw [sup_s, pk_un (by omega)]⟩, fun y z => ⟨by rw [sup_n (by decide)], by rw [sup_n (by decide)]⟩, fun y z => by rw [sup_n (by decide)]⟩
theorem oFr_56 {p : Nat} {sg : SG} {i : Nat} {x : Int32} (h : 5 * p ≤ i ∧ i < 5 * p + 5) : oFr p sg (sup sg 56 i x) := ⟨fun q z => sup_n (by omega), fun y z => by rw [sup_n (by decide)], fun y z => ⟨by rw [sup_n (by decide)], by rw [sup_n (by decide)]⟩, fun y z => ⟨by rw [sup_n (by decide)], by rw [sup_n (by decide)]⟩, fun y z => ⟨by rw [sup_s, pk_un (by omega)], by rw [sup_n (by decide)]⟩, fun y z => by rw [sup_n (by decide)]⟩
theorem oFr_57 {p : Nat} {sg : SG} {i : Nat} {x : Int32} (h : 5 * p ≤ i ∧ i < 5 * p + 5) : oFr p sg (sup sg 57 i x) := ⟨fun q z => sup_n (by omega), fun y z => by rw [sup_n (by decide)], fun y z => ⟨by rw [sup_n (by decide)], by rw [sup_n (by decide)]⟩, fun y z => ⟨by rw [sup_n (by decide)], by rw [sup_n (by decide)]⟩, fun y z => ⟨by rw [sup_n (by decide)], by rw [sup_s, pk_un (by omega)]⟩, fun y z => by rw [sup_n (by decide)]⟩
theorem oFr_58 {p : Nat} {sg : SG} {i : Nat} {x : Int32} (h : 160 * p ≤ i ∧ i < 160 * p + 160) : oFr p sg (sup sg 58 i x) := ⟨fun q z => sup_n (by omega), fun y z => by rw [sup_n (by decide)], fun y z => ⟨by rw [sup_n (by decide)], by rw [sup_n (by decide)]⟩, fun y z => ⟨by rw [sup_n (by decide)], by rw [sup_n (by decide)]⟩, fun y z => ⟨by rw [sup_n (by decide)], by rw [sup_n (by decide)]⟩, fun y z => by rw [sup_s, pk_un (by omega)]⟩
theorem k_M_open (w : WC) (l : Launch) (sg : SG) {p m : Nat} {cur : Nat → List Nat × Nat} {cel : Nat → Nat} (hp4 : p < 40) (hc : ∀ t, t < 2 → mW sg t (cur t).1 ∧ sg 49 t = nI (cur t).2) (hcel : ∀ i, i < 5 → sg 44 i = nI (cel i)) : ew_M qS w l qy_M_open qw_M_open qr_M_open [.inr 41, .inl (nI p), .inl (nI m)] sg (fun v sg' => v = none ∧ pK sg' p cur ∧ sg' 54 p = nI 0 ∧ sg' 55 p = nI m ∧ (∀ i, i < 5 → sg' 56 (5 * p + i) = nI (cel i) ∧ sg' 57 (5 * p + i) = bI true) ∧ (∀ x, x < 160 → sg' 58 (160 * p + x) = nI 0) ∧ oFr p sg sg') := by
  refine ew_entry (ws' := qwg) (own := qR_M) (cc := qc_M_open) (nL := 5) (ret := none) qnk (by decide) rfl rfl (Nat.le_of_ble_eq_true rfl) ?_
  intro k g hp
  -- the last loop
  have l3 : ∀ (d i : Nat) (x4 : Option MV) (sg1 : SG), i + d = 160 → pK sg1 p cur → sg1 54 p = nI 0 → sg1 55 p = nI m → (∀ i, i < 5 → sg1 56 (5 * p + i) = nI (cel i) ∧ sg1 57 (5 * p + i) = bI true) → (∀ x, x < i → sg1 58 (160 * p + x) = nI 0) → oFr p sg sg1 → ew_E qS w 5 k 152 [some (.inr 41), some (.inl (nI p)), some (.inl (nI m)), some (.inl (nI (160 * p + i))), x4] [] sg1 := by
    intro d
    induction d with
    | zero =>
      intro i x4 sg1 hi h1 h2 h3 h4 h5 hfr
      refine ew_iload_n g qd_M_open_152 rfl ?_
      refine ew_sipush g qd_M_open_153 sp_160 ?_
      refine ew_iload_n g qd_M_open_156 rfl ?_
      refine ew_imul g qd_M_open_157 ?_
      refine en_top (pk_mul _ _) ?_
      refine ew_sipush g qd_M_open_158 sp_160 ?_
      refine ew_iadd g qd_M_open_161 ?_
      refine en_top (nI_add _ _) ?_
      refine en_ge g qd_M_open_162 (tgt := 178) (by decide) (by omega) (by omega) (fun hz => ?_) (fun hz => ?_)
      · refine ew_vret g qd_M_open_178 hp ?_
        exact ⟨rfl, h1, h2, h3, h4, fun x hx => h5 x (by omega), hfr⟩
      · omega
    | succ d ih =>
      intro i x4 sg1 hi h1 h2 h3 h4 h5 hfr
      refine ew_iload_n g qd_M_open_152 rfl ?_
      refine ew_sipush g qd_M_open_153 sp_160 ?_
      refine ew_iload_n g qd_M_open_156 rfl ?_
      refine ew_imul g qd_M_open_157 ?_
      refine en_top (pk_mul _ _) ?_
      refine ew_sipush g qd_M_open_158 sp_160 ?_
      refine ew_iadd g qd_M_open_161 ?_
      refine en_top (nI_add _ _) ?_
      refine en_ge g qd_M_open_162 (tgt := 178) (by decide) (by omega) (by omega) (fun hz => ?_) (fun hz => ?_)
      · omega
      · refine ew_aload_n g qd_M_open_165 rfl ?_
        refine ew_getR g qd_M_open_166 qf_M_63 (by decide) rfl rfl ?_
        refine ew_iload_n g qd_M_open_169 rfl ?_
        refine ew_iconst g qd_M_open_170 ic_0 ?_
        refine en_iast g qd_M_open_171 (by decide) rfl (by omega) (by omega) ?_
        refine ew_iinc g qd_M_open_172 (by decide) rfl (ii_1 _) ?_
        refine ew_goto g qd_M_open_175 (tgt := 152) (by decide) ?_
        refine ih (i + 1) x4 _ (by omega) (fun t ht => by rw [sup_n (by decide), sup_n (by decide), sup_n (by decide)]; exact h1 t ht) (by rw [sup_n (by decide)]; exact h2) (by rw [sup_n (by decide)]; exact h3) (fun i hi => by rw [sup_n (by decide), sup_n (by decide)]; exact h4 i hi) (fun x hx => ?_) (hfr.tr (oFr_58 (by omega)))
        rw [sup_s]
        by_cases e : x = i
        · rw [e, pk_us]
        · rw [pk_un (by omega)]; exact h5 x (by omega)
  have l2 : ∀ (d i : Nat) (x4 : Option MV) (sg1 : SG), i + d = 5 → pK sg1 p cur → sg1 54 p = nI 0 → sg1 55 p = nI m → (∀ j, j < i → sg1 56 (5 * p + j) = nI (cel j) ∧ sg1 57 (5 * p + j) = bI true) → oFr p sg sg1 → ew_E qS w 5 k 108 [some (.inr 41), some (.inl (nI p)), some (.inl (nI m)), some (.inl (nI i)), x4] [] sg1 := by
    intro d
    induction d with
    | zero =>
      intro i x4 sg1 hi h1 h2 h3 h4 hfr
      refine ew_iload_n g qd_M_open_108 rfl ?_
      refine ew_iconst g qd_M_open_109 ic_5 ?_
      refine en_ge g qd_M_open_110 (tgt := 146) (by decide) (by omega) (by omega) (fun hz => ?_) (fun hz => ?_)
      · refine ew_sipush g qd_M_open_146 sp_160 ?_
        refine ew_iload_n g qd_M_open_149 rfl ?_
        refine ew_imul g qd_M_open_150 ?_
        refine en_top (pk_mul _ _) ?_
        refine ew_istore_n g qd_M_open_151 (by decide) ?_
        exact l3 160 0 x4 sg1 rfl h1 h2 h3 (fun i hi => h4 i (by omega)) (fun x hx => absurd hx (Nat.not_lt_zero x)) hfr
      · omega
    | succ d ih =>
      intro i x4 sg1 hi h1 h2 h3 h4 hfr
      refine ew_iload_n g qd_M_open_108 rfl ?_
      refine ew_iconst g qd_M_open_109 ic_5 ?_
      refine en_ge g qd_M_open_110 (tgt := 146) (by decide) (by omega) (by omega) (fun hz => ?_) (fun hz => ?_)
      · omega
      · refine ew_aload_n g qd_M_open_113 rfl ?_
        refine ew_getR g qd_M_open_114 qf_M_56 (by decide) rfl rfl ?_
        refine ew_iconst g qd_M_open_117 ic_5 ?_
        refine ew_iload_n g qd_M_open_118 rfl ?_
        refine ew_imul g qd_M_open_119 ?_
        refine en_top (pk_mul _ _) ?_
        refine ew_iload_n g qd_M_open_120 rfl ?_
        refine ew_iadd g qd_M_open_121 ?_
        refine en_top (nI_add _ _) ?_
        refine ew_aload_n g qd_M_open_122 rfl ?_
        refine ew_getR g qd_M_open_123 qf_M_20 (by decide) rfl rfl ?_
        refine ew_iload_n g qd_M_open_126 rfl ?_
        refine en_iald g qd_M_open_127 (by decide) rfl (by omega) (by omega) (show sg1 44 i = nI (cel i) by rw [hfr.1 44 (by omega)]; exact hcel i hz) ?_
        refine en_iast g qd_M_open_128 (by decide) rfl (by omega) (by omega) ?_
        refine ew_aload_n g qd_M_open_129 rfl ?_
        refine ew_getR g qd_M_open_130 qf_M_59 (by decide) rfl rfl ?_
        refine ew_iconst g qd_M_open_133 ic_5 ?_
        refine ew_iload_n g qd_M_open_134 rfl ?_
        refine ew_imul g qd_M_open_135 ?_
        refine en_top (pk_mul _ _) ?_
        refine ew_iload_n g qd_M_open_136 rfl ?_
        refine ew_iadd g qd_M_open_137 ?_
        refine en_top (nI_add _ _) ?_
        refine ew_iconst g qd_M_open_138 ic_1 ?_
        refine en_top bI_t.symm ?_
        refine en_zast g qd_M_open_139 (by decide) rfl (by omega) (by omega) (bI_vn _) ?_
        refine ew_iinc g qd_M_open_140 (by decide) rfl (ii_1 _) ?_
        refine ew_goto g qd_M_open_143 (tgt := 108) (by decide) ?_
        refine ih (i + 1) x4 _ (by omega) (fun t ht => by rw [sup_n (by decide), sup_n (by decide), sup_n (by decide), sup_n (by decide), sup_n (by decide), sup_n (by decide)]; exact h1 t ht) (by rw [sup_n (by decide), sup_n (by decide)]; exact h2) (by rw [sup_n (by decide), sup_n (by decide)]; exact h3) (fun j hj => ?_) ((hfr.tr (oFr_56 (by omega))).tr (oFr_57 (by omega)))
        rw [sup_n (by decide), sup_s, sup_s, sup_n (by decide)]
        by_cases e : j = i
        · rw [e, pk_us, pk_us]; exact ⟨rfl, rfl⟩
        · rw [pk_un (by omega), pk_un (by omega)]; exact h4 j (by omega)
  have l1 : ∀ (d t : Nat) (x4 : Option MV) (sg1 : SG), t + d = 2 → (∀ u, u < t → sg1 52 (2 * p + u) = nI (cur u).1.length ∧ sg1 53 (2 * p + u) = nI (cur u).2 ∧ ∀ i, i < (cur u).1.length → sg1 51 (82 * p + (41 * u + i)) = nI ((cur u).1.getD i 0)) → oFr p sg sg1 → ew_E qS w 5 k 2 [some (.inr 41), some (.inl (nI p)), some (.inl (nI m)), some (.inl (nI t)), x4] [] sg1 := by
    intro d
    induction d with
    | zero =>
      intro t x4 sg1 ht h1 hfr
      refine ew_iload_n g qd_M_open_2 rfl ?_
      refine ew_iconst g qd_M_open_3 ic_2 ?_
      refine en_ge g qd_M_open_4 (tgt := 92) (by decide) (by omega) (by omega) (fun hz => ?_) (fun hz => ?_)
      · refine ew_aload_n g qd_M_open_92 rfl ?_
        refine ew_getR g qd_M_open_93 qf_M_50 (by decide) rfl rfl ?_
        refine ew_iload_n g qd_M_open_96 rfl ?_
        refine ew_iconst g qd_M_open_97 ic_0 ?_
        refine en_iast g qd_M_open_98 (by decide) rfl (by omega) (by omega) ?_
        refine ew_aload_n g qd_M_open_99 rfl ?_
        refine ew_getR g qd_M_open_100 qf_M_53 (by decide) rfl rfl ?_
        refine ew_iload_n g qd_M_open_103 rfl ?_
        refine ew_iload_n g qd_M_open_104 rfl ?_
        refine en_iast g qd_M_open_105 (by decide) rfl (by omega) (by omega) ?_
        refine ew_iconst g qd_M_open_106 ic_0 ?_
        refine ew_istore_n g qd_M_open_107 (by decide) ?_
        refine l2 5 0 x4 _ rfl (fun u hu => ?_) (by rw [sup_n (by decide), sup_s, pk_us]) (by rw [sup_s, pk_us]) (fun j hj => absurd hj (Nat.not_lt_zero j)) ((hfr.tr (oFr_54 rfl)).tr (oFr_55 rfl))
        obtain ⟨q1, q2, q3⟩ := h1 u (by omega)
        rw [sup_n (by decide), sup_n (by decide), sup_n (by decide), sup_n (by decide), sup_n (by decide), sup_n (by decide)]
        exact ⟨q1, (hc u (by omega)).1.2.1, q2, q3⟩
      · omega
    | succ d ih =>
      intro t x4 sg1 ht h1 hfr
      refine ew_iload_n g qd_M_open_2 rfl ?_
      refine ew_iconst g qd_M_open_3 ic_2 ?_
      refine en_ge g qd_M_open_4 (tgt := 92) (by decide) (by omega) (by omega) (fun hz => ?_) (fun hz => ?_)
      · omega
      · obtain ⟨⟨c1, c2, c3⟩, c4⟩ := hc t hz
        refine ew_aload_n g qd_M_open_7 rfl ?_
        refine ew_getR g qd_M_open_8 qf_M_44 (by decide) rfl rfl ?_
        refine ew_iconst g qd_M_open_11 ic_2 ?_
        refine ew_iload_n g qd_M_open_12 rfl ?_
        refine ew_imul g qd_M_open_13 ?_
        refine en_top (pk_mul _ _) ?_
        refine ew_iload_n g qd_M_open_14 rfl ?_
        refine ew_iadd g qd_M_open_15 ?_
        refine en_top (nI_add _ _) ?_
        refine ew_aload_n g qd_M_open_16 rfl ?_
        refine ew_getR g qd_M_open_17 qf_M_32 (by decide) rfl rfl ?_
        refine ew_iload_n g qd_M_open_20 rfl ?_
        refine en_iald g qd_M_open_21 (by decide) rfl (by omega) (by omega) (show sg1 48 t = nI (cur t).1.length by rw [hfr.1 48 (by omega)]; exact c1) ?_
        refine en_iast g qd_M_open_22 (by decide) rfl (by omega) (by omega) ?_
        refine ew_aload_n g qd_M_open_23 rfl ?_
        refine ew_getR g qd_M_open_24 qf_M_47 (by decide) rfl rfl ?_
        refine ew_iconst g qd_M_open_27 ic_2 ?_
        refine ew_iload_n g qd_M_open_28 rfl ?_
        refine ew_imul g qd_M_open_29 ?_
        refine en_top (pk_mul _ _) ?_
        refine ew_iload_n g qd_M_open_30 rfl ?_
        refine ew_iadd g qd_M_open_31 ?_
        refine en_top (nI_add _ _) ?_
        refine ew_aload_n g qd_M_open_32 rfl ?_
        refine ew_getR g qd_M_open_33 qf_M_35 (by decide) rfl rfl ?_
        refine ew_iload_n g qd_M_open_36 rfl ?_
        refine en_iald g qd_M_open_37 (by decide) rfl (by omega) (by omega) (show sup sg1 52 (2 * p + t) (nI (cur t).1.length) 49 t = nI (cur t).2 by rw [sup_n (by decide), hfr.1 49 (by omega)]; exact c4) ?_
        refine en_iast g qd_M_open_38 (by decide) rfl (by omega) (by omega) ?_
        refine ew_bipush g qd_M_open_39 bp_41 ?_
        refine ew_iload_n g qd_M_open_41 rfl ?_
        refine ew_imul g qd_M_open_42 ?_
        refine en_top (pk_mul _ _) ?_
        refine ew_istore g qd_M_open_43 (by decide) ?_
        have inner : ∀ (d' i : Nat) (sg2 : SG), i + d' = (cur t).1.length → (∀ u, u < t → sg2 52 (2 * p + u) = nI (cur u).1.length ∧ sg2 53 (2 * p + u) = nI (cur u).2 ∧ ∀ i, i < (cur u).1.length → sg2 51 (82 * p + (41 * u + i)) = nI ((cur u).1.getD i 0)) → sg2 52 (2 * p + t) = nI (cur t).1.length → sg2 53 (2 * p + t) = nI (cur t).2 → (∀ j, j < i → sg2 51 (82 * p + (41 * t + j)) = nI ((cur t).1.getD j 0)) → oFr p sg sg2 → ew_E qS w 5 k 45 [some (.inr 41), some (.inl (nI p)), some (.inl (nI m)), some (.inl (nI t)), some (.inl (nI (41 * t + i)))] [] sg2 := by
          intro d'
          induction d' with
          | zero =>
            intro i sg2 hi g1 g2 g3 g4 gfr
            refine ew_iload g qd_M_open_45 rfl ?_
            refine ew_bipush g qd_M_open_47 bp_41 ?_
            refine ew_iload_n g qd_M_open_49 rfl ?_
            refine ew_imul g qd_M_open_50 ?_
            refine en_top (pk_mul _ _) ?_
            refine ew_aload_n g qd_M_open_51 rfl ?_
            refine ew_getR g qd_M_open_52 qf_M_32 (by decide) rfl rfl ?_
            refine ew_iload_n g qd_M_open_55 rfl ?_
            refine en_iald g qd_M_open_56 (by decide) rfl (by omega) (by omega) (show sg2 48 t = nI (cur t).1.length by rw [gfr.1 48 (by omega)]; exact c1) ?_
            refine ew_iadd g qd_M_open_57 ?_
            refine en_top (nI_add _ _) ?_
            refine en_ge g qd_M_open_58 (tgt := 86) (by decide) (by omega) (by omega) (fun hz2 => ?_) (fun hz2 => ?_)
            · refine ew_iinc g qd_M_open_86 (by decide) rfl (ii_1 _) ?_
              refine ew_goto g qd_M_open_89 (tgt := 2) (by decide) ?_
              refine ih (t + 1) _ sg2 (by omega) (fun u hu => ?_) gfr
              by_cases e : u = t
              · rw [e]; exact ⟨g2, g3, fun j hj => g4 j (by omega)⟩
              · exact g1 u (by omega)
            · omega
          | succ d' ih' =>
            intro i sg2 hi g1 g2 g3 g4 gfr
            refine ew_iload g qd_M_open_45 rfl ?_
            refine ew_bipush g qd_M_open_47 bp_41 ?_
            refine ew_iload_n g qd_M_open_49 rfl ?_
            refine ew_imul g qd_M_open_50 ?_
            refine en_top (pk_mul _ _) ?_
            refine ew_aload_n g qd_M_open_51 rfl ?_
            refine ew_getR g qd_M_open_52 qf_M_32 (by decide) rfl rfl ?_
            refine ew_iload_n g qd_M_open_55 rfl ?_
            refine en_iald g qd_M_open_56 (by decide) rfl (by omega) (by omega) (show sg2 48 t = nI (cur t).1.length by rw [gfr.1 48 (by omega)]; exact c1) ?_
            refine ew_iadd g qd_M_open_57 ?_
            refine en_top (nI_add _ _) ?_
            refine en_ge g qd_M_open_58 (tgt := 86) (by decide) (by omega) (by omega) (fun hz2 => ?_) (fun hz2 => ?_)
            · omega
            · refine ew_aload_n g qd_M_open_61 rfl ?_
              refine ew_getR g qd_M_open_62 qf_M_41 (by decide) rfl rfl ?_
              refine ew_bipush g qd_M_open_65 bp_82 ?_
              refine ew_iload_n g qd_M_open_67 rfl ?_
              refine ew_imul g qd_M_open_68 ?_
              refine en_top (pk_mul _ _) ?_
              refine ew_iload g qd_M_open_69 rfl ?_
              refine ew_iadd g qd_M_open_71 ?_
              refine en_top (nI_add _ _) ?_
              refine ew_aload_n g qd_M_open_72 rfl ?_
              refine ew_getR g qd_M_open_73 qf_M_29 (by decide) rfl rfl ?_
              refine ew_iload g qd_M_open_76 rfl ?_
              refine en_iald g qd_M_open_78 (by decide) rfl (by omega) (by omega) (show sg2 47 (41 * t + i) = nI ((cur t).1.getD i 0) by rw [gfr.1 47 (by omega)]; exact c3 i (by omega)) ?_
              refine en_iast g qd_M_open_79 (by decide) rfl (by omega) (by omega) ?_
              refine ew_iinc g qd_M_open_80 (by decide) rfl (ii_1 _) ?_
              refine ew_goto g qd_M_open_83 (tgt := 45) (by decide) ?_
              refine ih' (i + 1) _ (by omega) (fun u hu => ?_) (by rw [sup_n (by decide)]; exact g2) (by rw [sup_n (by decide)]; exact g3) (fun j hj => ?_) (gfr.tr (oFr_51 (by omega)))
              · obtain ⟨q1, q2, q3⟩ := g1 u hu
                refine ⟨by rw [sup_n (by decide)]; exact q1, by rw [sup_n (by decide)]; exact q2, fun j hj => ?_⟩
                have := (hc u (by omega)).1.2.1
                rw [sup_s, pk_un (by omega)]
                exact q3 j hj
              · rw [sup_s]
                by_cases e : j = i
                · rw [e, pk_us]
                · rw [pk_un (by omega)]; exact g4 j (by omega)
        refine inner (cur t).1.length 0 _ (by omega) (fun u hu => ?_) (by rw [sup_n (by decide), sup_s, pk_us]) (by rw [sup_s, pk_us]) (fun j hj => absurd hj (Nat.not_lt_zero j)) ((hfr.tr (oFr_52 (by omega))).tr (oFr_53 (by omega)))
        obtain ⟨q1, q2, q3⟩ := h1 u hu
        refine ⟨by rw [sup_n (by decide), sup_s, pk_un (by omega)]; exact q1, by rw [sup_s, pk_un (by omega), sup_n (by decide)]; exact q2, fun j hj => by rw [sup_n (by decide), sup_n (by decide)]; exact q3 j hj⟩
  refine ew_iconst g qd_M_open_0 ic_0 ?_
  refine ew_istore_n g qd_M_open_1 (by decide) ?_
  exact l1 2 0 _ sg rfl (fun u hu => absurd hu (Nat.not_lt_zero u)) (oFr.rf p sg)
theorem b_sh1 (x : Int32) {n : Nat} (hn : n < 32) : (x >>> (nI n &&& 31)) &&& nI 1 = 0 ↔ bt x n = false := by
  rw [b_and1, b_sshr n hn x (by decide)]
  simp [hn]
theorem k_M_count (w : WC) (l : Launch) (sg : SG) {p m n0 : Nat} {cel lf : Nat → Nat} {sm : Nat → Bool} {fd : Nat → Nat → Bool} (hp4 : p < 40) (h54 : sg 54 p = nI n0) (hcel : ∀ i, i < 5 → sg 44 i = nI (cel i) ∧ cel i < 16) (hlf : ∀ i, i < 5 → sg 56 (5 * p + i) = nI (lf i) ∧ lf i < 16) (hsm : ∀ i, i < 5 → sg 57 (5 * p + i) = bI (sm i)) (hfd : ∀ kd, kd < 5 → ∀ i, i < 32 → bt (sg 50 kd) i = fd kd i) : ew_M qS w l qy_M_count qw_M_count qr_M_count [.inr 41, .inl (nI p), .inl (nI m)] sg (fun v sg' => v = none ∧ sg' 54 = upd (sg 54) p (nI (n0 + 1)) ∧ (∀ i, i < 5 → sg' 57 (5 * p + i) = bI (sm i && decide (lf i = cel i))) ∧ (∀ x, x < 5 * p ∨ 5 * p + 5 ≤ x → sg' 57 x = sg 57 x) ∧ (∀ x, x < 160 → sg' 58 (160 * p + x) = (if fd (x / 32) (x % 32) = true then sg 58 (160 * p + x) + nI 1 else sg 58 (160 * p + x))) ∧ (∀ x, x < 160 * p ∨ 160 * p + 160 ≤ x → sg' 58 x = sg 58 x) ∧ (∀ x, x < 160 → sg' 59 x = (if fd (x / 32) (x % 32) = true ∧ ¬ 0 ≤ sg 59 x then nI m else sg 59 x)) ∧ ∀ o, o ≠ 54 → o ≠ 57 → o ≠ 58 → o ≠ 59 → sg' o = sg o) := by
  refine ew_entry (ws' := qwg) (own := qR_M) (cc := qc_M_count) (nL := 4) (ret := none) qnk (by decide) rfl rfl (Nat.le_of_ble_eq_true rfl) ?_
  intro k g hp
  have l2 : ∀ (d x : Nat) (sg1 : SG), x + d = 160 → sg1 54 = upd (sg 54) p (nI (n0 + 1)) → (∀ i, i < 5 → sg1 57 (5 * p + i) = bI (sm i && decide (lf i = cel i))) → (∀ y, y < 5 * p ∨ 5 * p + 5 ≤ y → sg1 57 y = sg 57 y) → (∀ y, y < 160 → sg1 58 (160 * p + y) = (if y < x ∧ fd (y / 32) (y % 32) = true then sg 58 (160 * p + y) + nI 1 else sg 58 (160 * p + y))) → (∀ y, y < 160 * p ∨ 160 * p + 160 ≤ y → sg1 58 y = sg 58 y) → (∀ y, y < 160 → sg1 59 y = (if y < x ∧ fd (y / 32) (y % 32) = true ∧ ¬ 0 ≤ sg 59 y then nI m else sg 59 y)) → (∀ o, o ≠ 54 → o ≠ 57 → o ≠ 58 → o ≠ 59 → sg1 o = sg o) → ew_E qS w 4 k 72 [some (.inr 41), some (.inl (nI p)), some (.inl (nI m)), some (.inl (nI x))] [] sg1 := by
    intro d
    induction d with
    | zero =>
      intro x sg1 hx h1 h2 h3 h4 h5 h6 h7
      refine ew_iload_n g qd_M_count_72 rfl ?_
      refine ew_sipush g qd_M_count_73 sp_160 ?_
      refine en_ge g qd_M_count_76 (tgt := 139) (by decide) (by omega) (by omega) (fun hz => ?_) (fun hz => ?_)
      · refine ew_vret g qd_M_count_139 hp ?_
        refine ⟨rfl, h1, h2, h3, fun y hy => ?_, h5, fun y hy => ?_, h7⟩
        · rw [h4 y hy]
          by_cases c : fd (y / 32) (y % 32) = true
          · rw [if_pos ⟨by omega, c⟩, if_pos c]
          · rw [if_neg (fun z => c z.2), if_neg c]
        · rw [h6 y hy]
          by_cases c : fd (y / 32) (y % 32) = true ∧ ¬ 0 ≤ sg 59 y
          · rw [if_pos ⟨by omega, c⟩, if_pos c]
          · rw [if_neg (fun z => c z.2), if_neg c]
      · omega
    | succ d ih =>
      intro x sg1 hx h1 h2 h3 h4 h5 h6 h7
      refine ew_iload_n g qd_M_count_72 rfl ?_
      refine ew_sipush g qd_M_count_73 sp_160 ?_
      refine en_ge g qd_M_count_76 (tgt := 139) (by decide) (by omega) (by omega) (fun hz => ?_) (fun hz => ?_)
      · omega
      · have hb := hfd (x / 32) (by omega) (x % 32) (by omega)
        have e50 : sg1 50 = sg 50 := h7 50 (by decide) (by decide) (by decide) (by decide)
        refine ew_aload_n g qd_M_count_79 rfl ?_
        refine ew_getR g qd_M_count_80 qf_M_38 (by decide) rfl rfl ?_
        refine ew_iload_n g qd_M_count_83 rfl ?_
        refine ew_bipush g qd_M_count_84 bp_32 ?_
        refine ew_idiv g qd_M_count_86 (by decide +kernel) ?_
        refine en_top (pk_div (by omega) (by decide) (by decide)) ?_
        refine en_iald g qd_M_count_87 (by decide) rfl (by omega) (by omega) rfl ?_
        refine ew_iload_n g qd_M_count_88 rfl ?_
        refine ew_bipush g qd_M_count_89 bp_32 ?_
        refine ew_irem g qd_M_count_91 (by decide +kernel) ?_
        refine en_top (pk_rem (by omega) (by decide) (by decide)) ?_
        refine ew_ishr g qd_M_count_92 ?_
        refine ew_iconst g qd_M_count_93 ic_1 ?_
        refine ew_iand g qd_M_count_94 ?_
        refine ew_if_ne g qd_M_count_95 (tgt := 101) (by decide) (fun hbit => ?_) (fun hbit => ?_)
        · have hbt : fd (x / 32) (x % 32) = true := by
            cases hq : fd (x / 32) (x % 32) with
            | true => rfl
            | false => exact absurd ((b_sh1 (sg1 50 (x / 32)) (n := x % 32) (by omega)).mpr (by rw [e50, hb]; exact hq)) hbit
          have e58 : sg1 58 (160 * p + x) = sg 58 (160 * p + x) := by rw [h4 x (by omega), if_neg (fun z => by omega)]
          have e59 : sg1 59 x = sg 59 x := by rw [h6 x (by omega), if_neg (fun z => by omega)]
          have n58 : ∀ y, y < 160 → upd (sg1 58) (160 * p + x) (sg 58 (160 * p + x) + nI 1) (160 * p + y) = (if y < x + 1 ∧ fd (y / 32) (y % 32) = true then sg 58 (160 * p + y) + nI 1 else sg 58 (160 * p + y)) := fun y hy => by
            by_cases e : y = x
            · subst e
              rw [pk_us, if_pos ⟨by omega, hbt⟩]
            · rw [pk_un (by omega), h4 y hy]
              by_cases c : y < x ∧ fd (y / 32) (y % 32) = true
              · rw [if_pos c, if_pos ⟨by omega, c.2⟩]
              · rw [if_neg c, if_neg (fun z => c ⟨by omega, z.2⟩)]
          refine ew_aload_n g qd_M_count_101 rfl ?_
          refine ew_getR g qd_M_count_102 qf_M_63 (by decide) rfl rfl ?_
          refine ew_sipush g qd_M_count_105 sp_160 ?_
          refine ew_iload_n g qd_M_count_108 rfl ?_
          refine ew_imul g qd_M_count_109 ?_
          refine en_top (pk_mul _ _) ?_
          refine ew_iload_n g qd_M_count_110 rfl ?_
          refine ew_iadd g qd_M_count_111 ?_
          refine en_top (nI_add _ _) ?_
          refine ew_dup2 g qd_M_count_112 ?_
          refine en_iald g qd_M_count_113 (by decide) rfl (by omega) (by omega) e58 ?_
          refine ew_iconst g qd_M_count_114 ic_1 ?_
          refine ew_iadd g qd_M_count_115 ?_
          refine en_iast g qd_M_count_116 (by decide) rfl (by omega) (by omega) ?_
          refine ew_aload_n g qd_M_count_117 rfl ?_
          refine ew_getR g qd_M_count_118 qf_M_66 (by decide) rfl rfl ?_
          refine ew_iload_n g qd_M_count_121 rfl ?_
          refine en_iald g qd_M_count_122 (by decide) rfl (by omega) (by omega) (show sup sg1 58 (160 * p + x) (sg 58 (160 * p + x) + nI 1) 59 x = sg 59 x by rw [sup_n (by decide)]; exact e59) ?_
          refine ew_if_ge g qd_M_count_123 (tgt := 133) (by decide) (fun hge => ?_) (fun hge => ?_)
          · refine ew_iinc g qd_M_count_133 (by decide) rfl (ii_1 _) ?_
            refine ew_goto g qd_M_count_136 (tgt := 72) (by decide) ?_
            refine ih (x + 1) _ (by omega) (by rw [sup_n (by decide)]; exact h1) (by rw [sup_n (by decide)]; exact h2) (by rw [sup_n (by decide)]; exact h3) (by rw [sup_s]; exact n58) (fun y hy => by rw [sup_s, pk_un (by omega)]; exact h5 y hy) (fun y hy => ?_) (fun o q1 q2 q3 q4 => by rw [sup_n q3]; exact h7 o q1 q2 q3 q4)
            rw [sup_n (by decide), h6 y hy]
            by_cases e : y = x
            · subst e
              rw [if_neg (fun z => by omega), if_neg (fun z => z.2.2 hge)]
            · by_cases c : y < x ∧ fd (y / 32) (y % 32) = true ∧ ¬ 0 ≤ sg 59 y
              · rw [if_pos c, if_pos ⟨by omega, c.2⟩]
              · rw [if_neg c, if_neg (fun z => c ⟨by omega, z.2⟩)]
          · refine ew_aload_n g qd_M_count_126 rfl ?_
            refine ew_getR g qd_M_count_127 qf_M_66 (by decide) rfl rfl ?_
            refine ew_iload_n g qd_M_count_130 rfl ?_
            refine ew_iload_n g qd_M_count_131 rfl ?_
            refine en_iast g qd_M_count_132 (by decide) rfl (by omega) (by omega) ?_
            refine ew_iinc g qd_M_count_133 (by decide) rfl (ii_1 _) ?_
            refine ew_goto g qd_M_count_136 (tgt := 72) (by decide) ?_
            refine ih (x + 1) _ (by omega) (by rw [sup_n (by decide), sup_n (by decide)]; exact h1) (by rw [sup_n (by decide), sup_n (by decide)]; exact h2) (by rw [sup_n (by decide), sup_n (by decide)]; exact h3) (by rw [sup_n (by decide), sup_s]; exact n58) (fun y hy => by rw [sup_n (by decide), sup_s, pk_un (by omega)]; exact h5 y hy) (fun y hy => ?_) (fun o q1 q2 q3 q4 => by rw [sup_n q4, sup_n q3]; exact h7 o q1 q2 q3 q4)
            rw [sup_s, sup_n (by decide)]
            by_cases e : y = x
            · subst e
              rw [pk_us, if_pos ⟨by omega, hbt, hge⟩]
            · rw [pk_un e, h6 y hy]
              by_cases c : y < x ∧ fd (y / 32) (y % 32) = true ∧ ¬ 0 ≤ sg 59 y
              · rw [if_pos c, if_pos ⟨by omega, c.2⟩]
              · rw [if_neg c, if_neg (fun z => c ⟨by omega, z.2⟩)]
        · have hbf : fd (x / 32) (x % 32) = false := by
            rw [← hb, ← e50]
            exact (b_sh1 (sg1 50 (x / 32)) (n := x % 32) (by omega)).mp hbit
          refine ew_goto g qd_M_count_98 (tgt := 133) (by decide) ?_
          refine ew_iinc g qd_M_count_133 (by decide) rfl (ii_1 _) ?_
          refine ew_goto g qd_M_count_136 (tgt := 72) (by decide) ?_
          refine ih (x + 1) sg1 (by omega) h1 h2 h3 (fun y hy => ?_) h5 (fun y hy => ?_) h7
          · rw [h4 y hy]
            by_cases e : y = x
            · subst e
              rw [if_neg (fun z => by omega), if_neg (fun z => by rw [hbf] at z; exact absurd z.2 (by decide))]
            · by_cases c : y < x ∧ fd (y / 32) (y % 32) = true
              · rw [if_pos c, if_pos ⟨by omega, c.2⟩]
              · rw [if_neg c, if_neg (fun z => c ⟨by omega, z.2⟩)]
          · rw [h6 y hy]
            by_cases e : y = x
            · subst e
              rw [if_neg (fun z => by omega), if_neg (fun z => by rw [hbf] at z; exact absurd z.2.1 (by decide))]
            · by_cases c : y < x ∧ fd (y / 32) (y % 32) = true ∧ ¬ 0 ≤ sg 59 y
              · rw [if_pos c, if_pos ⟨by omega, c.2⟩]
              · rw [if_neg c, if_neg (fun z => c ⟨by omega, z.2⟩)]
  have l1 : ∀ (d i : Nat) (sg1 : SG), i + d = 5 → sg1 54 = upd (sg 54) p (nI (n0 + 1)) → (∀ j, j < 5 → sg1 57 (5 * p + j) = bI (if j < i then sm j && decide (lf j = cel j) else sm j)) → (∀ y, y < 5 * p ∨ 5 * p + 5 ≤ y → sg1 57 y = sg 57 y) → (∀ o, o ≠ 54 → o ≠ 57 → sg1 o = sg o) → ew_E qS w 4 k 12 [some (.inr 41), some (.inl (nI p)), some (.inl (nI m)), some (.inl (nI i))] [] sg1 := by
    intro d
    induction d with
    | zero =>
      intro i sg1 hi h1 h2 h3 h4
      refine ew_iload_n g qd_M_count_12 rfl ?_
      refine ew_iconst g qd_M_count_13 ic_5 ?_
      refine en_ge g qd_M_count_14 (tgt := 70) (by decide) (by omega) (by omega) (fun hz => ?_) (fun hz => ?_)
      · refine ew_iconst g qd_M_count_70 ic_0 ?_
        refine ew_istore_n g qd_M_count_71 (by decide) ?_
        refine l2 160 0 sg1 rfl h1 (fun j hj => by rw [h2 j hj, if_pos (by omega)]) h3 (fun y hy => by rw [h4 58 (by decide) (by decide), if_neg (fun z => absurd z.1 (Nat.not_lt_zero _))]) (fun y _ => by rw [h4 58 (by decide) (by decide)]) (fun y hy => by rw [h4 59 (by decide) (by decide), if_neg (fun z => absurd z.1 (Nat.not_lt_zero _))]) (fun o q1 q2 _ _ => h4 o q1 q2)
      · omega
    | succ d ih =>
      intro i sg1 hi h1 h2 h3 h4
      refine ew_iload_n g qd_M_count_12 rfl ?_
      refine ew_iconst g qd_M_count_13 ic_5 ?_
      refine en_ge g qd_M_count_14 (tgt := 70) (by decide) (by omega) (by omega) (fun hz => ?_) (fun hz => ?_)
      · omega
      · have h57 := h2 i hz
        rw [if_neg (by omega)] at h57
        obtain ⟨c1, c2⟩ := hcel i hz
        obtain ⟨f1, f2⟩ := hlf i hz
        have h63 : ∀ b, b = (sm i && decide (lf i = cel i)) → ew_E qS w 4 k 63 [some (.inr 41), some (.inl (nI p)), some (.inl (nI m)), some (.inl (nI i))] [.inl (bI b), .inl (nI (5 * p + i)), .inr 57] sg1 := by
          intro b hb
          refine en_zast g qd_M_count_63 (by decide) rfl (by omega) (by omega) (bI_vn _) ?_
          refine ew_iinc g qd_M_count_64 (by decide) rfl (ii_1 _) ?_
          refine ew_goto g qd_M_count_67 (tgt := 12) (by decide) ?_
          refine ih (i + 1) _ (by omega) (by rw [sup_n (by decide)]; exact h1) (fun j hj => ?_) (fun y hy => by rw [sup_s, pk_un (by omega)]; exact h3 y hy) (fun o q1 q2 => by rw [sup_n q2]; exact h4 o q1 q2)
          rw [sup_s]
          by_cases e : j = i
          · rw [e, pk_us, if_pos (by omega), hb]
          · rw [pk_un (by omega), h2 j hj]
            by_cases c : j < i
            · rw [if_pos c, if_pos (by omega)]
            · rw [if_neg c, if_neg (by omega)]
        refine ew_aload_n g qd_M_count_17 rfl ?_
        refine ew_getR g qd_M_count_18 qf_M_59 (by decide) rfl rfl ?_
        refine ew_iconst g qd_M_count_21 ic_5 ?_
        refine ew_iload_n g qd_M_count_22 rfl ?_
        refine ew_imul g qd_M_count_23 ?_
        refine en_top (pk_mul _ _) ?_
        refine ew_iload_n g qd_M_count_24 rfl ?_
        refine ew_iadd g qd_M_count_25 ?_
        refine en_top (nI_add _ _) ?_
        refine ew_aload_n g qd_M_count_26 rfl ?_
        refine ew_getR g qd_M_count_27 qf_M_59 (by decide) rfl rfl ?_
        refine ew_iconst g qd_M_count_30 ic_5 ?_
        refine ew_iload_n g qd_M_count_31 rfl ?_
        refine ew_imul g qd_M_count_32 ?_
        refine en_top (pk_mul _ _) ?_
        refine ew_iload_n g qd_M_count_33 rfl ?_
        refine ew_iadd g qd_M_count_34 ?_
        refine en_top (nI_add _ _) ?_
        refine en_zald g qd_M_count_35 (by decide) rfl (by omega) (by omega) h57 ?_
        cases hs : sm i with
        | false =>
          rw [hs] at h63
          refine en_top bI_f ?_
          refine en_if_eq g qd_M_count_36 (tgt := 62) (by decide) (by omega) (fun hz2 => ?_) (fun hz2 => ?_)
          · refine ew_iconst g qd_M_count_62 ic_0 ?_
            refine en_top bI_f.symm ?_
            exact h63 false rfl
          · exact absurd rfl hz2
        | true =>
          rw [hs] at h63
          refine en_top bI_t ?_
          refine en_if_eq g qd_M_count_36 (tgt := 62) (by decide) (by omega) (fun hz2 => ?_) (fun hz2 => ?_)
          · exact absurd hz2 (by decide)
          · refine ew_aload_n g qd_M_count_39 rfl ?_
            refine ew_getR g qd_M_count_40 qf_M_56 (by decide) rfl rfl ?_
            refine ew_iconst g qd_M_count_43 ic_5 ?_
            refine ew_iload_n g qd_M_count_44 rfl ?_
            refine ew_imul g qd_M_count_45 ?_
            refine en_top (pk_mul _ _) ?_
            refine ew_iload_n g qd_M_count_46 rfl ?_
            refine ew_iadd g qd_M_count_47 ?_
            refine en_top (nI_add _ _) ?_
            refine en_iald g qd_M_count_48 (by decide) rfl (by omega) (by omega) (show sg1 56 (5 * p + i) = nI (lf i) by rw [h4 56 (by decide) (by decide)]; exact f1) ?_
            refine ew_aload_n g qd_M_count_49 rfl ?_
            refine ew_getR g qd_M_count_50 qf_M_20 (by decide) rfl rfl ?_
            refine ew_iload_n g qd_M_count_53 rfl ?_
            refine en_iald g qd_M_count_54 (by decide) rfl (by omega) (by omega) (show sg1 44 i = nI (cel i) by rw [h4 44 (by decide) (by decide)]; exact c1) ?_
            refine en_ne g qd_M_count_55 (tgt := 62) (by decide) (by omega) (by omega) (fun hne => ?_) (fun hne => ?_)
            · refine ew_iconst g qd_M_count_62 ic_0 ?_
              refine en_top bI_f.symm ?_
              exact h63 false (by rw [decide_eq_false hne]; rfl)
            · refine ew_iconst g qd_M_count_58 ic_1 ?_
              refine en_top bI_t.symm ?_
              refine ew_goto g qd_M_count_59 (tgt := 63) (by decide) ?_
              exact h63 true (by rw [decide_eq_true hne]; rfl)
  refine ew_aload_n g qd_M_count_0 rfl ?_
  refine ew_getR g qd_M_count_1 qf_M_50 (by decide) rfl rfl ?_
  refine ew_iload_n g qd_M_count_4 rfl ?_
  refine ew_dup2 g qd_M_count_5 ?_
  refine en_iald g qd_M_count_6 (by decide) rfl (by omega) (by omega) h54 ?_
  refine ew_iconst g qd_M_count_7 ic_1 ?_
  refine ew_iadd g qd_M_count_8 ?_
  refine en_top (nI_add _ _) ?_
  refine en_iast g qd_M_count_9 (by decide) rfl (by omega) (by omega) ?_
  refine ew_iconst g qd_M_count_10 ic_0 ?_
  refine ew_istore_n g qd_M_count_11 (by decide) ?_
  refine l1 5 0 _ rfl (by rw [sup_s]) (fun j hj => by rw [sup_n (by decide), if_neg (Nat.not_lt_zero _)]; exact hsm j hj) (fun y _ => by rw [sup_n (by decide)]) (fun o q1 _ => sup_n q1)
