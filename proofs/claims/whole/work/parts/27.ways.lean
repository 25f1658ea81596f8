/-! the ways: a list of (way, ending) without doubles -/
abbrev WKL : Type := List (List Nat × Nat)
def yE (sg : SG) (b j : Nat) (q : List Nat × Nat) : Prop := q.1.length ≤ 41 ∧ sg (b + 3) j = nI q.1.length ∧ sg (b + 4) j = shp q.1 ∧ sg (b + 5) j = nI q.2 ∧ q.2 ≤ 5 ∧ ∀ i, i < q.1.length → sg (b + 2) (j * 41 + i) = nI (q.1.getD i 0) ∧ q.1.getD i 0 < 32
def yW (sg : SG) (b : Nat) (ks : WKL) : Prop := ks.length ≤ 40 ∧ sg (b + 1) 4 = nI ks.length ∧ ks.Nodup ∧ ∀ (j : Nat) (q : List Nat × Nat), ks[j]? = some q → yE sg b j q
theorem getD_ext {a b : List Nat} (h : a.length = b.length) (e : ∀ i, i < a.length → a.getD i 0 = b.getD i 0) : a = b := by
  refine List.ext_getElem h (fun i h1 h2 => ?_)
  have := e i h1
  simpa [h1, h2] using this
theorem k_Y_isWayOf (w : WC) (l : Launch) (sg : SG) {b j e : Nat} {q : List Nat × Nat} {wl : List Nat} (hb : b = 10 ∨ b = 19) (hj : j < 40) (hq : yE sg b j q) (hw : xWay sg wl) (he : sg 1 6 = nI e) (h5 : e ≤ 5) : ew_M qS w l qy_Y_isWayOf qw_Y_isWayOf qr_Y_isWayOf [.inr (b + 1), .inr 1, .inl (nI j)] sg (fun v sg' => v = some (.inl (bI (decide (q = (wl, e))))) ∧ sg' = sg) := by
  obtain ⟨q1, q2, q3, q4, q5, q6⟩ := hq
  obtain ⟨w1, w2, w3, w4⟩ := hw
  refine ew_entry (ws' := qwg) (own := qR_Y) (cc := qc_Y_isWayOf) (nL := 5) (ret := some .boolean) qnk (by decide) rfl rfl (Nat.le_of_ble_eq_true rfl) ?_
  intro k g hp
  have hno : ¬ q = (wl, e) → ew_E qS w 5 k 39 [some (.inr (b + 1)), some (.inr 1), some (.inl (nI j)), none, none] [] sg := by
    intro hne
    refine ew_iconst g qd_Y_isWayOf_39 ic_0 ?_
    refine ew_zret g qd_Y_isWayOf_40 hp (by first | exact bI_nar _ | decide +kernel) ?_
    rw [decide_eq_false hne]
    exact ⟨rfl, rfl⟩
  refine ew_aload_n g qd_Y_isWayOf_0 rfl ?_
  refine ew_getR g qd_Y_isWayOf_1 qf_Y_18 (by first | decide | exact lyo0 hb | exact lyo1 hb | exact lyo2 hb | exact lyo3 hb | exact lyo4 hb | exact lyo5 hb | exact lyo6 hb | exact lyo7 hb | exact lyo8 hb) (by first | rfl | exact lyB hb | exact lyY hb | exact lyA2 hb | exact lyA3 hb | exact lyA4 hb | exact lyA5 hb | exact lyA6 hb | exact lyA7 hb | exact lyA8 hb) rfl ?_
  refine ew_iload_n g qd_Y_isWayOf_4 rfl ?_
  refine en_iald g qd_Y_isWayOf_5 (by first | decide | exact lyo0 hb | exact lyo1 hb | exact lyo2 hb | exact lyo3 hb | exact lyo4 hb | exact lyo5 hb | exact lyo6 hb | exact lyo7 hb | exact lyo8 hb) (by first | rfl | exact lyB hb | exact lyY hb | exact lyA2 hb | exact lyA3 hb | exact lyA4 hb | exact lyA5 hb | exact lyA6 hb | exact lyA7 hb | exact lyA8 hb) (by omega) (by omega) q3 ?_
  refine ew_aload_n g qd_Y_isWayOf_6 rfl ?_
  refine ew_get g qd_Y_isWayOf_7 qf_Y_40 (by first | decide | exact lyo0 hb | exact lyo1 hb | exact lyo2 hb | exact lyo3 hb | exact lyo4 hb | exact lyo5 hb | exact lyo6 hb | exact lyo7 hb | exact lyo8 hb) (by first | rfl | exact lyB hb | exact lyY hb | exact lyA2 hb | exact lyA3 hb | exact lyA4 hb | exact lyA5 hb | exact lyA6 hb | exact lyA7 hb | exact lyA8 hb) rfl ?_
  refine en_top w3 ?_
  refine ew_icmp_ne g qd_Y_isWayOf_10 (tgt := 39) (by decide) (fun h => ?_) (fun h => ?_)
  · exact hno (fun z => h (by rw [z]))
  · refine ew_aload_n g qd_Y_isWayOf_13 rfl ?_
    refine ew_getR g qd_Y_isWayOf_14 qf_Y_21 (by first | decide | exact lyo0 hb | exact lyo1 hb | exact lyo2 hb | exact lyo3 hb | exact lyo4 hb | exact lyo5 hb | exact lyo6 hb | exact lyo7 hb | exact lyo8 hb) (by first | rfl | exact lyB hb | exact lyY hb | exact lyA2 hb | exact lyA3 hb | exact lyA4 hb | exact lyA5 hb | exact lyA6 hb | exact lyA7 hb | exact lyA8 hb) rfl ?_
    refine ew_iload_n g qd_Y_isWayOf_17 rfl ?_
    refine en_iald g qd_Y_isWayOf_18 (by first | decide | exact lyo0 hb | exact lyo1 hb | exact lyo2 hb | exact lyo3 hb | exact lyo4 hb | exact lyo5 hb | exact lyo6 hb | exact lyo7 hb | exact lyo8 hb) (by first | rfl | exact lyB hb | exact lyY hb | exact lyA2 hb | exact lyA3 hb | exact lyA4 hb | exact lyA5 hb | exact lyA6 hb | exact lyA7 hb | exact lyA8 hb) (by omega) (by omega) q4 ?_
    refine ew_aload_n g qd_Y_isWayOf_19 rfl ?_
    refine ew_get g qd_Y_isWayOf_20 qf_Y_45 (by first | decide | exact lyo0 hb | exact lyo1 hb | exact lyo2 hb | exact lyo3 hb | exact lyo4 hb | exact lyo5 hb | exact lyo6 hb | exact lyo7 hb | exact lyo8 hb) (by first | rfl | exact lyB hb | exact lyY hb | exact lyA2 hb | exact lyA3 hb | exact lyA4 hb | exact lyA5 hb | exact lyA6 hb | exact lyA7 hb | exact lyA8 hb) rfl ?_
    refine en_top he ?_
    refine en_ne g qd_Y_isWayOf_23 (tgt := 39) (by decide) (by omega) (by omega) (fun h2 => ?_) (fun h2 => ?_)
    · exact hno (fun z => h2 (by rw [z]))
    · refine ew_aload_n g qd_Y_isWayOf_26 rfl ?_
      refine ew_getR g qd_Y_isWayOf_27 qf_Y_15 (by first | decide | exact lyo0 hb | exact lyo1 hb | exact lyo2 hb | exact lyo3 hb | exact lyo4 hb | exact lyo5 hb | exact lyo6 hb | exact lyo7 hb | exact lyo8 hb) (by first | rfl | exact lyB hb | exact lyY hb | exact lyA2 hb | exact lyA3 hb | exact lyA4 hb | exact lyA5 hb | exact lyA6 hb | exact lyA7 hb | exact lyA8 hb) rfl ?_
      refine ew_iload_n g qd_Y_isWayOf_30 rfl ?_
      refine en_iald g qd_Y_isWayOf_31 (by first | decide | exact lyo0 hb | exact lyo1 hb | exact lyo2 hb | exact lyo3 hb | exact lyo4 hb | exact lyo5 hb | exact lyo6 hb | exact lyo7 hb | exact lyo8 hb) (by first | rfl | exact lyB hb | exact lyY hb | exact lyA2 hb | exact lyA3 hb | exact lyA4 hb | exact lyA5 hb | exact lyA6 hb | exact lyA7 hb | exact lyA8 hb) (by omega) (by omega) q2 ?_
      refine ew_aload_n g qd_Y_isWayOf_32 rfl ?_
      refine ew_get g qd_Y_isWayOf_33 qf_Y_48 (by first | decide | exact lyo0 hb | exact lyo1 hb | exact lyo2 hb | exact lyo3 hb | exact lyo4 hb | exact lyo5 hb | exact lyo6 hb | exact lyo7 hb | exact lyo8 hb) (by first | rfl | exact lyB hb | exact lyY hb | exact lyA2 hb | exact lyA3 hb | exact lyA4 hb | exact lyA5 hb | exact lyA6 hb | exact lyA7 hb | exact lyA8 hb) rfl ?_
      refine en_top w2 ?_
      refine en_eq g qd_Y_isWayOf_36 (tgt := 41) (by decide) (by omega) (by omega) (fun h3 => ?_) (fun h3 => ?_)
      · have key : ∀ (d i : Nat), i + d = wl.length → (∀ i', i' < i → q.1.getD i' 0 = wl.getD i' 0) → ew_E qS w 5 k 49 [some (.inr (b + 1)), some (.inr 1), some (.inl (nI j)), some (.inl (nI (j * 41))), some (.inl (nI i))] [] sg := by
          intro d
          induction d with
          | zero =>
            intro i hi hinv
            refine ew_iload g qd_Y_isWayOf_49 rfl ?_
            refine ew_aload_n g qd_Y_isWayOf_51 rfl ?_
            refine ew_get g qd_Y_isWayOf_52 qf_Y_48 (by first | decide | exact lyo0 hb | exact lyo1 hb | exact lyo2 hb | exact lyo3 hb | exact lyo4 hb | exact lyo5 hb | exact lyo6 hb | exact lyo7 hb | exact lyo8 hb) (by first | rfl | exact lyB hb | exact lyY hb | exact lyA2 hb | exact lyA3 hb | exact lyA4 hb | exact lyA5 hb | exact lyA6 hb | exact lyA7 hb | exact lyA8 hb) rfl ?_
            refine en_top w2 ?_
            refine en_ge g qd_Y_isWayOf_55 (tgt := 85) (by decide) (by omega) (by omega) (fun h4 => ?_) (fun h4 => ?_)
            · refine ew_iconst g qd_Y_isWayOf_85 ic_1 ?_
              refine ew_zret g qd_Y_isWayOf_86 hp (by first | exact bI_nar _ | decide +kernel) ?_
              have e1 : q.1 = wl := getD_ext h3 (fun i' hi' => hinv i' (by omega))
              have e2 : q = (wl, e) := Prod.ext e1 h2
              rw [decide_eq_true e2]
              exact ⟨rfl, rfl⟩
            · omega
          | succ d ih =>
            intro i hi hinv
            have e1 := q6 i (by omega)
            have e2 := w4 i (by omega)
            refine ew_iload g qd_Y_isWayOf_49 rfl ?_
            refine ew_aload_n g qd_Y_isWayOf_51 rfl ?_
            refine ew_get g qd_Y_isWayOf_52 qf_Y_48 (by first | decide | exact lyo0 hb | exact lyo1 hb | exact lyo2 hb | exact lyo3 hb | exact lyo4 hb | exact lyo5 hb | exact lyo6 hb | exact lyo7 hb | exact lyo8 hb) (by first | rfl | exact lyB hb | exact lyY hb | exact lyA2 hb | exact lyA3 hb | exact lyA4 hb | exact lyA5 hb | exact lyA6 hb | exact lyA7 hb | exact lyA8 hb) rfl ?_
            refine en_top w2 ?_
            refine en_ge g qd_Y_isWayOf_55 (tgt := 85) (by decide) (by omega) (by omega) (fun h4 => ?_) (fun h4 => ?_)
            · omega
            · refine ew_aload_n g qd_Y_isWayOf_58 rfl ?_
              refine ew_getR g qd_Y_isWayOf_59 qf_Y_9 (by first | decide | exact lyo0 hb | exact lyo1 hb | exact lyo2 hb | exact lyo3 hb | exact lyo4 hb | exact lyo5 hb | exact lyo6 hb | exact lyo7 hb | exact lyo8 hb) (by first | rfl | exact lyB hb | exact lyY hb | exact lyA2 hb | exact lyA3 hb | exact lyA4 hb | exact lyA5 hb | exact lyA6 hb | exact lyA7 hb | exact lyA8 hb) rfl ?_
              refine ew_iload_n g qd_Y_isWayOf_62 rfl ?_
              refine ew_iload g qd_Y_isWayOf_63 rfl ?_
              refine ew_iadd g qd_Y_isWayOf_65 ?_
              refine en_top (nI_add _ _) ?_
              refine en_iald g qd_Y_isWayOf_66 (by first | decide | exact lyo0 hb | exact lyo1 hb | exact lyo2 hb | exact lyo3 hb | exact lyo4 hb | exact lyo5 hb | exact lyo6 hb | exact lyo7 hb | exact lyo8 hb) (by first | rfl | exact lyB hb | exact lyY hb | exact lyA2 hb | exact lyA3 hb | exact lyA4 hb | exact lyA5 hb | exact lyA6 hb | exact lyA7 hb | exact lyA8 hb) (by omega) (by omega) e1.1 ?_
              refine ew_aload_n g qd_Y_isWayOf_67 rfl ?_
              refine ew_getR g qd_Y_isWayOf_68 qf_Y_51 (by first | decide | exact lyo0 hb | exact lyo1 hb | exact lyo2 hb | exact lyo3 hb | exact lyo4 hb | exact lyo5 hb | exact lyo6 hb | exact lyo7 hb | exact lyo8 hb) (by first | rfl | exact lyB hb | exact lyY hb | exact lyA2 hb | exact lyA3 hb | exact lyA4 hb | exact lyA5 hb | exact lyA6 hb | exact lyA7 hb | exact lyA8 hb) rfl ?_
              refine ew_iload g qd_Y_isWayOf_71 rfl ?_
              refine en_iald g qd_Y_isWayOf_73 (by first | decide | exact lyo0 hb | exact lyo1 hb | exact lyo2 hb | exact lyo3 hb | exact lyo4 hb | exact lyo5 hb | exact lyo6 hb | exact lyo7 hb | exact lyo8 hb) (by first | rfl | exact lyB hb | exact lyY hb | exact lyA2 hb | exact lyA3 hb | exact lyA4 hb | exact lyA5 hb | exact lyA6 hb | exact lyA7 hb | exact lyA8 hb) (by omega) (by omega) e2.1 ?_
              refine en_eq g qd_Y_isWayOf_74 (tgt := 79) (by decide) (by omega) (by omega) (fun h5 => ?_) (fun h5 => ?_)
              · refine ew_iinc g qd_Y_isWayOf_79 (by decide) rfl (ii_1 _) ?_
                refine ew_goto g qd_Y_isWayOf_82 (tgt := 49) (by decide) ?_
                refine ih (i + 1) (by omega) (fun i' hi' => ?_)
                by_cases ee : i' = i
                · rw [ee]; exact h5
                · exact hinv i' (by omega)
              · refine ew_iconst g qd_Y_isWayOf_77 ic_0 ?_
                refine ew_zret g qd_Y_isWayOf_78 hp (by first | exact bI_nar _ | decide +kernel) ?_
                have hne : ¬ q = (wl, e) := fun z => h5 (by rw [z])
                rw [decide_eq_false hne]
                exact ⟨rfl, rfl⟩
        refine ew_iload_n g qd_Y_isWayOf_41 rfl ?_
        refine ew_bipush g qd_Y_isWayOf_42 bp_41 ?_
        refine ew_imul g qd_Y_isWayOf_44 ?_
        refine en_top (pk_mul _ _) ?_
        refine ew_istore_n g qd_Y_isWayOf_45 (by decide) ?_
        refine ew_iconst g qd_Y_isWayOf_46 ic_0 ?_
        refine ew_istore g qd_Y_isWayOf_47 (by decide) ?_
        exact key wl.length 0 (by omega) (fun i' hi' => absurd hi' (Nat.not_lt_zero i'))
      · exact hno (fun z => h3 (by rw [z]))
/-- the steps of a way being kept -/
def kpS (sg : SG) (o f : Nat) (wl : List Nat) (n : Nat) : SG := fun q => if q = o then (fun p => if f ≤ p ∧ p < f + n then nI (wl.getD (p - f) 0) else sg o p) else sg q
theorem kpS_0 (sg : SG) (o f : Nat) (wl : List Nat) : kpS sg o f wl 0 = sg := by
  funext q p
  unfold kpS
  by_cases h : q = o
  · subst h
    simp only [if_true]
    rw [if_neg (by omega)]
  · simp [h]
theorem kpS_s (sg : SG) (o f : Nat) (wl : List Nat) (n : Nat) : sup (kpS sg o f wl n) o (f + n) (nI (wl.getD n 0)) = kpS sg o f wl (n + 1) := by
  funext q p
  unfold sup kpS upd
  by_cases h : q = o
  · subst h
    simp only [if_true]
    by_cases h1 : p = f + n
    · subst h1
      rw [if_pos rfl, if_pos (by omega), Nat.add_sub_cancel_left]
    · rw [if_neg h1]
      by_cases h2 : f ≤ p ∧ p < f + n
      · rw [if_pos h2, if_pos (by omega)]
      · rw [if_neg h2, if_neg (by omega)]
  · simp [h]
theorem kpS_n {sg : SG} {o f : Nat} {wl : List Nat} {n q : Nat} (h : q ≠ o) : kpS sg o f wl n q = sg q := if_neg h
theorem kpS_at {sg : SG} {o f : Nat} {wl : List Nat} {n i : Nat} (h : i < n) : kpS sg o f wl n o (f + i) = nI (wl.getD i 0) := by
  unfold kpS
  rw [if_pos rfl, if_pos (by omega), Nat.add_sub_cancel_left]
theorem kpS_lt {sg : SG} {o f : Nat} {wl : List Nat} {n p : Nat} (h : p < f) : kpS sg o f wl n o p = sg o p := by
  unfold kpS
  rw [if_pos rfl, if_neg (by omega)]
def keF (sg : SG) (b j e : Nat) (wl : List Nat) : SG := sup (sup (sup sg (b + 4) j (shp wl)) (b + 5) j (nI e)) (b + 3) j (nI wl.length)
theorem k_Y_keep (w : WC) (l : Launch) (sg : SG) {b j e : Nat} {wl : List Nat} (hb : b = 10 ∨ b = 19) (hj : j < 40) (hw : xWay sg wl) (he : sg 1 6 = nI e) : ew_M qS w l qy_Y_keep qw_Y_keep qr_Y_keep [.inr (b + 1), .inr 1, .inl (nI j)] sg (fun v sg' => v = none ∧ sg' = kpS (keF sg b j e wl) (b + 2) (j * 41) wl wl.length) := by
  obtain ⟨w1, w2, w3, w4⟩ := hw
  have n1 : 1 ≠ b + 2 ∧ 1 ≠ b + 3 ∧ 1 ≠ b + 4 ∧ 1 ≠ b + 5 ∧ 7 ≠ b + 2 ∧ 7 ≠ b + 3 ∧ 7 ≠ b + 4 ∧ 7 ≠ b + 5 := by omega
  obtain ⟨n12, n13, n14, n15, n72, n73, n74, n75⟩ := n1
  have f1 : keF sg b j e wl 1 = sg 1 := by unfold keF; rw [sup_n n13, sup_n n15, sup_n n14]
  have f7 : keF sg b j e wl 7 = sg 7 := by unfold keF; rw [sup_n n73, sup_n n75, sup_n n74]
  refine ew_entry (ws' := qwg) (own := qR_Y) (cc := qc_Y_keep) (nL := 5) (ret := none) qnk (by decide) rfl rfl (Nat.le_of_ble_eq_true rfl) ?_
  intro k g hp
  refine ew_aload_n g qd_Y_keep_0 rfl ?_
  refine ew_getR g qd_Y_keep_1 qf_Y_18 (by first | decide | exact lyo0 hb | exact lyo1 hb | exact lyo2 hb | exact lyo3 hb | exact lyo4 hb | exact lyo5 hb | exact lyo6 hb | exact lyo7 hb | exact lyo8 hb) (by first | rfl | exact lyB hb | exact lyY hb | exact lyA2 hb | exact lyA3 hb | exact lyA4 hb | exact lyA5 hb | exact lyA6 hb | exact lyA7 hb | exact lyA8 hb) rfl ?_
  refine ew_iload_n g qd_Y_keep_4 rfl ?_
  refine ew_aload_n g qd_Y_keep_5 rfl ?_
  refine ew_get g qd_Y_keep_6 qf_Y_40 (by first | decide | exact lyo0 hb | exact lyo1 hb | exact lyo2 hb | exact lyo3 hb | exact lyo4 hb | exact lyo5 hb | exact lyo6 hb | exact lyo7 hb | exact lyo8 hb) (by first | rfl | exact lyB hb | exact lyY hb | exact lyA2 hb | exact lyA3 hb | exact lyA4 hb | exact lyA5 hb | exact lyA6 hb | exact lyA7 hb | exact lyA8 hb) rfl ?_
  refine en_top w3 ?_
  refine en_iast g qd_Y_keep_9 (by first | decide | exact lyo0 hb | exact lyo1 hb | exact lyo2 hb | exact lyo3 hb | exact lyo4 hb | exact lyo5 hb | exact lyo6 hb | exact lyo7 hb | exact lyo8 hb) (by first | rfl | exact lyB hb | exact lyY hb | exact lyA2 hb | exact lyA3 hb | exact lyA4 hb | exact lyA5 hb | exact lyA6 hb | exact lyA7 hb | exact lyA8 hb) (by omega) (by omega) ?_
  refine ew_aload_n g qd_Y_keep_10 rfl ?_
  refine ew_getR g qd_Y_keep_11 qf_Y_21 (by first | decide | exact lyo0 hb | exact lyo1 hb | exact lyo2 hb | exact lyo3 hb | exact lyo4 hb | exact lyo5 hb | exact lyo6 hb | exact lyo7 hb | exact lyo8 hb) (by first | rfl | exact lyB hb | exact lyY hb | exact lyA2 hb | exact lyA3 hb | exact lyA4 hb | exact lyA5 hb | exact lyA6 hb | exact lyA7 hb | exact lyA8 hb) rfl ?_
  refine ew_iload_n g qd_Y_keep_14 rfl ?_
  refine ew_aload_n g qd_Y_keep_15 rfl ?_
  refine ew_get g qd_Y_keep_16 qf_Y_45 (by first | decide | exact lyo0 hb | exact lyo1 hb | exact lyo2 hb | exact lyo3 hb | exact lyo4 hb | exact lyo5 hb | exact lyo6 hb | exact lyo7 hb | exact lyo8 hb) (by first | rfl | exact lyB hb | exact lyY hb | exact lyA2 hb | exact lyA3 hb | exact lyA4 hb | exact lyA5 hb | exact lyA6 hb | exact lyA7 hb | exact lyA8 hb) rfl ?_
  refine en_top (show sup sg (b + 4) j (shp wl) 1 6 = nI e by rw [sup_n n14]; exact he) ?_
  refine en_iast g qd_Y_keep_19 (by first | decide | exact lyo0 hb | exact lyo1 hb | exact lyo2 hb | exact lyo3 hb | exact lyo4 hb | exact lyo5 hb | exact lyo6 hb | exact lyo7 hb | exact lyo8 hb) (by first | rfl | exact lyB hb | exact lyY hb | exact lyA2 hb | exact lyA3 hb | exact lyA4 hb | exact lyA5 hb | exact lyA6 hb | exact lyA7 hb | exact lyA8 hb) (by omega) (by omega) ?_
  refine ew_aload_n g qd_Y_keep_20 rfl ?_
  refine ew_getR g qd_Y_keep_21 qf_Y_15 (by first | decide | exact lyo0 hb | exact lyo1 hb | exact lyo2 hb | exact lyo3 hb | exact lyo4 hb | exact lyo5 hb | exact lyo6 hb | exact lyo7 hb | exact lyo8 hb) (by first | rfl | exact lyB hb | exact lyY hb | exact lyA2 hb | exact lyA3 hb | exact lyA4 hb | exact lyA5 hb | exact lyA6 hb | exact lyA7 hb | exact lyA8 hb) rfl ?_
  refine ew_iload_n g qd_Y_keep_24 rfl ?_
  refine ew_aload_n g qd_Y_keep_25 rfl ?_
  refine ew_get g qd_Y_keep_26 qf_Y_48 (by first | decide | exact lyo0 hb | exact lyo1 hb | exact lyo2 hb | exact lyo3 hb | exact lyo4 hb | exact lyo5 hb | exact lyo6 hb | exact lyo7 hb | exact lyo8 hb) (by first | rfl | exact lyB hb | exact lyY hb | exact lyA2 hb | exact lyA3 hb | exact lyA4 hb | exact lyA5 hb | exact lyA6 hb | exact lyA7 hb | exact lyA8 hb) rfl ?_
  refine en_top (show sup (sup sg (b + 4) j (shp wl)) (b + 5) j (nI e) 1 11 = nI wl.length by rw [sup_n n15, sup_n n14]; exact w2) ?_
  refine en_iast g qd_Y_keep_29 (by first | decide | exact lyo0 hb | exact lyo1 hb | exact lyo2 hb | exact lyo3 hb | exact lyo4 hb | exact lyo5 hb | exact lyo6 hb | exact lyo7 hb | exact lyo8 hb) (by first | rfl | exact lyB hb | exact lyY hb | exact lyA2 hb | exact lyA3 hb | exact lyA4 hb | exact lyA5 hb | exact lyA6 hb | exact lyA7 hb | exact lyA8 hb) (by omega) (by omega) ?_
  refine ew_iload_n g qd_Y_keep_30 rfl ?_
  refine ew_bipush g qd_Y_keep_31 bp_41 ?_
  refine ew_imul g qd_Y_keep_33 ?_
  refine en_top (pk_mul _ _) ?_
  refine ew_istore_n g qd_Y_keep_34 (by decide) ?_
  refine ew_iconst g qd_Y_keep_35 ic_0 ?_
  refine ew_istore g qd_Y_keep_36 (by decide) ?_
  have key : ∀ (d i : Nat), i + d = wl.length → ew_E qS w 5 k 38 [some (.inr (b + 1)), some (.inr 1), some (.inl (nI j)), some (.inl (nI (j * 41))), some (.inl (nI i))] [] (kpS (keF sg b j e wl) (b + 2) (j * 41) wl i) := by
    intro d
    induction d with
    | zero =>
      intro i hi
      refine ew_iload g qd_Y_keep_38 rfl ?_
      refine ew_aload_n g qd_Y_keep_40 rfl ?_
      refine ew_get g qd_Y_keep_41 qf_Y_48 (by first | decide | exact lyo0 hb | exact lyo1 hb | exact lyo2 hb | exact lyo3 hb | exact lyo4 hb | exact lyo5 hb | exact lyo6 hb | exact lyo7 hb | exact lyo8 hb) (by first | rfl | exact lyB hb | exact lyY hb | exact lyA2 hb | exact lyA3 hb | exact lyA4 hb | exact lyA5 hb | exact lyA6 hb | exact lyA7 hb | exact lyA8 hb) rfl ?_
      refine en_top (show kpS (keF sg b j e wl) (b + 2) (j * 41) wl i 1 11 = nI wl.length by rw [kpS_n n12, f1]; exact w2) ?_
      refine en_ge g qd_Y_keep_44 (tgt := 69) (by decide) (by omega) (by omega) (fun h => ?_) (fun h => ?_)
      · refine ew_vret g qd_Y_keep_69 hp ?_
        have ee : i = wl.length := by omega
        rw [ee]
        exact ⟨rfl, rfl⟩
      · omega
    | succ d ih =>
      intro i hi
      refine ew_iload g qd_Y_keep_38 rfl ?_
      refine ew_aload_n g qd_Y_keep_40 rfl ?_
      refine ew_get g qd_Y_keep_41 qf_Y_48 (by first | decide | exact lyo0 hb | exact lyo1 hb | exact lyo2 hb | exact lyo3 hb | exact lyo4 hb | exact lyo5 hb | exact lyo6 hb | exact lyo7 hb | exact lyo8 hb) (by first | rfl | exact lyB hb | exact lyY hb | exact lyA2 hb | exact lyA3 hb | exact lyA4 hb | exact lyA5 hb | exact lyA6 hb | exact lyA7 hb | exact lyA8 hb) rfl ?_
      refine en_top (show kpS (keF sg b j e wl) (b + 2) (j * 41) wl i 1 11 = nI wl.length by rw [kpS_n n12, f1]; exact w2) ?_
      refine en_ge g qd_Y_keep_44 (tgt := 69) (by decide) (by omega) (by omega) (fun h => ?_) (fun h => ?_)
      · omega
      · refine ew_aload_n g qd_Y_keep_47 rfl ?_
        refine ew_getR g qd_Y_keep_48 qf_Y_9 (by first | decide | exact lyo0 hb | exact lyo1 hb | exact lyo2 hb | exact lyo3 hb | exact lyo4 hb | exact lyo5 hb | exact lyo6 hb | exact lyo7 hb | exact lyo8 hb) (by first | rfl | exact lyB hb | exact lyY hb | exact lyA2 hb | exact lyA3 hb | exact lyA4 hb | exact lyA5 hb | exact lyA6 hb | exact lyA7 hb | exact lyA8 hb) rfl ?_
        refine ew_iload_n g qd_Y_keep_51 rfl ?_
        refine ew_iload g qd_Y_keep_52 rfl ?_
        refine ew_iadd g qd_Y_keep_54 ?_
        refine en_top (nI_add _ _) ?_
        refine ew_aload_n g qd_Y_keep_55 rfl ?_
        refine ew_getR g qd_Y_keep_56 qf_Y_51 (by first | decide | exact lyo0 hb | exact lyo1 hb | exact lyo2 hb | exact lyo3 hb | exact lyo4 hb | exact lyo5 hb | exact lyo6 hb | exact lyo7 hb | exact lyo8 hb) (by first | rfl | exact lyB hb | exact lyY hb | exact lyA2 hb | exact lyA3 hb | exact lyA4 hb | exact lyA5 hb | exact lyA6 hb | exact lyA7 hb | exact lyA8 hb) rfl ?_
        refine ew_iload g qd_Y_keep_59 rfl ?_
        refine en_iald g qd_Y_keep_61 (by first | decide | exact lyo0 hb | exact lyo1 hb | exact lyo2 hb | exact lyo3 hb | exact lyo4 hb | exact lyo5 hb | exact lyo6 hb | exact lyo7 hb | exact lyo8 hb) (by first | rfl | exact lyB hb | exact lyY hb | exact lyA2 hb | exact lyA3 hb | exact lyA4 hb | exact lyA5 hb | exact lyA6 hb | exact lyA7 hb | exact lyA8 hb) (by omega) (by omega) (show kpS (keF sg b j e wl) (b + 2) (j * 41) wl i 7 i = nI (wl.getD i 0) by rw [kpS_n n72, f7]; exact (w4 i h).1) ?_
        refine en_iast g qd_Y_keep_62 (by first | decide | exact lyo0 hb | exact lyo1 hb | exact lyo2 hb | exact lyo3 hb | exact lyo4 hb | exact lyo5 hb | exact lyo6 hb | exact lyo7 hb | exact lyo8 hb) (by first | rfl | exact lyB hb | exact lyY hb | exact lyA2 hb | exact lyA3 hb | exact lyA4 hb | exact lyA5 hb | exact lyA6 hb | exact lyA7 hb | exact lyA8 hb) (by omega) (by omega) ?_
        refine ew_iinc g qd_Y_keep_63 (by decide) rfl (ii_1 _) ?_
        refine ew_goto g qd_Y_keep_66 (tgt := 38) (by decide) ?_
        exact en_sg (kpS_s _ _ _ _ _) (ih (i + 1) (by omega))
  exact en_sg (kpS_0 _ _ _ _).symm (key wl.length 0 (by omega))
def yFr (b : Nat) (sg sg' : SG) : Prop := ∀ o, o < b + 1 ∨ b + 5 < o → sg' o = sg o
theorem yE_fr {sg sg' : SG} {b j : Nat} {q : List Nat × Nat} (h : yE sg b j q) (h2 : ∀ p, p < j * 41 + 41 → sg' (b + 2) p = sg (b + 2) p) (h3 : sg' (b + 3) j = sg (b + 3) j) (h4 : sg' (b + 4) j = sg (b + 4) j) (h5 : sg' (b + 5) j = sg (b + 5) j) : yE sg' b j q := by
  obtain ⟨q1, q2, q3, q4, q5, q6⟩ := h
  unfold yE
  rw [h3, h4, h5]
  refine ⟨q1, q2, q3, q4, q5, fun i hi => ?_⟩
  rw [h2 _ (by omega)]
  exact q6 i hi
theorem k_Y_numberOf (w : WC) (l : Launch) (sg : SG) {b e : Nat} {ks : WKL} {wl : List Nat} (hb : b = 10 ∨ b = 19) (hk : yW sg b ks) (hw : xWay sg wl) (he : sg 1 6 = nI e) (h5 : e ≤ 5) : ew_M qS w l qy_Y_numberOf qw_Y_numberOf qr_Y_numberOf [.inr (b + 1), .inr 1] sg (fun v sg' => (∃ j, ks[j]? = some (wl, e) ∧ v = some (.inl (nI j)) ∧ sg' = sg) ∨ ((wl, e) ∉ ks ∧ ks.length < 40 ∧ v = some (.inl (nI ks.length)) ∧ yW sg' b (ks ++ [(wl, e)]) ∧ yFr b sg sg') ∨ ((wl, e) ∉ ks ∧ ks.length = 40 ∧ v = some (.inl (-1)) ∧ sg' = sg)) := by
  obtain ⟨k1, k2, k3, k4⟩ := id hk
  refine ew_entry (ws' := qwg) (own := qR_Y) (cc := qc_Y_numberOf) (nL := 3) (ret := some .int) qnk (by decide) rfl rfl (Nat.le_of_ble_eq_true rfl) ?_
  intro k g hp
  have hend : (wl, e) ∉ ks → ∀ x, ew_E qS w 3 k 27 [some (.inr (b + 1)), some (.inr 1), x] [] sg := by
    intro hni x
    refine ew_aload_n g qd_Y_numberOf_27 rfl ?_
    refine ew_get g qd_Y_numberOf_28 qf_Y_24 (by first | decide | exact lyo0 hb | exact lyo1 hb | exact lyo2 hb | exact lyo3 hb | exact lyo4 hb | exact lyo5 hb | exact lyo6 hb | exact lyo7 hb | exact lyo8 hb) (by first | rfl | exact lyB hb | exact lyY hb | exact lyA2 hb | exact lyA3 hb | exact lyA4 hb | exact lyA5 hb | exact lyA6 hb | exact lyA7 hb | exact lyA8 hb) rfl ?_
    refine en_top k2 ?_
    refine ew_bipush g qd_Y_numberOf_31 bp_40 ?_
    refine en_lt g qd_Y_numberOf_33 (tgt := 38) (by decide) (by omega) (by omega) (fun h => ?_) (fun h => ?_)
    · refine ew_aload_n g qd_Y_numberOf_38 rfl ?_
      refine ew_aload_n g qd_Y_numberOf_39 rfl ?_
      refine ew_aload_n g qd_Y_numberOf_40 rfl ?_
      refine ew_get g qd_Y_numberOf_41 qf_Y_24 (by first | decide | exact lyo0 hb | exact lyo1 hb | exact lyo2 hb | exact lyo3 hb | exact lyo4 hb | exact lyo5 hb | exact lyo6 hb | exact lyo7 hb | exact lyo8 hb) (by first | rfl | exact lyB hb | exact lyY hb | exact lyA2 hb | exact lyA3 hb | exact lyA4 hb | exact lyA5 hb | exact lyA6 hb | exact lyA7 hb | exact lyA8 hb) rfl ?_
      refine en_top k2 ?_
      refine ew_callV g qd_Y_numberOf_44 (k_Y_keep w k.2.1 sg hb h hw he) qv_Y_32 (by first | decide | exact lyo0 hb | exact lyo1 hb | exact lyo2 hb | exact lyo3 hb | exact lyo4 hb | exact lyo5 hb | exact lyo6 hb | exact lyo7 hb | exact lyo8 hb) (by first | rfl | exact lyB hb | exact lyY hb | exact lyA2 hb | exact lyA3 hb | exact lyA4 hb | exact lyA5 hb | exact lyA6 hb | exact lyA7 hb | exact lyA8 hb) ⟨_, _, rfl⟩ rfl rfl (Nat.le_of_ble_eq_true rfl) ⟨rfl, rfl, by decide, by decide⟩ (fun v sg1 hv  => ?_)
      obtain ⟨rfl, hv⟩ := hv
      have fo : ∀ q, q < b + 2 ∨ b + 5 < q → sg1 q = sg q := by
        intro q hq
        rw [hv, kpS_n (by omega)]
        unfold keF
        rw [sup_n (by omega), sup_n (by omega), sup_n (by omega)]
      have fc : sg1 (b + 1) 4 = nI ks.length := by rw [fo _ (by omega)]; exact k2
      refine ew_aload_n g qd_Y_numberOf_47 rfl ?_
      refine ew_dup g qd_Y_numberOf_48 ?_
      refine ew_get g qd_Y_numberOf_49 qf_Y_24 (by first | decide | exact lyo0 hb | exact lyo1 hb | exact lyo2 hb | exact lyo3 hb | exact lyo4 hb | exact lyo5 hb | exact lyo6 hb | exact lyo7 hb | exact lyo8 hb) (by first | rfl | exact lyB hb | exact lyY hb | exact lyA2 hb | exact lyA3 hb | exact lyA4 hb | exact lyA5 hb | exact lyA6 hb | exact lyA7 hb | exact lyA8 hb) rfl ?_
      refine en_top fc ?_
      refine ew_iconst g qd_Y_numberOf_52 ic_1 ?_
      refine ew_iadd g qd_Y_numberOf_53 ?_
      refine en_top (nI_add _ _) ?_
      refine ew_put g qd_Y_numberOf_54 qf_Y_24 (qp_Y_count _) (by first | decide | exact lyo0 hb | exact lyo1 hb | exact lyo2 hb | exact lyo3 hb | exact lyo4 hb | exact lyo5 hb | exact lyo6 hb | exact lyo7 hb | exact lyo8 hb) (by first | rfl | exact lyB hb | exact lyY hb | exact lyA2 hb | exact lyA3 hb | exact lyA4 hb | exact lyA5 hb | exact lyA6 hb | exact lyA7 hb | exact lyA8 hb) rfl ?_
      refine ew_aload_n g qd_Y_numberOf_57 rfl ?_
      refine ew_get g qd_Y_numberOf_58 qf_Y_24 (by first | decide | exact lyo0 hb | exact lyo1 hb | exact lyo2 hb | exact lyo3 hb | exact lyo4 hb | exact lyo5 hb | exact lyo6 hb | exact lyo7 hb | exact lyo8 hb) (by first | rfl | exact lyB hb | exact lyY hb | exact lyA2 hb | exact lyA3 hb | exact lyA4 hb | exact lyA5 hb | exact lyA6 hb | exact lyA7 hb | exact lyA8 hb) rfl ?_
      refine en_top (show sup sg1 (b + 1) 4 (nI (ks.length + 1)) (b + 1) 4 = nI (ks.length + 1) by rw [sup_s, pk_us]) ?_
      refine ew_iconst g qd_Y_numberOf_61 ic_1 ?_
      refine ew_isub g qd_Y_numberOf_62 ?_
      refine en_top (pk_sub (by omega)) ?_
      refine ew_iret g qd_Y_numberOf_63 hp ?_
      refine Or.inr (Or.inl ⟨hni, h, rfl, ⟨?_, ?_, ?_, ?_⟩, ?_⟩)
      · simp; omega
      · rw [sup_s, pk_us]; simp
      · exact List.nodup_append.mpr ⟨k3, by simp, fun x hx y hy => by simp at hy; subst hy; exact fun z => hni (z ▸ hx)⟩
      · intro j q hq
        have hne : ∀ r, r ≠ b + 1 → sup sg1 (b + 1) 4 (nI (ks.length + 1)) r = sg1 r := fun r hr => sup_n hr
        by_cases hj : j < ks.length
        · rw [List.getElem?_append_left hj] at hq
          refine yE_fr (k4 j q hq) (fun p hp => ?_) ?_ ?_ ?_
          · rw [hne _ (by omega), hv, kpS_lt (by have : j * 41 + 41 ≤ ks.length * 41 := by omega
                                                 omega)]
            unfold keF
            rw [sup_n (by omega), sup_n (by omega), sup_n (by omega)]
          · rw [hne _ (by omega), hv, kpS_n (by omega)]
            unfold keF
            rw [sup_s, pk_un (by omega), sup_n (by omega), sup_n (by omega)]
          · rw [hne _ (by omega), hv, kpS_n (by omega)]
            unfold keF
            rw [sup_n (by omega), sup_n (by omega), sup_s, pk_un (by omega)]
          · rw [hne _ (by omega), hv, kpS_n (by omega)]
            unfold keF
            rw [sup_n (by omega), sup_s, pk_un (by omega), sup_n (by omega)]
        · have hjl : j = ks.length := by
            have := (List.getElem?_eq_some_iff.mp hq).1
            simp at this
            omega
          subst hjl
          rw [List.getElem?_append_right (Nat.le_refl _), Nat.sub_self] at hq
          cases hq
          obtain ⟨w1, w2, w3, w4⟩ := hw
          refine ⟨w1, ?_, ?_, ?_, h5, fun i hi => ⟨?_, (w4 i hi).2⟩⟩
          · rw [hne _ (by omega), hv, kpS_n (by omega)]
            unfold keF
            rw [sup_s, pk_us]
          · rw [hne _ (by omega), hv, kpS_n (by omega)]
            unfold keF
            rw [sup_n (by omega), sup_n (by omega), sup_s, pk_us]
          · rw [hne _ (by omega), hv, kpS_n (by omega)]
            unfold keF
            rw [sup_n (by omega), sup_s, pk_us]
          · rw [hne _ (by omega), hv]
            exact kpS_at hi
      · intro o ho
        rw [sup_n (by omega)]
        exact fo o (by omega)
    · refine ew_iconst g qd_Y_numberOf_36 ic_m1 ?_
      refine ew_iret g qd_Y_numberOf_37 hp ?_
      exact Or.inr (Or.inr ⟨hni, by omega, rfl, rfl⟩)
  have key : ∀ (d i : Nat), i + d = ks.length → (∀ j, j < i → ks[j]? ≠ some (wl, e)) → ew_E qS w 3 k 2 [some (.inr (b + 1)), some (.inr 1), some (.inl (nI i))] [] sg := by
    intro d
    induction d with
    | zero =>
      intro i hi hinv
      refine ew_iload_n g qd_Y_numberOf_2 rfl ?_
      refine ew_aload_n g qd_Y_numberOf_3 rfl ?_
      refine ew_get g qd_Y_numberOf_4 qf_Y_24 (by first | decide | exact lyo0 hb | exact lyo1 hb | exact lyo2 hb | exact lyo3 hb | exact lyo4 hb | exact lyo5 hb | exact lyo6 hb | exact lyo7 hb | exact lyo8 hb) (by first | rfl | exact lyB hb | exact lyY hb | exact lyA2 hb | exact lyA3 hb | exact lyA4 hb | exact lyA5 hb | exact lyA6 hb | exact lyA7 hb | exact lyA8 hb) rfl ?_
      refine en_top k2 ?_
      refine en_ge g qd_Y_numberOf_7 (tgt := 27) (by decide) (by omega) (by omega) (fun h => ?_) (fun h => ?_)
      · refine hend (fun hmem => ?_) _
        obtain ⟨j, hj⟩ := List.getElem?_of_mem hmem
        have := (List.getElem?_eq_some_iff.mp hj).1
        exact hinv j (by omega) hj
      · omega
    | succ d ih =>
      intro i hi hinv
      refine ew_iload_n g qd_Y_numberOf_2 rfl ?_
      refine ew_aload_n g qd_Y_numberOf_3 rfl ?_
      refine ew_get g qd_Y_numberOf_4 qf_Y_24 (by first | decide | exact lyo0 hb | exact lyo1 hb | exact lyo2 hb | exact lyo3 hb | exact lyo4 hb | exact lyo5 hb | exact lyo6 hb | exact lyo7 hb | exact lyo8 hb) (by first | rfl | exact lyB hb | exact lyY hb | exact lyA2 hb | exact lyA3 hb | exact lyA4 hb | exact lyA5 hb | exact lyA6 hb | exact lyA7 hb | exact lyA8 hb) rfl ?_
      refine en_top k2 ?_
      refine en_ge g qd_Y_numberOf_7 (tgt := 27) (by decide) (by omega) (by omega) (fun h => ?_) (fun h => ?_)
      · omega
      · have hq : ks[i]? = some ks[i] := List.getElem?_eq_getElem h
        refine ew_aload_n g qd_Y_numberOf_10 rfl ?_
        refine ew_aload_n g qd_Y_numberOf_11 rfl ?_
        refine ew_iload_n g qd_Y_numberOf_12 rfl ?_
        refine ew_callV g qd_Y_numberOf_13 (k_Y_isWayOf w k.2.1 sg hb (by omega) (k4 i _ hq) hw he h5) qv_Y_28 (by first | decide | exact lyo0 hb | exact lyo1 hb | exact lyo2 hb | exact lyo3 hb | exact lyo4 hb | exact lyo5 hb | exact lyo6 hb | exact lyo7 hb | exact lyo8 hb) (by first | rfl | exact lyB hb | exact lyY hb | exact lyA2 hb | exact lyA3 hb | exact lyA4 hb | exact lyA5 hb | exact lyA6 hb | exact lyA7 hb | exact lyA8 hb) ⟨_, _, rfl⟩ rfl rfl (Nat.le_of_ble_eq_true rfl) ⟨rfl, rfl, by decide, by decide⟩ (fun v sg1 hv  => ?_)
        obtain ⟨rfl, rfl⟩ := hv
        by_cases hdec : ks[i] = (wl, e)
        · refine en_top (show _ = nI 1 by rw [decide_eq_true hdec]; rfl) ?_
          refine en_if_eq g qd_Y_numberOf_16 (tgt := 21) (by decide) (by omega) (fun hz => ?_) (fun hz => ?_)
          · exact absurd hz (by decide)
          · refine ew_iload_n g qd_Y_numberOf_19 rfl ?_
            refine ew_iret g qd_Y_numberOf_20 hp ?_
            exact Or.inl ⟨i, by rw [hq, hdec], rfl, rfl⟩
        · refine en_top (show _ = nI 0 by rw [decide_eq_false hdec]; rfl) ?_
          refine en_if_eq g qd_Y_numberOf_16 (tgt := 21) (by decide) (by omega) (fun hz => ?_) (fun hz => ?_)
          · refine ew_iinc g qd_Y_numberOf_21 (by decide) rfl (ii_1 _) ?_
            refine ew_goto g qd_Y_numberOf_24 (tgt := 2) (by decide) ?_
            refine ih (i + 1) (by omega) (fun j hj => ?_)
            by_cases ee : j = i
            · rw [ee, hq]
              intro z
              exact hdec (Option.some.inj z)
            · exact hinv j (by omega)
          · exact absurd rfl hz
  refine ew_iconst g qd_Y_numberOf_0 ic_0 ?_
  refine ew_istore_n g qd_Y_numberOf_1 (by decide) ?_
  exact key ks.length 0 (by omega) (fun j hj => absurd hj (Nat.not_lt_zero j))
theorem k_Y_forget (w : WC) (l : Launch) (sg : SG) {b : Nat} (hb : b = 10 ∨ b = 19) : ew_M qS w l qy_Y_forget qw_Y_forget qr_Y_forget [.inr (b + 1)] sg (fun v sg' => v = none ∧ sg' = sup sg (b + 1) 4 (nI 0)) := by
  refine ew_entry (ws' := qwg) (own := qR_Y) (cc := qc_Y_forget) (nL := 1) (ret := none) qnk (by decide) rfl rfl (Nat.le_of_ble_eq_true rfl) ?_
  intro k g hp
  refine ew_aload_n g qd_Y_forget_0 rfl ?_
  refine ew_iconst g qd_Y_forget_1 ic_0 ?_
  refine ew_put g qd_Y_forget_2 qf_Y_24 (qp_Y_count _) (by first | decide | exact lyo0 hb | exact lyo1 hb | exact lyo2 hb | exact lyo3 hb | exact lyo4 hb | exact lyo5 hb | exact lyo6 hb | exact lyo7 hb | exact lyo8 hb) (by first | rfl | exact lyB hb | exact lyY hb | exact lyA2 hb | exact lyA3 hb | exact lyA4 hb | exact lyA5 hb | exact lyA6 hb | exact lyA7 hb | exact lyA8 hb) rfl ?_
  refine ew_vret g qd_Y_forget_5 hp ?_
  exact ⟨rfl, rfl⟩
theorem k_Y_stepOf (w : WC) (l : Launch) (sg : SG) {b j : Nat} {q : List Nat × Nat} (kk : Int32) (hb : b = 10 ∨ b = 19) (hj : j < 40) (hq : yE sg b j q) : ew_M qS w l qy_Y_stepOf qw_Y_stepOf qr_Y_stepOf [.inr (b + 1), .inl (nI j), .inl kk] sg (fun v sg' => v = some (.inl (match inR kk q.1.length with | some i => nI (q.1.getD i 0) | none => -1)) ∧ sg' = sg) := by
  obtain ⟨q1, q2, q3, q4, q5, q6⟩ := hq
  refine ew_entry (ws' := qwg) (own := qR_Y) (cc := qc_Y_stepOf) (nL := 3) (ret := some .int) qnk (by decide) rfl rfl (Nat.le_of_ble_eq_true rfl) ?_
  intro k g hp
  refine ew_iload_n g qd_Y_stepOf_0 rfl ?_
  refine ew_aload_n g qd_Y_stepOf_1 rfl ?_
  refine ew_getR g qd_Y_stepOf_2 qf_Y_15 (by first | decide | exact lyo0 hb | exact lyo1 hb | exact lyo2 hb | exact lyo3 hb | exact lyo4 hb | exact lyo5 hb | exact lyo6 hb | exact lyo7 hb | exact lyo8 hb) (by first | rfl | exact lyB hb | exact lyY hb | exact lyA2 hb | exact lyA3 hb | exact lyA4 hb | exact lyA5 hb | exact lyA6 hb | exact lyA7 hb | exact lyA8 hb) rfl ?_
  refine ew_iload_n g qd_Y_stepOf_5 rfl ?_
  refine en_iald g qd_Y_stepOf_6 (by first | decide | exact lyo0 hb | exact lyo1 hb | exact lyo2 hb | exact lyo3 hb | exact lyo4 hb | exact lyo5 hb | exact lyo6 hb | exact lyo7 hb | exact lyo8 hb) (by first | rfl | exact lyB hb | exact lyY hb | exact lyA2 hb | exact lyA3 hb | exact lyA4 hb | exact lyA5 hb | exact lyA6 hb | exact lyA7 hb | exact lyA8 hb) (by omega) (by omega) q2 ?_
  refine ew_callS g qd_Y_stepOf_7 (k_X_isBelow w k.2.1 sg _ _) qs_Y_36 rfl rfl (Nat.le_of_ble_eq_true rfl) ⟨rfl, rfl, by decide, by decide⟩ (fun v sg1 hv => ?_)
  obtain ⟨rfl, rfl⟩ := hv
  rcases inR_cases kk (n := q.1.length) (by omega) with ⟨hr, hn⟩ | ⟨i, hi, rfl, hr⟩
  · refine en_top (show _ = nI 0 by rw [decide_eq_false hn]; rfl) ?_
    refine en_if_eq g qd_Y_stepOf_10 (tgt := 27) (by decide) (by omega) (fun hz => ?_) (fun hz => ?_)
    · refine ew_iconst g qd_Y_stepOf_27 ic_m1 ?_
      refine ew_iret g qd_Y_stepOf_28 hp ?_
      rw [hr]
      exact ⟨rfl, rfl⟩
    · exact absurd rfl hz
  · refine en_top (show _ = nI 1 by rw [decide_eq_true ⟨nI_pos' (by omega), nI_lt hi (by omega)⟩]; rfl) ?_
    refine en_if_eq g qd_Y_stepOf_10 (tgt := 27) (by decide) (by omega) (fun hz => ?_) (fun hz => ?_)
    · exact absurd hz (by decide)
    · refine ew_aload_n g qd_Y_stepOf_13 rfl ?_
      refine ew_getR g qd_Y_stepOf_14 qf_Y_9 (by first | decide | exact lyo0 hb | exact lyo1 hb | exact lyo2 hb | exact lyo3 hb | exact lyo4 hb | exact lyo5 hb | exact lyo6 hb | exact lyo7 hb | exact lyo8 hb) (by first | rfl | exact lyB hb | exact lyY hb | exact lyA2 hb | exact lyA3 hb | exact lyA4 hb | exact lyA5 hb | exact lyA6 hb | exact lyA7 hb | exact lyA8 hb) rfl ?_
      refine ew_iload_n g qd_Y_stepOf_17 rfl ?_
      refine ew_bipush g qd_Y_stepOf_18 bp_41 ?_
      refine ew_imul g qd_Y_stepOf_20 ?_
      refine en_top (pk_mul _ _) ?_
      refine ew_iload_n g qd_Y_stepOf_21 rfl ?_
      refine ew_iadd g qd_Y_stepOf_22 ?_
      refine en_top (nI_add _ _) ?_
      refine en_iald g qd_Y_stepOf_23 (by first | decide | exact lyo0 hb | exact lyo1 hb | exact lyo2 hb | exact lyo3 hb | exact lyo4 hb | exact lyo5 hb | exact lyo6 hb | exact lyo7 hb | exact lyo8 hb) (by first | rfl | exact lyB hb | exact lyY hb | exact lyA2 hb | exact lyA3 hb | exact lyA4 hb | exact lyA5 hb | exact lyA6 hb | exact lyA7 hb | exact lyA8 hb) (by omega) (by omega) (q6 i hi).1 ?_
      refine ew_goto g qd_Y_stepOf_24 (tgt := 28) (by decide) ?_
      refine ew_iret g qd_Y_stepOf_28 hp ?_
      rw [hr]
      exact ⟨rfl, rfl⟩
