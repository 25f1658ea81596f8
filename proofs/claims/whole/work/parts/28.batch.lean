/-! a batch: the transactions of all numbers out of one state -/
def cpS (sg : SG) (o f : Nat) (src : Nat → Int32) (n : Nat) : SG := fun q => if q = o then (fun p => if f ≤ p ∧ p < f + n then src (p - f) else sg o p) else sg q
theorem cpS_0 (sg : SG) (o f : Nat) (src : Nat → Int32) : cpS sg o f src 0 = sg := by
  funext q p
  unfold cpS
  by_cases h : q = o
  · subst h
    simp only [if_true]
    rw [if_neg (by omega)]
  · simp [h]
theorem cpS_s (sg : SG) (o f : Nat) (src : Nat → Int32) (n : Nat) : sup (cpS sg o f src n) o (f + n) (src n) = cpS sg o f src (n + 1) := by
  funext q p
  unfold sup cpS upd
  by_cases h : q = o
  · subst h
    simp only [if_true]
    by_cases h1 : p = f + n
    · subst h1
      rw [if_pos rfl, if_pos (by omega), Nat.add_sub_cancel_left]
    · rw [if_neg h1]
      by_cases h2 : f ≤ p ∧ p < f + n
      · rw [if_pos h2, if_pos (by omega)]
      · rw [if_neg h2, if_neg (by omega)]
  · simp [h]
theorem cpS_n {sg : SG} {o f : Nat} {src : Nat → Int32} {n q : Nat} (h : q ≠ o) : cpS sg o f src n q = sg q := if_neg h
theorem cpS_at {sg : SG} {o f : Nat} {src : Nat → Int32} {n i : Nat} (h : i < n) : cpS sg o f src n o (f + i) = src i := by
  unfold cpS
  rw [if_pos rfl, if_pos (by omega), Nat.add_sub_cancel_left]
theorem cpS_out {sg : SG} {o f : Nat} {src : Nat → Int32} {n p : Nat} (h : p < f ∨ f + n ≤ p) : cpS sg o f src n o p = sg o p := by
  unfold cpS
  rw [if_pos rfl, if_neg (by omega)]
def tK (r : PM) : List Nat × Nat := (pWa r, pHo r)
def bE (sg : SG) (b : Nat) (ks : WKL) (r : PM) (m : Nat) : Prop := (∃ j, ks[j]? = some (tK r) ∧ sg (b + 6) m = nI j) ∧ sg (b + 7) m = nI (pk5 (pCe r)) ∧ ∀ kd, kd < 5 → ∀ i, i < 32 → bt (sg (b + 8) (m * 5 + kd)) i = pFo r kd i
def bFr (b : Nat) (sg sg' : SG) : Prop := ∀ o, o ≠ 1 → o ≠ 6 → o ≠ 7 → o ≠ 8 → o < b + 1 ∨ b + 8 < o → sg' o = sg o
theorem bFr.rf (b : Nat) (sg : SG) : bFr b sg sg := fun _ _ _ _ _ _ => rfl
theorem bFr.tr {b : Nat} {x y z : SG} (h : bFr b x y) (h' : bFr b y z) : bFr b x z := fun o h1 h2 h3 h4 h5 => (h' o h1 h2 h3 h4 h5).trans (h o h1 h2 h3 h4 h5)
theorem yW_fr {sg sg' : SG} {b : Nat} {ks : WKL} (h : yW sg b ks) (hf : ∀ o, b + 1 ≤ o → o ≤ b + 5 → sg' o = sg o) : yW sg' b ks := by
  obtain ⟨k1, k2, k3, k4⟩ := h
  refine ⟨k1, by rw [hf _ (by omega) (by omega)]; exact k2, k3, fun j q hq => ?_⟩
  exact yE_fr (k4 j q hq) (fun p _ => by rw [hf _ (by omega) (by omega)]) (by rw [hf _ (by omega) (by omega)]) (by rw [hf _ (by omega) (by omega)]) (by rw [hf _ (by omega) (by omega)])
theorem bE_fr {sg sg' : SG} {b m : Nat} {ks ks' t : WKL} {r : PM} (h : bE sg b ks r m) (hk : ks' = ks ++ t) (h6 : sg' (b + 6) m = sg (b + 6) m) (h7 : sg' (b + 7) m = sg (b + 7) m) (h8 : ∀ kd, kd < 5 → sg' (b + 8) (m * 5 + kd) = sg (b + 8) (m * 5 + kd)) : bE sg' b ks' r m := by
  obtain ⟨⟨j, hj, e1⟩, e2, e3⟩ := h
  refine ⟨⟨j, ?_, by rw [h6]; exact e1⟩, by rw [h7]; exact e2, fun kd hk i hi => by rw [h8 kd hk]; exact e3 kd hk i hi⟩
  rw [hk, List.getElem?_append_left (List.getElem?_eq_some_iff.mp hj).1]
  exact hj
theorem k_B_fill (w : WC) (l : Launch) (sg : SG) {cd : CDE} {b lim : Nat} {ks : WKL} {c : Nat → Nat} {dead : Bool} (hb : b = 10 ∨ b = 19) (hcd : xCode sg cd) (hk : yW sg b ks) (hl : lim ≤ 40) (hc : c16 c) : ew_M qS w l qy_B_fill qw_B_fill qr_B_fill [.inr b, .inr 1, .inl (nI (pk5 c)), .inl (bI dead), .inl (nI lim)] sg (fun v sg' => (v = some (.inl (nI 1)) ∧ (∃ ks' t, yW sg' b ks' ∧ ks' = ks ++ t ∧ (∀ x, x ∈ ks' → x ∈ ks ∨ ∃ m, m < 64 ∧ x = tK (pTx cd lim m c dead)) ∧ ∀ m, m < 64 → bE sg' b ks' (pTx cd lim m c dead) m) ∧ bFr b sg sg') ∨ (v = some (.inl (nI 0)) ∧ (∃ big : WKL, big.Nodup ∧ big.length = 41 ∧ ∀ x, x ∈ big → x ∈ ks ∨ ∃ m, m < 64 ∧ x = tK (pTx cd lim m c dead)) ∧ bFr b sg sg')) := by
  refine ew_entry (ws' := qwg) (own := qR_B) (cc := qc_B_fill) (nL := 8) (ret := some .boolean) qnk (by decide) rfl rfl (Nat.le_of_ble_eq_true rfl) ?_
  intro k g hp
  have key : ∀ (d i : Nat) (sg1 : SG) (ks1 t : WKL) (x6 x7 : Option MV), i + d = 64 → yW sg1 b ks1 → ks1 = ks ++ t → (∀ x, x ∈ ks1 → x ∈ ks ∨ ∃ m, m < 64 ∧ x = tK (pTx cd lim m c dead)) → (∀ m, m < i → bE sg1 b ks1 (pTx cd lim m c dead) m) → bFr b sg sg1 → ew_E qS w 8 k 3 [some (.inr b), some (.inr 1), some (.inl (nI (pk5 c))), some (.inl (bI dead)), some (.inl (nI lim)), some (.inl (nI i)), x6, x7] [] sg1 := by
    intro d
    induction d with
    | zero =>
      intro i sg1 ks1 t x6 x7 hi hy ht hx hB hf
      refine ew_iload g qd_B_fill_3 rfl ?_
      refine ew_bipush g qd_B_fill_5 bp_64 ?_
      refine en_ge g qd_B_fill_7 (tgt := 98) (by decide) (by omega) (by omega) (fun h => ?_) (fun h => ?_)
      · refine ew_iconst g qd_B_fill_98 ic_1 ?_
        refine ew_zret g qd_B_fill_99 hp (by first | exact bI_nar _ | decide +kernel) ?_
        exact Or.inl ⟨rfl, ⟨ks1, t, hy, ht, hx, fun m hm => hB m (by omega)⟩, hf⟩
      · omega
    | succ d ih =>
      intro i sg1 ks1 t x6 x7 hi hy ht hx hB hf
      refine ew_iload g qd_B_fill_3 rfl ?_
      refine ew_bipush g qd_B_fill_5 bp_64 ?_
      refine en_ge g qd_B_fill_7 (tgt := 98) (by decide) (by omega) (by omega) (fun h => ?_) (fun h => ?_)
      · omega
      · have hcd1 : xCode sg1 cd := by
          unfold xCode at hcd ⊢
          rw [hf 2 (by decide) (by decide) (by decide) (by decide) (by omega), hf 3 (by decide) (by decide) (by decide) (by decide) (by omega), hf 4 (by decide) (by decide) (by decide) (by decide) (by omega), hf 5 (by decide) (by decide) (by decide) (by decide) (by omega)]
          exact hcd
        refine ew_aload_n g qd_B_fill_10 rfl ?_
        refine ew_iload g qd_B_fill_11 rfl ?_
        refine ew_iload_n g qd_B_fill_13 rfl ?_
        refine ew_iload_n g qd_B_fill_14 rfl ?_
        refine ew_iload g qd_B_fill_15 rfl ?_
        refine ew_callV g qd_B_fill_17 (k_K_transact w k.2.1 sg1 (dead := dead) hcd1 (num := i) (by omega) hl hc) qv_B_37 (by decide) rfl ⟨_, _, rfl⟩ rfl rfl (Nat.le_of_ble_eq_true rfl) ⟨rfl, rfl, by decide, by decide⟩ (fun v sg2 hv => ?_)
        obtain ⟨rfl, hm2, hw2, hf2, h52⟩ := hv
        generalize hR : pTx cd lim i c dead = r at hm2 hw2 h52
        have hy2 : yW sg2 b ks1 := yW_fr hy (fun o h1 h2 => hf2 o (by omega) (by omega) (by omega) (by omega))
        have hE2 := hm2.2.2.2.2.2.2.2.2.2.2
        have hfr2 : bFr b sg1 sg2 := fun o h1 h2 h3 h4 _ => hf2 o h1 h2 h3 h4
        refine ew_aload_n g qd_B_fill_20 rfl ?_
        refine ew_getR g qd_B_fill_21 qf_B_12 (by first | decide | exact lyo0 hb | exact lyo1 hb | exact lyo2 hb | exact lyo3 hb | exact lyo4 hb | exact lyo5 hb | exact lyo6 hb | exact lyo7 hb | exact lyo8 hb) (by first | rfl | exact lyB hb | exact lyY hb | exact lyA2 hb | exact lyA3 hb | exact lyA4 hb | exact lyA5 hb | exact lyA6 hb | exact lyA7 hb | exact lyA8 hb) rfl ?_
        refine ew_aload_n g qd_B_fill_24 rfl ?_
        refine ew_callV g qd_B_fill_25 (k_Y_numberOf w k.2.1 sg2 hb hy2 hw2 hE2 h52) qv_B_43 (by first | decide | exact lyo0 hb | exact lyo1 hb | exact lyo2 hb | exact lyo3 hb | exact lyo4 hb | exact lyo5 hb | exact lyo6 hb | exact lyo7 hb | exact lyo8 hb) (by first | rfl | exact lyB hb | exact lyY hb | exact lyA2 hb | exact lyA3 hb | exact lyA4 hb | exact lyA5 hb | exact lyA6 hb | exact lyA7 hb | exact lyA8 hb) ⟨_, _, rfl⟩ rfl rfl (Nat.le_of_ble_eq_true rfl) ⟨rfl, rfl, by decide, by decide⟩ (fun v sg3 hv  => ?_)
        -- what is common to the two good ends
        have hgo : ∀ (j : Nat) (ks3 : WKL) (t3 : WKL), v = some (.inl (nI j)) → j < 40 → yW sg3 b ks3 → ks3 = ks1 ++ t3 → (∀ x, x ∈ ks3 → x ∈ ks ∨ ∃ m, m < 64 ∧ x = tK (pTx cd lim m c dead)) → ks3[j]? = some (tK r) → yFr b sg2 sg3 → ew_E qS w 8 k 28 [some (.inr b), some (.inr 1), some (.inl (nI (pk5 c))), some (.inl (bI dead)), some (.inl (nI lim)), some (.inl (nI i)), x6, x7] [.inl (nI j)] sg3 := by
          intro j ks3 t3 hv hj hy3 ht3 hx3 hkj hfr3
          have hst3 : sg3 1 3 = nI (pk5 (pCe r)) := by rw [hfr3 1 (by omega)]; exact hm2.2.2.2.1
          have hfo3 : sg3 8 = sg2 8 := hfr3 8 (by omega)
          refine ew_istore g qd_B_fill_28 (by decide) ?_
          refine ew_iload g qd_B_fill_30 rfl ?_
          refine ew_iconst g qd_B_fill_32 ic_m1 ?_
          refine ew_icmp_ne g qd_B_fill_33 (tgt := 38) (by decide) (fun hz => ?_) (fun hz => ?_)
          · refine ew_aload_n g qd_B_fill_38 rfl ?_
            refine ew_getR g qd_B_fill_39 qf_B_18 (by first | decide | exact lyo0 hb | exact lyo1 hb | exact lyo2 hb | exact lyo3 hb | exact lyo4 hb | exact lyo5 hb | exact lyo6 hb | exact lyo7 hb | exact lyo8 hb) (by first | rfl | exact lyB hb | exact lyY hb | exact lyA2 hb | exact lyA3 hb | exact lyA4 hb | exact lyA5 hb | exact lyA6 hb | exact lyA7 hb | exact lyA8 hb) rfl ?_
            refine ew_iload g qd_B_fill_42 rfl ?_
            refine ew_iload g qd_B_fill_44 rfl ?_
            refine en_iast g qd_B_fill_46 (by first | decide | exact lyo0 hb | exact lyo1 hb | exact lyo2 hb | exact lyo3 hb | exact lyo4 hb | exact lyo5 hb | exact lyo6 hb | exact lyo7 hb | exact lyo8 hb) (by first | rfl | exact lyB hb | exact lyY hb | exact lyA2 hb | exact lyA3 hb | exact lyA4 hb | exact lyA5 hb | exact lyA6 hb | exact lyA7 hb | exact lyA8 hb) (by omega) (by omega) ?_
            refine ew_aload_n g qd_B_fill_47 rfl ?_
            refine ew_getR g qd_B_fill_48 qf_B_22 (by first | decide | exact lyo0 hb | exact lyo1 hb | exact lyo2 hb | exact lyo3 hb | exact lyo4 hb | exact lyo5 hb | exact lyo6 hb | exact lyo7 hb | exact lyo8 hb) (by first | rfl | exact lyB hb | exact lyY hb | exact lyA2 hb | exact lyA3 hb | exact lyA4 hb | exact lyA5 hb | exact lyA6 hb | exact lyA7 hb | exact lyA8 hb) rfl ?_
            refine ew_iload g qd_B_fill_51 rfl ?_
            refine ew_aload_n g qd_B_fill_53 rfl ?_
            refine ew_get g qd_B_fill_54 qf_B_47 (by first | decide | exact lyo0 hb | exact lyo1 hb | exact lyo2 hb | exact lyo3 hb | exact lyo4 hb | exact lyo5 hb | exact lyo6 hb | exact lyo7 hb | exact lyo8 hb) (by first | rfl | exact lyB hb | exact lyY hb | exact lyA2 hb | exact lyA3 hb | exact lyA4 hb | exact lyA5 hb | exact lyA6 hb | exact lyA7 hb | exact lyA8 hb) rfl ?_
            refine en_top (show sup sg3 (b + 6) i (nI j) 1 3 = nI (pk5 (pCe r)) by rw [sup_n (by omega)]; exact hst3) ?_
            refine en_iast g qd_B_fill_57 (by first | decide | exact lyo0 hb | exact lyo1 hb | exact lyo2 hb | exact lyo3 hb | exact lyo4 hb | exact lyo5 hb | exact lyo6 hb | exact lyo7 hb | exact lyo8 hb) (by first | rfl | exact lyB hb | exact lyY hb | exact lyA2 hb | exact lyA3 hb | exact lyA4 hb | exact lyA5 hb | exact lyA6 hb | exact lyA7 hb | exact lyA8 hb) (by omega) (by omega) ?_
            refine ew_iconst g qd_B_fill_58 ic_0 ?_
            refine ew_istore g qd_B_fill_59 (by decide) ?_
            generalize hs4 : sup (sup sg3 (b + 6) i (nI j)) (b + 7) i (nI (pk5 (pCe r))) = sg4
            have inner : ∀ (d' kd : Nat), kd + d' = 5 → ew_E qS w 8 k 61 [some (.inr b), some (.inr 1), some (.inl (nI (pk5 c))), some (.inl (bI dead)), some (.inl (nI lim)), some (.inl (nI i)), some (.inl (nI j)), some (.inl (nI kd))] [] (cpS sg4 (b + 8) (i * 5) (sg4 8) kd) := by
              intro d'
              induction d' with
              | zero =>
                intro kd hkd
                refine ew_iload g qd_B_fill_61 rfl ?_
                refine ew_iconst g qd_B_fill_63 ic_5 ?_
                refine en_ge g qd_B_fill_64 (tgt := 92) (by decide) (by omega) (by omega) (fun hh => ?_) (fun hh => ?_)
                · refine ew_iinc g qd_B_fill_92 (by decide) rfl (ii_1 _) ?_
                  refine ew_goto g qd_B_fill_95 (tgt := 3) (by decide) ?_
                  have e5 : kd = 5 := by omega
                  subst e5
                  have o6 : cpS sg4 (b + 8) (i * 5) (sg4 8) 5 (b + 6) = upd (sg3 (b + 6)) i (nI j) := by rw [cpS_n (by omega), ← hs4, sup_n (by omega), sup_s]
                  have o7 : cpS sg4 (b + 8) (i * 5) (sg4 8) 5 (b + 7) = upd (sg3 (b + 7)) i (nI (pk5 (pCe r))) := by rw [cpS_n (by omega), ← hs4, sup_s, sup_n (by omega)]
                  have oo : ∀ o, o ≠ b + 6 → o ≠ b + 7 → o ≠ b + 8 → cpS sg4 (b + 8) (i * 5) (sg4 8) 5 o = sg3 o := fun o q6 q7 q8 => by rw [cpS_n q8, ← hs4, sup_n q7, sup_n q6]
                  have o48 : sg4 (b + 8) = sg3 (b + 8) := by rw [← hs4, sup_n (by omega), sup_n (by omega)]
                  have o8 : sg4 8 = sg2 8 := by rw [← hs4, sup_n (by omega), sup_n (by omega), hfo3]
                  refine ih (i + 1) _ ks3 (t ++ t3) _ _ (by omega) (yW_fr hy3 (fun o h1 h2 => oo o (by omega) (by omega) (by omega))) (by rw [ht3, ht, List.append_assoc]) hx3 (fun m hm => ?_) (fun o q1 q2 q3 q4 q5 => ?_)
                  · by_cases em : m = i
                    · subst em
                      rw [hR]
                      refine ⟨⟨j, hkj, by rw [o6, pk_us]⟩, by rw [o7, pk_us], fun kd hkd i' hi' => ?_⟩
                      rw [cpS_at hkd, o8]
                      exact hm2.2.2.2.2.2.2.2.1 kd hkd i' hi'
                    · have hfr13 : ∀ o, b + 6 ≤ o → o ≤ b + 8 → sg3 o = sg1 o := fun o q1 q2 => by rw [hfr3 o (by omega)]; exact hf2 o (by omega) (by omega) (by omega) (by omega)
                      refine bE_fr (hB m (by omega)) ht3 ?_ ?_ (fun kd hkd => ?_)
                      · rw [o6, pk_un em, hfr13 _ (by omega) (by omega)]
                      · rw [o7, pk_un em, hfr13 _ (by omega) (by omega)]
                      · rw [cpS_out (by omega), o48, hfr13 _ (by omega) (by omega)]
                  · rw [oo o (by omega) (by omega) (by omega), hfr3 o (by omega)]
                    exact (hf.tr hfr2) o q1 q2 q3 q4 q5
                · omega
              | succ d' ih' =>
                intro kd hkd
                refine ew_iload g qd_B_fill_61 rfl ?_
                refine ew_iconst g qd_B_fill_63 ic_5 ?_
                refine en_ge g qd_B_fill_64 (tgt := 92) (by decide) (by omega) (by omega) (fun hh => ?_) (fun hh => ?_)
                · omega
                · refine ew_aload_n g qd_B_fill_67 rfl ?_
                  refine ew_getR g qd_B_fill_68 qf_B_25 (by first | decide | exact lyo0 hb | exact lyo1 hb | exact lyo2 hb | exact lyo3 hb | exact lyo4 hb | exact lyo5 hb | exact lyo6 hb | exact lyo7 hb | exact lyo8 hb) (by first | rfl | exact lyB hb | exact lyY hb | exact lyA2 hb | exact lyA3 hb | exact lyA4 hb | exact lyA5 hb | exact lyA6 hb | exact lyA7 hb | exact lyA8 hb) rfl ?_
                  refine ew_iload g qd_B_fill_71 rfl ?_
                  refine ew_iconst g qd_B_fill_73 ic_5 ?_
                  refine ew_imul g qd_B_fill_74 ?_
                  refine en_top (pk_mul _ _) ?_
                  refine ew_iload g qd_B_fill_75 rfl ?_
                  refine ew_iadd g qd_B_fill_77 ?_
                  refine en_top (nI_add _ _) ?_
                  refine ew_aload_n g qd_B_fill_78 rfl ?_
                  refine ew_getR g qd_B_fill_79 qf_B_51 (by first | decide | exact lyo0 hb | exact lyo1 hb | exact lyo2 hb | exact lyo3 hb | exact lyo4 hb | exact lyo5 hb | exact lyo6 hb | exact lyo7 hb | exact lyo8 hb) (by first | rfl | exact lyB hb | exact lyY hb | exact lyA2 hb | exact lyA3 hb | exact lyA4 hb | exact lyA5 hb | exact lyA6 hb | exact lyA7 hb | exact lyA8 hb) rfl ?_
                  refine ew_iload g qd_B_fill_82 rfl ?_
                  refine en_iald g qd_B_fill_84 (by first | decide | exact lyo0 hb | exact lyo1 hb | exact lyo2 hb | exact lyo3 hb | exact lyo4 hb | exact lyo5 hb | exact lyo6 hb | exact lyo7 hb | exact lyo8 hb) (by first | rfl | exact lyB hb | exact lyY hb | exact lyA2 hb | exact lyA3 hb | exact lyA4 hb | exact lyA5 hb | exact lyA6 hb | exact lyA7 hb | exact lyA8 hb) (by omega) (by omega) (show cpS sg4 (b + 8) (i * 5) (sg4 8) kd 8 kd = sg4 8 kd by rw [cpS_n (by omega)]) ?_
                  refine en_iast g qd_B_fill_85 (by first | decide | exact lyo0 hb | exact lyo1 hb | exact lyo2 hb | exact lyo3 hb | exact lyo4 hb | exact lyo5 hb | exact lyo6 hb | exact lyo7 hb | exact lyo8 hb) (by first | rfl | exact lyB hb | exact lyY hb | exact lyA2 hb | exact lyA3 hb | exact lyA4 hb | exact lyA5 hb | exact lyA6 hb | exact lyA7 hb | exact lyA8 hb) (by omega) (by omega) ?_
                  refine ew_iinc g qd_B_fill_86 (by decide) rfl (ii_1 _) ?_
                  refine ew_goto g qd_B_fill_89 (tgt := 61) (by decide) ?_
                  exact en_sg (cpS_s _ _ _ _ _) (ih' (kd + 1) (by omega))
            exact en_sg (cpS_0 _ _ _ _).symm (inner 5 0 (by omega))
          · exact absurd hz (nI_m1 (by omega))
        rcases hv with ⟨j, hj, hv, rfl⟩ | ⟨hni, hlt, hv, hy3, hfr3⟩ | ⟨hni, h40, hv, rfl⟩
        · have hjl := (List.getElem?_eq_some_iff.mp hj).1
          have hk40 := hy2.1
          subst hv
          exact hgo j ks1 [] rfl (by omega) hy2 (by simp) hx hj (fun _ _ => rfl)
        · subst hv
          refine hgo ks1.length (ks1 ++ [(pWa r, pHo r)]) [(pWa r, pHo r)] rfl hlt hy3 rfl (fun x hx' => ?_) ?_ hfr3
          · rcases List.mem_append.mp hx' with h1 | h1
            · exact hx x h1
            · right
              refine ⟨i, by omega, ?_⟩
              rw [List.mem_singleton.mp h1, hR]
              rfl
          · rw [List.getElem?_append_right (Nat.le_refl _), Nat.sub_self]; rfl
        · subst hv
          refine ew_istore g qd_B_fill_28 (by decide) ?_
          refine ew_iload g qd_B_fill_30 rfl ?_
          refine ew_iconst g qd_B_fill_32 ic_m1 ?_
          refine ew_icmp_ne g qd_B_fill_33 (tgt := 38) (by decide) (fun hz => ?_) (fun hz => ?_)
          · exact absurd rfl hz
          · refine ew_iconst g qd_B_fill_36 ic_0 ?_
            refine ew_zret g qd_B_fill_37 hp (by first | exact bI_nar _ | decide +kernel) ?_
            refine Or.inr ⟨rfl, ⟨ks1 ++ [(pWa r, pHo r)], ?_, by simp [h40], fun x hx' => ?_⟩, hf.tr hfr2⟩
            · exact List.nodup_append.mpr ⟨hy2.2.2.1, by simp, fun x hx y hy => by simp at hy; subst hy; exact fun z => hni (z ▸ hx)⟩
            · rcases List.mem_append.mp hx' with h1 | h1
              · exact hx x h1
              · right
                refine ⟨i, by omega, ?_⟩
                rw [List.mem_singleton.mp h1, hR]
                rfl
  refine ew_iconst g qd_B_fill_0 ic_0 ?_
  refine ew_istore g qd_B_fill_1 (by decide) ?_
  exact key 64 0 sg ks [] _ _ rfl hk (by simp) (fun x hx => Or.inl hx) (fun m hm => absurd hm (Nat.not_lt_zero m)) (bFr.rf b sg)
