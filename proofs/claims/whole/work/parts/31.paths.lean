/-! the paths -/
def poF (sg : SG) (a b m : Nat) (st : Int32) (c : Nat) : SG := sup (sup (sup (sup (sup (sup (sup (sup sg 28 8 (nI (c + 1))) 29 (a * 40 + b) (nI c)) 30 c (nI a)) 31 c (nI b)) 32 c (nI 1)) 33 c (nI m)) 34 c st) 35 c (nI 0)
def pmB (sg : SG) (r : Nat) (st : Int32) : SG := sup (sup sg 32 r (sg 32 r + nI 1)) 35 r (sg 35 r ||| (sg 34 r ^^^ st))
def pmF (sg : SG) (r m : Nat) (st : Int32) (wt : Nat) : SG := if m < wt then sup (sup (pmB sg r st) 33 r (nI m)) 34 r st else pmB sg r st
theorem k_P_open (w : WC) (l : Launch) (sg : SG) {a b m c : Nat} (st : Int32) (hc : sg 28 8 = nI c) (hc4 : c ≤ 40) (ha : a < 40) (hb : b < 40) : ew_M qS w l qy_P_open qw_P_open qr_P_open [.inr 28, .inl (nI a), .inl (nI b), .inl (nI m), .inl st] sg (fun v sg' => (c < 40 ∧ v = some (.inl (nI c)) ∧ sg' = poF sg a b m st c) ∨ (c = 40 ∧ v = some (.inl (-1)) ∧ sg' = sg)) := by
  refine ew_entry (ws' := qwg) (own := qR_P) (cc := qc_P_open) (nL := 6) (ret := some .int) qnk (by decide) rfl rfl (Nat.le_of_ble_eq_true rfl) ?_
  intro k g hp
  refine ew_aload_n g qd_P_open_0 rfl ?_
  refine ew_get g qd_P_open_1 qf_P_36 (by decide) rfl rfl ?_
  refine en_top hc ?_
  refine ew_bipush g qd_P_open_4 bp_40 ?_
  refine en_lt g qd_P_open_6 (tgt := 11) (by decide) (by omega) (by omega) (fun h => ?_) (fun h => ?_)
  · refine ew_aload_n g qd_P_open_11 rfl ?_
    refine ew_get g qd_P_open_12 qf_P_36 (by decide) rfl rfl ?_
    refine en_top hc ?_
    refine ew_istore g qd_P_open_15 (by decide) ?_
    refine ew_aload_n g qd_P_open_17 rfl ?_
    refine ew_dup g qd_P_open_18 ?_
    refine ew_get g qd_P_open_19 qf_P_36 (by decide) rfl rfl ?_
    refine en_top hc ?_
    refine ew_iconst g qd_P_open_22 ic_1 ?_
    refine ew_iadd g qd_P_open_23 ?_
    refine en_top (nI_add _ _) ?_
    refine ew_put g qd_P_open_24 qf_P_36 (qp_P_count _) (by decide) rfl rfl ?_
    refine ew_aload_n g qd_P_open_27 rfl ?_
    refine ew_getR g qd_P_open_28 qf_P_9 (by decide) rfl rfl ?_
    refine ew_iload_n g qd_P_open_31 rfl ?_
    refine ew_bipush g qd_P_open_32 bp_40 ?_
    refine ew_imul g qd_P_open_34 ?_
    refine en_top (pk_mul _ _) ?_
    refine ew_iload_n g qd_P_open_35 rfl ?_
    refine ew_iadd g qd_P_open_36 ?_
    refine en_top (nI_add _ _) ?_
    refine ew_iload g qd_P_open_37 rfl ?_
    refine en_iast g qd_P_open_39 (by decide) rfl (by omega) (by omega) ?_
    refine ew_aload_n g qd_P_open_40 rfl ?_
    refine ew_getR g qd_P_open_41 qf_P_15 (by decide) rfl rfl ?_
    refine ew_iload g qd_P_open_44 rfl ?_
    refine ew_iload_n g qd_P_open_46 rfl ?_
    refine en_iast g qd_P_open_47 (by decide) rfl (by omega) (by omega) ?_
    refine ew_aload_n g qd_P_open_48 rfl ?_
    refine ew_getR g qd_P_open_49 qf_P_18 (by decide) rfl rfl ?_
    refine ew_iload g qd_P_open_52 rfl ?_
    refine ew_iload_n g qd_P_open_54 rfl ?_
    refine en_iast g qd_P_open_55 (by decide) rfl (by omega) (by omega) ?_
    refine ew_aload_n g qd_P_open_56 rfl ?_
    refine ew_getR g qd_P_open_57 qf_P_21 (by decide) rfl rfl ?_
    refine ew_iload g qd_P_open_60 rfl ?_
    refine ew_iconst g qd_P_open_62 ic_1 ?_
    refine en_iast g qd_P_open_63 (by decide) rfl (by omega) (by omega) ?_
    refine ew_aload_n g qd_P_open_64 rfl ?_
    refine ew_getR g qd_P_open_65 qf_P_24 (by decide) rfl rfl ?_
    refine ew_iload g qd_P_open_68 rfl ?_
    refine ew_iload_n g qd_P_open_70 rfl ?_
    refine en_iast g qd_P_open_71 (by decide) rfl (by omega) (by omega) ?_
    refine ew_aload_n g qd_P_open_72 rfl ?_
    refine ew_getR g qd_P_open_73 qf_P_27 (by decide) rfl rfl ?_
    refine ew_iload g qd_P_open_76 rfl ?_
    refine ew_iload g qd_P_open_78 rfl ?_
    refine en_iast g qd_P_open_80 (by decide) rfl (by omega) (by omega) ?_
    refine ew_aload_n g qd_P_open_81 rfl ?_
    refine ew_getR g qd_P_open_82 qf_P_30 (by decide) rfl rfl ?_
    refine ew_iload g qd_P_open_85 rfl ?_
    refine ew_iconst g qd_P_open_87 ic_0 ?_
    refine en_iast g qd_P_open_88 (by decide) rfl (by omega) (by omega) ?_
    refine ew_iload g qd_P_open_89 rfl ?_
    refine ew_iret g qd_P_open_91 hp ?_
    exact Or.inl ⟨h, rfl, rfl⟩
  · refine ew_iconst g qd_P_open_9 ic_m1 ?_
    refine ew_iret g qd_P_open_10 hp ?_
    exact Or.inr ⟨by omega, rfl, rfl⟩
theorem k_P_meet (w : WC) (l : Launch) (sg : SG) {a b m c : Nat} (st : Int32) (hc : sg 28 8 = nI c) (hc4 : c ≤ 40) (ha : a < 40) (hb : b < 40) (hm : m < 2 ^ 31) (h : sg 29 (a * 40 + b) = -1 ∨ ∃ r wt, r < 40 ∧ wt < 2 ^ 31 ∧ sg 29 (a * 40 + b) = nI r ∧ sg 33 r = nI wt) : ew_M qS w l qy_P_meet qw_P_meet qr_P_meet [.inr 28, .inl (nI a), .inl (nI b), .inl (nI m), .inl st] sg (fun v sg' => (sg 29 (a * 40 + b) = -1 ∧ ((c < 40 ∧ v = some (.inl (nI c)) ∧ sg' = poF sg a b m st c) ∨ (c = 40 ∧ v = some (.inl (-1)) ∧ sg' = sg))) ∨ ∃ r wt, r < 40 ∧ wt < 2 ^ 31 ∧ sg 29 (a * 40 + b) = nI r ∧ sg 33 r = nI wt ∧ v = some (.inl (nI r)) ∧ sg' = pmF sg r m st wt) := by
  refine ew_entry (ws' := qwg) (own := qR_P) (cc := qc_P_meet) (nL := 6) (ret := some .int) qnk (by decide) rfl rfl (Nat.le_of_ble_eq_true rfl) ?_
  intro k g hp
  rcases h with h | ⟨r, wt, hr, hwt, h, h33⟩
  · refine ew_aload_n g qd_P_meet_0 rfl ?_
    refine ew_getR g qd_P_meet_1 qf_P_9 (by decide) rfl rfl ?_
    refine ew_iload_n g qd_P_meet_4 rfl ?_
    refine ew_bipush g qd_P_meet_5 bp_40 ?_
    refine ew_imul g qd_P_meet_7 ?_
    refine en_top (pk_mul _ _) ?_
    refine ew_iload_n g qd_P_meet_8 rfl ?_
    refine ew_iadd g qd_P_meet_9 ?_
    refine en_top (nI_add _ _) ?_
    refine en_iald g qd_P_meet_10 (by decide) rfl (by omega) (by omega) h ?_
    refine ew_istore g qd_P_meet_11 (by decide) ?_
    refine ew_iload g qd_P_meet_13 rfl ?_
    refine ew_iconst g qd_P_meet_15 ic_m1 ?_
    refine ew_icmp_ne g qd_P_meet_16 (tgt := 29) (by decide) (fun hz => ?_) (fun hz => ?_)
    · exact absurd rfl hz
    · refine ew_aload_n g qd_P_meet_19 rfl ?_
      refine ew_iload_n g qd_P_meet_20 rfl ?_
      refine ew_iload_n g qd_P_meet_21 rfl ?_
      refine ew_iload_n g qd_P_meet_22 rfl ?_
      refine ew_iload g qd_P_meet_23 rfl ?_
      refine ew_callV g qd_P_meet_25 (k_P_open w k.2.1 sg st hc hc4 ha hb) qv_P_50 (by decide) rfl ⟨_, _, rfl⟩ rfl rfl (Nat.le_of_ble_eq_true rfl) ⟨rfl, rfl, by decide, by decide⟩ (fun v sg1 hv => ?_)
      rcases hv with ⟨q1, rfl, rfl⟩ | ⟨q1, rfl, rfl⟩
      · refine ew_iret g qd_P_meet_28 hp ?_
        exact Or.inl ⟨h, Or.inl ⟨q1, rfl, rfl⟩⟩
      · refine ew_iret g qd_P_meet_28 hp ?_
        exact Or.inl ⟨h, Or.inr ⟨q1, rfl, rfl⟩⟩
  · refine ew_aload_n g qd_P_meet_0 rfl ?_
    refine ew_getR g qd_P_meet_1 qf_P_9 (by decide) rfl rfl ?_
    refine ew_iload_n g qd_P_meet_4 rfl ?_
    refine ew_bipush g qd_P_meet_5 bp_40 ?_
    refine ew_imul g qd_P_meet_7 ?_
    refine en_top (pk_mul _ _) ?_
    refine ew_iload_n g qd_P_meet_8 rfl ?_
    refine ew_iadd g qd_P_meet_9 ?_
    refine en_top (nI_add _ _) ?_
    refine en_iald g qd_P_meet_10 (by decide) rfl (by omega) (by omega) h ?_
    refine ew_istore g qd_P_meet_11 (by decide) ?_
    refine ew_iload g qd_P_meet_13 rfl ?_
    refine ew_iconst g qd_P_meet_15 ic_m1 ?_
    refine ew_icmp_ne g qd_P_meet_16 (tgt := 29) (by decide) (fun hz => ?_) (fun hz => ?_)
    · refine ew_aload_n g qd_P_meet_29 rfl ?_
      refine ew_getR g qd_P_meet_30 qf_P_21 (by decide) rfl rfl ?_
      refine ew_iload g qd_P_meet_33 rfl ?_
      refine ew_dup2 g qd_P_meet_35 ?_
      refine en_iald g qd_P_meet_36 (by decide) rfl (by omega) (by omega) rfl ?_
      refine ew_iconst g qd_P_meet_37 ic_1 ?_
      refine ew_iadd g qd_P_meet_38 ?_
      refine en_iast g qd_P_meet_39 (by decide) rfl (by omega) (by omega) ?_
      refine ew_aload_n g qd_P_meet_40 rfl ?_
      refine ew_getR g qd_P_meet_41 qf_P_30 (by decide) rfl rfl ?_
      refine ew_iload g qd_P_meet_44 rfl ?_
      refine ew_dup2 g qd_P_meet_46 ?_
      refine en_iald g qd_P_meet_47 (by decide) rfl (by omega) (by omega) rfl ?_
      refine ew_aload_n g qd_P_meet_48 rfl ?_
      refine ew_getR g qd_P_meet_49 qf_P_27 (by decide) rfl rfl ?_
      refine ew_iload g qd_P_meet_52 rfl ?_
      refine en_iald g qd_P_meet_54 (by decide) rfl (by omega) (by omega) rfl ?_
      refine ew_iload g qd_P_meet_55 rfl ?_
      refine ew_ixor g qd_P_meet_57 ?_
      refine ew_ior g qd_P_meet_58 ?_
      refine en_iast g qd_P_meet_59 (by decide) rfl (by omega) (by omega) ?_
      refine ew_iload_n g qd_P_meet_60 rfl ?_
      refine ew_aload_n g qd_P_meet_61 rfl ?_
      refine ew_getR g qd_P_meet_62 qf_P_24 (by decide) rfl rfl ?_
      refine ew_iload g qd_P_meet_65 rfl ?_
      refine en_iald g qd_P_meet_67 (by decide) rfl (by omega) (by omega) (show _ = nI wt from h33) ?_
      refine en_sg (show _ = pmB sg r st from rfl) ?_
      refine en_ge g qd_P_meet_68 (tgt := 88) (by decide) (by omega) (by omega) (fun hge => ?_) (fun hge => ?_)
      · refine ew_iload g qd_P_meet_88 rfl ?_
        refine ew_iret g qd_P_meet_90 hp ?_
        refine Or.inr ⟨r, wt, hr, hwt, h, h33, rfl, ?_⟩
        unfold pmF
        rw [if_neg (by omega)]
      · refine ew_aload_n g qd_P_meet_71 rfl ?_
        refine ew_getR g qd_P_meet_72 qf_P_24 (by decide) rfl rfl ?_
        refine ew_iload g qd_P_meet_75 rfl ?_
        refine ew_iload_n g qd_P_meet_77 rfl ?_
        refine en_iast g qd_P_meet_78 (by decide) rfl (by omega) (by omega) ?_
        refine ew_aload_n g qd_P_meet_79 rfl ?_
        refine ew_getR g qd_P_meet_80 qf_P_27 (by decide) rfl rfl ?_
        refine ew_iload g qd_P_meet_83 rfl ?_
        refine ew_iload g qd_P_meet_85 rfl ?_
        refine en_iast g qd_P_meet_87 (by decide) rfl (by omega) (by omega) ?_
        refine ew_iload g qd_P_meet_88 rfl ?_
        refine ew_iret g qd_P_meet_90 hp ?_
        refine Or.inr ⟨r, wt, hr, hwt, h, h33, rfl, ?_⟩
        unfold pmF
        rw [if_pos hge]
    · exact absurd hz (nI_m1 (by omega))
def rbw (sg : SG) (ka kb : WKL) (rows : List KEY) (a b : Nat) : Prop := (∃ r q1 q2, ka[a]? = some q1 ∧ kb[b]? = some q2 ∧ rows[r]? = some (q1, q2) ∧ sg 29 (a * 40 + b) = nI r) ∨ ((∀ q1 q2, ka[a]? = some q1 → kb[b]? = some q2 → (q1, q2) ∉ rows) ∧ sg 29 (a * 40 + b) = -1)
def pRow (sg : SG) (ka kb : WKL) (D : Nat → Bool) (ky : Nat → KEY) (cel : Nat → Nat → Nat) (r : Nat) (q : KEY) : Prop := (∃ a, ka[a]? = some q.1 ∧ sg 30 r = nI a) ∧ (∃ b, kb[b]? = some q.2 ∧ sg 31 r = nI b) ∧ sg 32 r = nI (cntB 4096 (fun m => D m && decide (ky m = q))) ∧ ∃ wt, wt < 4096 ∧ D wt = true ∧ ky wt = q ∧ (∀ m, m < 4096 → D m = true → ky m = q → wt ≤ m) ∧ sg 33 r = nI wt ∧ sg 34 r = nI (pk5 (cel wt)) ∧ ∃ df, df < 1048576 ∧ sg 35 r = nI df ∧ ∀ i, i < 5 → (df / 2 ^ (4 * i) % 16 = 0 ↔ ∀ m, m < 4096 → D m = true → ky m = q → cel m i = cel wt i)
def pRel (sg : SG) (ka kb : WKL) (rows : List KEY) (D : Nat → Bool) (ky : Nat → KEY) (cel : Nat → Nat → Nat) : Prop := rows.length ≤ 40 ∧ sg 28 8 = nI rows.length ∧ rows.Nodup ∧ (∀ m, m < 4096 → D m = true → ky m ∈ rows) ∧ (∀ a b, a < 40 → b < 40 → rbw sg ka kb rows a b) ∧ ∀ (r : Nat) (q : KEY), rows[r]? = some q → pRow sg ka kb D ky cel r q
theorem nod_at {α : Type} {l : List α} (h : l.Nodup) {i j : Nat} {x : α} (hi : l[i]? = some x) (hj : l[j]? = some x) : i = j := by
  have h1 := (List.getElem?_eq_some_iff.mp hi)
  have h2 := (List.getElem?_eq_some_iff.mp hj)
  obtain ⟨l1, e1⟩ := h1
  obtain ⟨l2, e2⟩ := h2
  have hp := List.pairwise_iff_getElem.mp h
  rcases Nat.lt_trichotomy i j with z | z | z
  · exact absurd (e1.trans e2.symm) (hp i j l1 l2 z)
  · exact z
  · exact absurd (e2.trans e1.symm) (hp j i l2 l1 z)
theorem nib_or : ∀ x, x < 16 → ∀ y, y < 16 → (x ||| y = 0 ↔ x = 0 ∧ y = 0) := by decide +kernel
theorem nib_xor : ∀ x, x < 16 → ∀ y, y < 16 → (x ^^^ y = 0 ↔ x = y) := by decide +kernel
theorem nib_df {df i : Nat} {c c' : Nat → Nat} (hc : c16 c) (hc' : c16 c') (hi : i < 5) : (df ||| (pk5 c ^^^ pk5 c')) / 2 ^ (4 * i) % 16 = 0 ↔ df / 2 ^ (4 * i) % 16 = 0 ∧ c i = c' i := by
  have e16 : (16 : Nat) = 2 ^ 4 := rfl
  rw [Nat.or_div_two_pow, Nat.xor_div_two_pow, e16, Nat.or_mod_two_pow, Nat.xor_mod_two_pow, ← e16, pk5_nib hc hi, pk5_nib hc' hi]
  rw [nib_or _ (Nat.mod_lt _ (by decide)) _ (w_xor16 (hc i hi) (hc' i hi)), nib_xor _ (hc i hi) _ (hc' i hi)]
theorem pRow_keep {sg sg' : SG} {ka kb : WKL} {D : Nat → Bool} {ky : Nat → KEY} {cel : Nat → Nat → Nat} {r m : Nat} {q : KEY} (h : pRow sg ka kb D ky cel r q) (hm : m < 4096) (hD : D m = false) (hne : ky m ≠ q) (h0 : sg' 30 r = sg 30 r) (h1 : sg' 31 r = sg 31 r) (h2 : sg' 32 r = sg 32 r) (h3 : sg' 33 r = sg 33 r) (h4 : sg' 34 r = sg 34 r) (h5 : sg' 35 r = sg 35 r) : pRow sg' ka kb (dAdd D m) ky cel r q := by
  obtain ⟨p1, p2, p3, wt, w1, w2, w3, w4, w5, w6, df, d1, d2, d3⟩ := h
  have hor : ∀ j, dAdd D m j = true → ky j = q → D j = true := fun j hj hq => by
    rcases dAdd_or hj with z | z
    · exact z
    · exact absurd (z ▸ hq) hne
  unfold pRow
  rw [h0, h1, h2, h3, h4, h5]
  refine ⟨p1, p2, ?_, wt, w1, dAdd_t w2, w3, fun j hj hd hq => w4 j hj (hor j hd hq) hq, w5, w6, df, d1, d2, fun i hi => ?_⟩
  · rw [cntB_add hm hD, if_neg (by simp [hne]), Nat.add_zero]
    exact p3
  · rw [d3 i hi]
    exact ⟨fun z j hj hd hq => z j hj (hor j hd hq) hq, fun z j hj hd hq => z j hj (dAdd_t hd) hq⟩
theorem pRel_open {sg : SG} {ka kb : WKL} {rows : List KEY} {D : Nat → Bool} {ky : Nat → KEY} {cel : Nat → Nat → Nat} {a b m : Nat} (h : pRel sg ka kb rows D ky cel) (hm : m < 4096) (hD : D m = false) (ha : ka[a]? = some (ky m).1) (hb : kb[b]? = some (ky m).2) (ha4 : a < 40) (hb4 : b < 40) (hna : ka.Nodup) (hnb : kb.Nodup) (hni : ky m ∉ rows) (hl : rows.length < 40) : pRel (poF sg a b m (nI (pk5 (cel m))) rows.length) ka kb (rows ++ [ky m]) (dAdd D m) ky cel := by
  obtain ⟨r1, r2, r3, r4, r5, r6⟩ := h
  have o28 : poF sg a b m (nI (pk5 (cel m))) rows.length 28 = upd (sg 28) 8 (nI (rows.length + 1)) := by
    unfold poF
    simp only [sup_n (show (28 : Nat) ≠ 35 by decide), sup_n (show (28 : Nat) ≠ 34 by decide), sup_n (show (28 : Nat) ≠ 33 by decide), sup_n (show (28 : Nat) ≠ 32 by decide), sup_n (show (28 : Nat) ≠ 31 by decide), sup_n (show (28 : Nat) ≠ 30 by decide), sup_n (show (28 : Nat) ≠ 29 by decide), sup_s]
  have o29 : poF sg a b m (nI (pk5 (cel m))) rows.length 29 = upd (sg 29) (a * 40 + b) (nI rows.length) := by
    unfold poF
    simp only [sup_n (show (29 : Nat) ≠ 35 by decide), sup_n (show (29 : Nat) ≠ 34 by decide), sup_n (show (29 : Nat) ≠ 33 by decide), sup_n (show (29 : Nat) ≠ 32 by decide), sup_n (show (29 : Nat) ≠ 31 by decide), sup_n (show (29 : Nat) ≠ 30 by decide), sup_n (show (29 : Nat) ≠ 28 by decide), sup_s]
  have o30 : poF sg a b m (nI (pk5 (cel m))) rows.length 30 = upd (sg 30) rows.length (nI a) := by
    unfold poF
    simp only [sup_n (show (30 : Nat) ≠ 28 by decide), sup_n (show (30 : Nat) ≠ 29 by decide), sup_n (show (30 : Nat) ≠ 31 by decide), sup_n (show (30 : Nat) ≠ 32 by decide), sup_n (show (30 : Nat) ≠ 33 by decide), sup_n (show (30 : Nat) ≠ 34 by decide), sup_n (show (30 : Nat) ≠ 35 by decide), sup_s]
  have o31 : poF sg a b m (nI (pk5 (cel m))) rows.length 31 = upd (sg 31) rows.length (nI b) := by
    unfold poF
    simp only [sup_n (show (31 : Nat) ≠ 28 by decide), sup_n (show (31 : Nat) ≠ 29 by decide), sup_n (show (31 : Nat) ≠ 30 by decide), sup_n (show (31 : Nat) ≠ 32 by decide), sup_n (show (31 : Nat) ≠ 33 by decide), sup_n (show (31 : Nat) ≠ 34 by decide), sup_n (show (31 : Nat) ≠ 35 by decide), sup_s]
  have o32 : poF sg a b m (nI (pk5 (cel m))) rows.length 32 = upd (sg 32) rows.length (nI 1) := by
    unfold poF
    simp only [sup_n (show (32 : Nat) ≠ 28 by decide), sup_n (show (32 : Nat) ≠ 29 by decide), sup_n (show (32 : Nat) ≠ 30 by decide), sup_n (show (32 : Nat) ≠ 31 by decide), sup_n (show (32 : Nat) ≠ 33 by decide), sup_n (show (32 : Nat) ≠ 34 by decide), sup_n (show (32 : Nat) ≠ 35 by decide), sup_s]
  have o33 : poF sg a b m (nI (pk5 (cel m))) rows.length 33 = upd (sg 33) rows.length (nI m) := by
    unfold poF
    simp only [sup_n (show (33 : Nat) ≠ 28 by decide), sup_n (show (33 : Nat) ≠ 29 by decide), sup_n (show (33 : Nat) ≠ 30 by decide), sup_n (show (33 : Nat) ≠ 31 by decide), sup_n (show (33 : Nat) ≠ 32 by decide), sup_n (show (33 : Nat) ≠ 34 by decide), sup_n (show (33 : Nat) ≠ 35 by decide), sup_s]
  have o34 : poF sg a b m (nI (pk5 (cel m))) rows.length 34 = upd (sg 34) rows.length (nI (pk5 (cel m))) := by
    unfold poF
    simp only [sup_n (show (34 : Nat) ≠ 28 by decide), sup_n (show (34 : Nat) ≠ 29 by decide), sup_n (show (34 : Nat) ≠ 30 by decide), sup_n (show (34 : Nat) ≠ 31 by decide), sup_n (show (34 : Nat) ≠ 32 by decide), sup_n (show (34 : Nat) ≠ 33 by decide), sup_n (show (34 : Nat) ≠ 35 by decide), sup_s]
  have o35 : poF sg a b m (nI (pk5 (cel m))) rows.length 35 = upd (sg 35) rows.length (nI 0) := by
    unfold poF
    simp only [sup_n (show (35 : Nat) ≠ 28 by decide), sup_n (show (35 : Nat) ≠ 29 by decide), sup_n (show (35 : Nat) ≠ 30 by decide), sup_n (show (35 : Nat) ≠ 31 by decide), sup_n (show (35 : Nat) ≠ 32 by decide), sup_n (show (35 : Nat) ≠ 33 by decide), sup_n (show (35 : Nat) ≠ 34 by decide), sup_s]
  have hq : ∀ (r : Nat) (q : KEY), rows[r]? = some q → r < rows.length ∧ ky m ≠ q := fun r q hr => ⟨(List.getElem?_eq_some_iff.mp hr).1, fun z => hni (z ▸ List.mem_of_getElem? hr)⟩
  refine ⟨by simp; omega, by rw [o28, pk_us]; simp, List.nodup_append.mpr ⟨r3, by simp, fun x hx y hy => by simp at hy; subst hy; exact fun z => hni (z ▸ hx)⟩, fun j hj hd => ?_, fun a' b' ha' hb' => ?_, fun r q hr => ?_⟩
  · rcases dAdd_or hd with z | z
    · exact List.mem_append_left _ (r4 j hj z)
    · subst z; exact List.mem_append_right _ (List.mem_singleton.mpr rfl)
  · unfold rbw
    rw [o29]
    by_cases e : a' = a ∧ b' = b
    · obtain ⟨rfl, rfl⟩ := e
      left
      refine ⟨rows.length, (ky m).1, (ky m).2, ha, hb, ?_, pk_us⟩
      rw [List.getElem?_append_right (Nat.le_refl _), Nat.sub_self]
      rfl
    · rw [pk_un (by omega)]
      rcases r5 a' b' ha' hb' with ⟨r, q1, q2, z1, z2, z3, z4⟩ | ⟨z1, z2⟩
      · left
        refine ⟨r, q1, q2, z1, z2, ?_, z4⟩
        rw [List.getElem?_append_left (List.getElem?_eq_some_iff.mp z3).1]
        exact z3
      · right
        refine ⟨fun q1 q2 y1 y2 => ?_, z2⟩
        intro hmem
        rcases List.mem_append.mp hmem with y | y
        · exact z1 q1 q2 y1 y2 y
        · have y := List.mem_singleton.mp y
          rw [← y] at ha hb
          exact e ⟨nod_at hna y1 ha, nod_at hnb y2 hb⟩
  · by_cases hr' : r < rows.length
    · rw [List.getElem?_append_left hr'] at hr
      have hne : r ≠ rows.length := by omega
      exact pRow_keep (r6 r q hr) hm hD (hq r q hr).2 (by rw [o30, pk_un hne]) (by rw [o31, pk_un hne]) (by rw [o32, pk_un hne]) (by rw [o33, pk_un hne]) (by rw [o34, pk_un hne]) (by rw [o35, pk_un hne])
    · have hrl : r = rows.length := by
        have := (List.getElem?_eq_some_iff.mp hr).1
        simp at this
        omega
      subst hrl
      rw [List.getElem?_append_right (Nat.le_refl _), Nat.sub_self] at hr
      have hr : some (ky m) = some q := hr
      cases hr
      have hno : ∀ j, j < 4096 → D j = true → ky j ≠ ky m := fun j hj hd z => hni (z ▸ r4 j hj hd)
      have hon : ∀ j, j < 4096 → dAdd D m j = true → ky j = ky m → j = m := fun j hj hd z => by
        rcases dAdd_or hd with y | y
        · exact absurd z (hno j hj y)
        · exact y
      unfold pRow
      rw [o30, o31, o32, o33, o34, o35, pk_us, pk_us, pk_us, pk_us, pk_us, pk_us]
      refine ⟨⟨a, ha, rfl⟩, ⟨b, hb, rfl⟩, ?_, m, hm, dAdd_m D m, rfl, fun j hj hd z => by rw [hon j hj hd z]; exact Nat.le_refl _, rfl, rfl, 0, by decide, rfl, fun i hi => ?_⟩
      · rw [cntB_add hm hD, cntB_none (fun j hj => ?_)]
        · simp
        · cases hd : D j with
          | false => rfl
          | true => simp [hno j hj hd]
      · constructor
        · intro _ j hj hd z
          rw [hon j hj hd z]
        · intro _
          rw [Nat.zero_div]
theorem pRel_meet {sg : SG} {ka kb : WKL} {rows : List KEY} {D : Nat → Bool} {ky : Nat → KEY} {cel : Nat → Nat → Nat} {r m wt : Nat} (h : pRel sg ka kb rows D ky cel) (hm : m < 4096) (hD : D m = false) (hc : ∀ j, j < 4096 → c16 (cel j)) (hr : rows[r]? = some (ky m)) (hwt : sg 33 r = nI wt) (hw31 : wt < 2 ^ 31) : pRel (pmF sg r m (nI (pk5 (cel m))) wt) ka kb rows (dAdd D m) ky cel := by
  obtain ⟨r1, r2, r3, r4, r5, r6⟩ := h
  obtain ⟨p1, p2, p3, wt0, w1, w2, w3, w4, w5, w6, df, d1, d2, d3⟩ := r6 r _ hr
  have ewt : wt0 = wt := (nI_eq (by omega) hw31).mp (w5.symm.trans hwt)
  subst ewt
  have oo : ∀ o, o ≠ 32 → o ≠ 33 → o ≠ 34 → o ≠ 35 → pmF sg r m (nI (pk5 (cel m))) wt0 o = sg o := fun o h2 h3 h4 h5 => by
    unfold pmF pmB
    split
    · rw [sup_n h4, sup_n h3, sup_n h5, sup_n h2]
    · rw [sup_n h5, sup_n h2]
  have o32 : pmF sg r m (nI (pk5 (cel m))) wt0 32 = upd (sg 32) r (sg 32 r + nI 1) := by
    unfold pmF pmB
    split
    · rw [sup_n (by decide), sup_n (by decide), sup_n (by decide), sup_s]
    · rw [sup_n (by decide), sup_s]
  have o35 : pmF sg r m (nI (pk5 (cel m))) wt0 35 = upd (sg 35) r (sg 35 r ||| (sg 34 r ^^^ nI (pk5 (cel m)))) := by
    unfold pmF pmB
    split
    · rw [sup_n (by decide), sup_n (by decide), sup_s, sup_n (by decide)]
    · rw [sup_s, sup_n (by decide)]
  have o33 : pmF sg r m (nI (pk5 (cel m))) wt0 33 = if m < wt0 then upd (sg 33) r (nI m) else sg 33 := by
    unfold pmF pmB
    split
    · rw [sup_n (by decide), sup_s, sup_n (by decide), sup_n (by decide)]
    · rw [sup_n (by decide), sup_n (by decide)]
  have o34 : pmF sg r m (nI (pk5 (cel m))) wt0 34 = if m < wt0 then upd (sg 34) r (nI (pk5 (cel m))) else sg 34 := by
    unfold pmF pmB
    split
    · rw [sup_s, sup_n (by decide), sup_n (by decide), sup_n (by decide)]
    · rw [sup_n (by decide), sup_n (by decide)]
  refine ⟨r1, by rw [oo 28 (by decide) (by decide) (by decide) (by decide)]; exact r2, r3, fun j hj hd => ?_, fun a b ha hb => ?_, fun r' q hr' => ?_⟩
  · rcases dAdd_or hd with z | z
    · exact r4 j hj z
    · subst z; exact List.mem_of_getElem? hr
  · unfold rbw
    rw [oo 29 (by decide) (by decide) (by decide) (by decide)]
    exact r5 a b ha hb
  · by_cases er : r' = r
    · subst er
      rw [hr] at hr'
      cases hr'
      unfold pRow
      rw [oo 30 (by decide) (by decide) (by decide) (by decide), oo 31 (by decide) (by decide) (by decide) (by decide), o32, o35, pk_us, pk_us, p3, nI_inc, d2, w6, nx_xor, nx_or]
      have hcnt : cntB 4096 (fun j => dAdd D m j && decide (ky j = ky m)) = cntB 4096 (fun j => D j && decide (ky j = ky m)) + 1 := by
        rw [cntB_add hm hD]
        simp
      have hdf : df ||| (pk5 (cel wt0) ^^^ pk5 (cel m)) < 2 ^ 20 := Nat.or_lt_two_pow d1 (Nat.xor_lt_two_pow (hc wt0 w1).lt (hc m hm).lt)
      refine ⟨p1, p2, by rw [hcnt], ?_⟩
      by_cases hlt : m < wt0
      · refine ⟨m, hm, dAdd_m D m, rfl, fun j hj hd z => ?_, by rw [o33, if_pos hlt, pk_us], by rw [o34, if_pos hlt, pk_us], _, hdf, rfl, fun i hi => ?_⟩
        · rcases dAdd_or hd with y | y
          · have := w4 j hj y z; omega
          · omega
        · rw [nib_df (hc wt0 w1) (hc m hm) hi, d3 i hi]
          constructor
          · rintro ⟨z1, z2⟩ j hj hd hk
            rcases dAdd_or hd with y | y
            · rw [z1 j hj y hk, z2]
            · rw [y]
          · intro z
            have z0 := z wt0 w1 (dAdd_t w2) w3
            exact ⟨fun j hj hd hk => by rw [z j hj (dAdd_t hd) hk, z0], z0⟩
      · refine ⟨wt0, w1, dAdd_t w2, w3, fun j hj hd z => ?_, by rw [o33, if_neg hlt]; exact w5, by rw [o34, if_neg hlt]; exact w6, _, hdf, rfl, fun i hi => ?_⟩
        · rcases dAdd_or hd with y | y
          · exact w4 j hj y z
          · omega
        · rw [nib_df (hc wt0 w1) (hc m hm) hi, d3 i hi]
          constructor
          · rintro ⟨z1, z2⟩ j hj hd hk
            rcases dAdd_or hd with y | y
            · exact z1 j hj y hk
            · rw [y, z2]
          · intro z
            exact ⟨fun j hj hd hk => z j hj (dAdd_t hd) hk, (z m hm (dAdd_m D m) rfl).symm⟩
    · have hne : ky m ≠ q := fun z => er (nod_at r3 (z ▸ hr') hr)
      refine pRow_keep (r6 r' q hr') hm hD hne (by rw [oo 30 (by decide) (by decide) (by decide) (by decide)]) (by rw [oo 31 (by decide) (by decide) (by decide) (by decide)]) (by rw [o32, pk_un er]) ?_ ?_ (by rw [o35, pk_un er])
      · rw [o33]
        split
        · rw [pk_un er]
        · rfl
      · rw [o34]
        split
        · rw [pk_un er]
        · rfl
