/-! what is answered of an exploration -/
def xFst (q : XP) (m : Nat) : Bool := decide (∀ j, j < m → xKey q j ≠ xKey q m)
def xCount (q : XP) : Nat := cntB (xN q) (xFst q)
def xwit (q : XP) (p : Nat) : Nat := ((List.range (xN q)).find? (fun w => xFst q w && decide (cntB w (xFst q) = p))).getD 0
def xIn (q : XP) (w : Nat) : Nat := cntB (xN q) (fun m => decide (xKey q m = xKey q w))
def xAll (q : XP) (w i : Nat) : Bool := decide (∀ m, m < xN q → xKey q m = xKey q w → xCel q m i = xCel q w i)
def xRisk (q : XP) (w kd i : Nat) : Nat := cntB (xN q) (fun m => decide (xKey q m = xKey q w) && xFnd q m kd i)
def xLst (q : XP) (kd i : Nat) : Int32 := match (List.range (xN q)).find? (fun m => xFnd q m kd i) with
  | some m => nI m
  | none => -1
theorem xwit_ok {q : XP} {p : Nat} (h : p < xCount q) : xwit q p < xN q ∧ xFst q (xwit q p) = true ∧ cntB (xwit q p) (xFst q) = p := by
  obtain ⟨j, h1, h2, h3⟩ := cntB_ex h
  unfold xwit
  cases hf : (List.range (xN q)).find? (fun w => xFst q w && decide (cntB w (xFst q) = p)) with
  | none =>
    have := List.find?_eq_none.mp hf j (List.mem_range.mpr h1)
    rw [h2, h3] at this
    simp at this
  | some w =>
    have m1 := List.mem_range.mp (List.mem_of_find?_eq_some hf)
    have m2 := List.find?_some hf
    simp only [Bool.and_eq_true, decide_eq_true_eq] at m2
    exact ⟨m1, m2.1, m2.2⟩
theorem xwit_eq {q : XP} {p w : Nat} (h1 : w < xN q) (h2 : xFst q w = true) (h3 : cntB w (xFst q) = p) : p < xCount q ∧ xwit q p = w := by
  have hp : p < xCount q := by rw [← h3]; exact cntB_strict h1 h2
  refine ⟨hp, ?_⟩
  obtain ⟨m1, m2, m3⟩ := xwit_ok hp
  rcases Nat.lt_trichotomy (xwit q p) w with z | z | z
  · have := cntB_strict z m2; omega
  · exact z
  · have := cntB_strict z h2; omega
theorem xFst_t {q : XP} {m : Nat} : xFst q m = true ↔ ∀ j, j < m → xKey q j ≠ xKey q m := by unfold xFst; exact decide_eq_true_iff
theorem xLst_some {q : XP} {kd i m : Nat} (h1 : m < xN q) (h2 : xFnd q m kd i = true) (h3 : ∀ j, j < xN q → xFnd q j kd i = true → m ≤ j) : xLst q kd i = nI m := by
  unfold xLst
  cases hf : (List.range (xN q)).find? (fun m => xFnd q m kd i) with
  | none =>
    have := List.find?_eq_none.mp hf m (List.mem_range.mpr h1)
    exact absurd h2 this
  | some w =>
    have m1 := List.mem_range.mp (List.mem_of_find?_eq_some hf)
    have m2 := List.find?_some hf
    have m3 := h3 w m1 m2
    by_cases e : w = m
    · rw [e]
    · exfalso
      obtain ⟨-, as, bs, hab, hno⟩ := List.find?_eq_some_iff_append.mp hf
      have hmem : m ∈ as := by
        have hs := List.pairwise_lt_range (n := xN q)
        rw [hab] at hs
        have hm : m ∈ as ++ w :: bs := by rw [← hab]; exact List.mem_range.mpr h1
        rcases List.mem_append.mp hm with z | z
        · exact z
        · rcases List.mem_cons.mp z with z | z
          · exact absurd z.symm e
          · have := (List.pairwise_cons.mp (List.pairwise_append.mp hs).2.1).1 m z
            omega
      have := hno m hmem
      rw [h2] at this
      cases this
theorem xLst_none {q : XP} {kd i : Nat} (h : ∀ j, j < xN q → xFnd q j kd i = false) : xLst q kd i = -1 := by
  unfold xLst
  rw [List.find?_eq_none.mpr (fun j hj => by rw [h j (List.mem_range.mp hj)]; decide)]
theorem cntB_all {n : Nat} {P : Nat → Bool} (h : ∀ j, j < n → P j = true) : cntB n P = n := by
  induction n with
  | zero => rfl
  | succ n ih =>
    show cntB n P + _ = _
    rw [ih (fun j hj => h j (by omega)), if_pos (h n (by omega))]
theorem bad_count {q : XP} (h : svBad q) : 40 < xCount q := by
  obtain ⟨ms, h1, h2, h3⟩ := h
  have ex : ∀ m, ∃ j, j ≤ m ∧ xKey q j = xKey q m ∧ xFst q j = true := fun m => by
    obtain ⟨j, hj, hl⟩ := pk_least (fun j => xKey q j = xKey q m) ⟨m, rfl⟩
    refine ⟨j, Nat.le_of_not_lt (fun z => hl m z rfl), hj, xFst_t.mpr (fun i hi z => hl i hi (z.trans hj))⟩
  obtain ⟨f, hf⟩ := Classical.axiomOfChoice ex
  have hn : (ms.map f).Nodup := nod_map h3 f (xKey q) (fun m => (hf m).2.1)
  have := cntB_list (n := xN q) (F := xFst q) (ms.map f) hn (fun m hm => by
    obtain ⟨m', hm', rfl⟩ := List.mem_map.mp hm
    exact ⟨Nat.lt_of_le_of_lt (hf m').1 (h2 m' hm'), (hf m').2.2⟩)
  rw [List.length_map, h1] at this
  exact this
/-- the keys of path's transactions -/
def kOf (q : XP) (w u : Nat) : List Nat × Nat := if u = q.2.2.2 - 1 then (xKey q w).2 else (xKey q w).1
def xRow (sg : SG) (q : XP) (ka kb : WKL) (p r : Nat) : Prop := sg 36 p = nI r ∧ r < 40 ∧ (q.2.2.2 = 2 → ∃ a, ka[a]? = some (xKey q (xwit q p)).1 ∧ sg 30 r = nI a) ∧ (∃ b, kb[b]? = some (xKey q (xwit q p)).2 ∧ sg 31 r = nI b) ∧ sg 32 r = nI (xIn q (xwit q p)) ∧ sg 33 r = nI (xwit q p) ∧ sg 34 r = nI (pk5 (xCel q (xwit q p))) ∧ (∃ df, df < 1048576 ∧ sg 35 r = nI df ∧ ∀ i, i < 5 → (df / 2 ^ (4 * i) % 16 = 0 ↔ xAll q (xwit q p) i = true)) ∧ ∀ kd i, kd < 5 → i < 32 → sg 39 (r * 5 * 32 + (kd * 32 + i)) = nI (xRisk q (xwit q p) kd i)
def xQ (sg : SG) (q : XP) : Prop := qOK q ∧ xCount q ≤ 40 ∧ sg 28 8 = nI (xCount q) ∧ sg 9 4 = nI q.2.2.2 ∧ (∃ ka kb, yW sg 19 kb ∧ (q.2.2.2 = 2 → yW sg 10 ka) ∧ ∀ p, p < xCount q → ∃ r, xRow sg q ka kb p r) ∧ ∀ kd i, kd < 5 → i < 32 → sg 38 (kd * 32 + i) = xLst q kd i
def xEx (sg : SG) (e : Option XP) : Prop := match e with
  | none => sg 28 8 = nI 0 ∧ ∀ p, p < 160 → sg 38 p = -1
  | some q => xQ sg q
theorem sv_wf {sg : SG} {q : XP} {ka kb : WKL} {rows : List KEY} (hP : pRel sg ka kb rows (fun j => decide (j < xN q)) (xKey q) (xCel q)) (hN : xN q ≤ 4096) : ∃ wf : Nat → Nat, (∀ r, r < rows.length → ∃ k, rows[r]? = some k ∧ wf r < xN q ∧ xKey q (wf r) = k ∧ xFst q (wf r) = true ∧ sg 33 r = nI (wf r)) ∧ (∀ a b, a < rows.length → b < rows.length → wf a = wf b → a = b) ∧ (∀ j, j < xN q → xFst q j = true → ∃ o, o < rows.length ∧ wf o = j) ∧ rows.length = xCount q ∧ ∀ r, r < rows.length → rk rows.length wf r = cntB (wf r) (xFst q) := by
  obtain ⟨r1, r2, r3, r4, r5, r6⟩ := hP
  have ex : ∀ r, ∃ wt, r < rows.length → ∃ k, rows[r]? = some k ∧ wt < xN q ∧ xKey q wt = k ∧ xFst q wt = true ∧ sg 33 r = nI wt ∧ ∀ m, m < xN q → xKey q m = k → wt ≤ m := fun r => by
    by_cases hr : r < rows.length
    · have hk := List.getElem?_eq_getElem hr
      obtain ⟨-, -, -, wt, w1, w2, w3, w4, w5, -⟩ := r6 r _ hk
      have hmin : ∀ m, m < xN q → xKey q m = rows[r] → wt ≤ m := fun m hm z => w4 m (by omega) (decide_eq_true hm) z
      refine ⟨wt, fun _ => ⟨_, hk, of_decide_eq_true w2, w3, xFst_t.mpr (fun j hj z => ?_), w5, hmin⟩⟩
      have := hmin j (Nat.lt_trans hj (of_decide_eq_true w2)) (z.trans w3)
      omega
    · exact ⟨0, fun z => absurd z hr⟩
  obtain ⟨wf, hwf⟩ := Classical.axiomOfChoice ex
  have inj : ∀ a b, a < rows.length → b < rows.length → wf a = wf b → a = b := fun a b ha hb e => by
    obtain ⟨ka', a1, -, a3, -⟩ := hwf a ha
    obtain ⟨kb', b1, -, b3, -⟩ := hwf b hb
    rw [e, b3] at a3
    subst a3
    exact nod_at r3 a1 b1
  have sur : ∀ j, j < xN q → xFst q j = true → ∃ o, o < rows.length ∧ wf o = j := fun j hj hF => by
    obtain ⟨r, hr⟩ := List.getElem?_of_mem (r4 j (by omega) (decide_eq_true hj))
    have hrl := (List.getElem?_eq_some_iff.mp hr).1
    obtain ⟨k', a1, a2, a3, a4, -, a6⟩ := hwf r hrl
    rw [hr] at a1
    cases a1
    refine ⟨r, hrl, ?_⟩
    have h1 := a6 j hj rfl
    by_cases e : wf r = j
    · exact e
    · exact absurd a3 (xFst_t.mp hF (wf r) (by omega))
  have hF : ∀ o, o < rows.length → xFst q (wf o) = true := fun o ho => by obtain ⟨_, -, -, -, h, -⟩ := hwf o ho; exact h
  have hlt : ∀ o, o < rows.length → wf o < xN q := fun o ho => by obtain ⟨_, -, h, -⟩ := hwf o ho; exact h
  refine ⟨wf, fun r hr => ?_, inj, sur, ?_, fun r hr => ?_⟩
  · obtain ⟨k', a1, a2, a3, a4, a5, -⟩ := hwf r hr
    exact ⟨k', a1, a2, a3, a4, a5⟩
  · have h1 := cntB_rank inj hF (xN q) sur
    rw [cntB_all (fun j hj => by simp [hlt j hj])] at h1
    exact h1
  · exact cntB_rank inj hF (wf r) (fun j hj hf => sur j (Nat.lt_trans hj (hlt r hr)) hf)
theorem k_E_conclude_t (w : WC) (l : Launch) (sg : SG) {q : XP} (hq : qOK q) (h : svOK sg q) : ew_M qS w l qy_E_conclude qw_E_conclude qr_E_conclude [.inr 9, .inl (nI 1)] sg (fun v sg' => v = some (.inl (nI (xCount q))) ∧ xCount q ≤ 40 ∧ xQ sg' q ∧ ∀ o, o ≠ 36 → sg' o = sg o) := by
  obtain ⟨ka, kb, rows, hP, hT, hkb, hka, h94⟩ := h
  have hN : xN q ≤ 4096 := by unfold xN; split <;> decide
  obtain ⟨wf, h1, inj, sur, hcount, hrk⟩ := sv_wf hP hN
  have hr40 := hP.1
  have h8 := hP.2.1
  refine ew_entry (ws' := qwg) (own := qR_E) (cc := qc_E_conclude) (nL := 2) (ret := some .int) qnk (by decide) rfl rfl (Nat.le_of_ble_eq_true rfl) ?_
  intro k g hp
  refine ew_iload_n g qd_E_conclude_0 rfl ?_
  refine en_if_ne g qd_E_conclude_1 (tgt := 11) (by decide) (by omega) (fun hz => ?_) (fun hz => ?_)
  · refine ew_aload_n g qd_E_conclude_11 rfl ?_
    refine ew_getR g qd_E_conclude_12 qf_E_24 (by decide) rfl rfl ?_
    refine ew_callV g qd_E_conclude_15 (k_P_putInOrder w k.2.1 sg h8 hr40 (fun r hr => by obtain ⟨_, -, z2, -, -, z5⟩ := h1 r hr; exact ⟨z5, by omega⟩) inj) qv_E_66 (by decide) rfl ⟨_, _, rfl⟩ rfl rfl (Nat.le_of_ble_eq_true rfl) ⟨rfl, rfl, by decide, by decide⟩ (fun v sg1 hv => ?_)
    obtain ⟨rfl, hord, hfr⟩ := hv
    refine ew_aload_n g qd_E_conclude_18 rfl ?_
    refine ew_getR g qd_E_conclude_19 qf_E_24 (by decide) rfl rfl ?_
    refine ew_get g qd_E_conclude_22 qf_E_69 (by decide) rfl rfl ?_
    refine en_top (show sg1 28 8 = nI rows.length by rw [hfr 28 (by decide)]; exact h8) ?_
    refine ew_iret g qd_E_conclude_25 hp ?_
    rw [hcount] at hr40 h8 ⊢
    refine ⟨rfl, hr40, ⟨hq, hr40, by rw [hfr 28 (by decide)]; exact h8, by rw [hfr 9 (by decide)]; exact h94, ⟨ka, kb, yW_fr hkb (fun o _ _ => hfr o (by omega)), fun z => yW_fr (hka z) (fun o _ _ => hfr o (by omega)), fun p hp => ?_⟩, fun kd i hk hi => ?_⟩, hfr⟩
    · obtain ⟨m1, m2, m3⟩ := xwit_ok hp
      obtain ⟨r, hr, hwr⟩ := sur _ m1 m2
      obtain ⟨k', a1, a2, a3, a4, a5⟩ := h1 r hr
      have e36 : sg1 36 p = nI r := by
        have := hord r hr
        rw [hrk r hr, hwr, m3] at this
        exact this
      rw [hwr] at a3 a5
      subst a3
      obtain ⟨⟨a, p1, p1'⟩, p2, p3, wt, w1, w2, w3, w4, w5, w6, df, d1, d2, d3⟩ := hP.2.2.2.2.2 r _ a1
      have ewt : wt = xwit q p := (nI_eq (by omega) (by omega)).mp (w5.symm.trans a5)
      subst ewt
      refine ⟨r, e36, by omega, fun _ => ⟨a, p1, by rw [hfr 30 (by decide)]; exact p1'⟩, ?_, ?_, by rw [hfr 33 (by decide)]; exact a5, by rw [hfr 34 (by decide)]; exact w6, ⟨df, d1, by rw [hfr 35 (by decide)]; exact d2, fun i hi => ?_⟩, fun kd i hk hi => ?_⟩
      · rw [hfr 31 (by decide)]; exact p2
      · rw [hfr 32 (by decide), p3]
        exact congrArg nI (cntB_tr hN)
      · rw [d3 i hi]
        unfold xAll
        rw [decide_eq_true_iff]
        exact ⟨fun z m hm hk => z m (by omega) (decide_eq_true hm) hk, fun z m _ hd hk => z m (of_decide_eq_true hd) hk⟩
      · rw [hfr 39 (by decide), ((hT kd hk) i hi).2 r (by omega)]
        refine congrArg nI ((cntB_tr hN).trans (cntB_congr (fun m _ => ?_)))
        rw [a1]
        congr 1
        exact decide_eq_decide.mpr ⟨fun z => (Option.some.inj z).symm, fun z => by rw [z]⟩
    · rw [hfr 38 (by decide)]
      rcases ((hT kd hk) i hi).1 with ⟨z1, z2⟩ | ⟨lm, y1, y2, y3, y4, y5⟩
      · rw [z1, xLst_none (fun j hj => z2 j (by omega) (decide_eq_true hj))]
      · rw [y5, xLst_some (of_decide_eq_true y2) y3 (fun j hj hf => y4 j (by omega) (decide_eq_true hj) hf)]
  · exact absurd hz (by decide)
theorem k_E_conclude_f (w : WC) (l : Launch) (sg : SG) : ew_M qS w l qy_E_conclude qw_E_conclude qr_E_conclude [.inr 9, .inl (nI 0)] sg (fun v sg' => v = some (.inl (-2)) ∧ xEx sg' none ∧ ∀ o, o < 9 ∨ 39 < o → sg' o = sg o) := by
  refine ew_entry (ws' := qwg) (own := qR_E) (cc := qc_E_conclude) (nL := 2) (ret := some .int) qnk (by decide) rfl rfl (Nat.le_of_ble_eq_true rfl) ?_
  intro k g hp
  refine ew_iload_n g qd_E_conclude_0 rfl ?_
  refine en_if_ne g qd_E_conclude_1 (tgt := 11) (by decide) (by omega) (fun hz => ?_) (fun hz => ?_)
  · exact absurd rfl hz
  · refine ew_aload_n g qd_E_conclude_4 rfl ?_
    refine ew_callV g qd_E_conclude_5 (k_E_forget w k.2.1 sg) qv_E_65 (by decide) rfl ⟨_, _, rfl⟩ rfl rfl (Nat.le_of_ble_eq_true rfl) ⟨rfl, rfl, by decide, by decide⟩ (fun v sg1 hv => ?_)
    obtain ⟨rfl, rfl⟩ := hv
    refine ew_bipush g qd_E_conclude_8 bp_m2 ?_
    refine ew_iret g qd_E_conclude_10 hp ?_
    exact ⟨rfl, ⟨fgE_28 sg, fun p hp => fgE_38 sg hp⟩, fun o ho => fgE_n ho⟩
theorem k_E_waysOf (w : WC) (l : Launch) (sg : SG) {n u : Nat} (h : sg 9 4 = nI n) (hn : n = 1 ∨ n = 2) (hu : u < n) : ew_M qS w l qy_E_waysOf qw_E_waysOf qr_E_waysOf [.inr 9, .inl (nI u)] sg (fun v sg' => v = some (.inr (if u = n - 1 then 20 else 11)) ∧ sg' = sg) := by
  refine ew_entry (ws' := qwg) (own := qR_E) (cc := qc_E_waysOf) (nL := 2) (ret := some (.object "ContractProbe$Ways")) qnk (by decide) rfl rfl (Nat.le_of_ble_eq_true rfl) ?_
  intro k g hp
  refine ew_iload_n g qd_E_waysOf_0 rfl ?_
  refine ew_aload_n g qd_E_waysOf_1 rfl ?_
  refine ew_get g qd_E_waysOf_2 qf_E_35 (by decide) rfl rfl ?_
  refine en_top h ?_
  refine ew_iconst g qd_E_waysOf_5 ic_1 ?_
  refine ew_isub g qd_E_waysOf_6 ?_
  refine en_top (pk_sub (by omega)) ?_
  refine en_ne g qd_E_waysOf_7 (tgt := 20) (by decide) (by omega) (by omega) (fun hh => ?_) (fun hh => ?_)
  · refine ew_aload_n g qd_E_waysOf_20 rfl ?_
    refine ew_getR g qd_E_waysOf_21 qf_E_12 (by decide) rfl rfl ?_
    refine ew_getR g qd_E_waysOf_24 qf_E_72 (by decide) rfl rfl ?_
    refine ew_aret g qd_E_waysOf_27 hp ?_
    rw [if_neg hh]
    exact ⟨rfl, rfl⟩
  · refine ew_aload_n g qd_E_waysOf_10 rfl ?_
    refine ew_getR g qd_E_waysOf_11 qf_E_18 (by decide) rfl rfl ?_
    refine ew_getR g qd_E_waysOf_14 qf_E_72 (by decide) rfl rfl ?_
    refine ew_goto g qd_E_waysOf_17 (tgt := 27) (by decide) ?_
    refine ew_aret g qd_E_waysOf_27 hp ?_
    rw [if_pos hh]
    exact ⟨rfl, rfl⟩
theorem k_E_wayOn (w : WC) (l : Launch) (sg : SG) {n u r : Nat} (h : sg 9 4 = nI n) (hn : n = 1 ∨ n = 2) (hu : u < n) (hr : r < 40) : ew_M qS w l qy_E_wayOn qw_E_wayOn qr_E_wayOn [.inr 9, .inl (nI r), .inl (nI u)] sg (fun v sg' => v = some (.inl (if u = n - 1 then sg 31 r else sg 30 r)) ∧ sg' = sg) := by
  refine ew_entry (ws' := qwg) (own := qR_E) (cc := qc_E_wayOn) (nL := 3) (ret := some .int) qnk (by decide) rfl rfl (Nat.le_of_ble_eq_true rfl) ?_
  intro k g hp
  refine ew_iload_n g qd_E_wayOn_0 rfl ?_
  refine ew_aload_n g qd_E_wayOn_1 rfl ?_
  refine ew_get g qd_E_wayOn_2 qf_E_35 (by decide) rfl rfl ?_
  refine en_top h ?_
  refine ew_iconst g qd_E_wayOn_5 ic_1 ?_
  refine ew_isub g qd_E_wayOn_6 ?_
  refine en_top (pk_sub (by omega)) ?_
  refine en_ne g qd_E_wayOn_7 (tgt := 22) (by decide) (by omega) (by omega) (fun hh => ?_) (fun hh => ?_)
  · refine ew_aload_n g qd_E_wayOn_22 rfl ?_
    refine ew_getR g qd_E_wayOn_23 qf_E_24 (by decide) rfl rfl ?_
    refine ew_getR g qd_E_wayOn_26 qf_E_79 (by decide) rfl rfl ?_
    refine ew_iload_n g qd_E_wayOn_29 rfl ?_
    refine en_iald g qd_E_wayOn_30 (by decide) rfl (by omega) (by omega) rfl ?_
    refine ew_iret g qd_E_wayOn_31 hp ?_
    rw [if_neg hh]
    exact ⟨rfl, rfl⟩
  · refine ew_aload_n g qd_E_wayOn_10 rfl ?_
    refine ew_getR g qd_E_wayOn_11 qf_E_24 (by decide) rfl rfl ?_
    refine ew_getR g qd_E_wayOn_14 qf_E_76 (by decide) rfl rfl ?_
    refine ew_iload_n g qd_E_wayOn_17 rfl ?_
    refine en_iald g qd_E_wayOn_18 (by decide) rfl (by omega) (by omega) rfl ?_
    refine ew_goto g qd_E_wayOn_19 (tgt := 31) (by decide) ?_
    refine ew_iret g qd_E_wayOn_31 hp ?_
    rw [if_pos hh]
    exact ⟨rfl, rfl⟩
