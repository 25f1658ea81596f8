/-! the reference's exploration, number by number -/
def mE1 (sg : SG) (q : XP) (m p : Nat) : Prop := pK sg p (rK q (xwit q p)) ∧ sg 54 p = nI (cntB m (fun j => decide (xKey q j = xKey q (xwit q p)))) ∧ sg 55 p = nI (xwit q p) ∧ (∀ i, i < 5 → sg 56 (5 * p + i) = nI (xCel q (xwit q p) i)) ∧ (∀ i, i < 5 → ∃ b : Bool, sg 57 (5 * p + i) = bI b ∧ (b = true ↔ ∀ j, j < m → xKey q j = xKey q (xwit q p) → xCel q j i = xCel q (xwit q p) i)) ∧ ∀ kd i, kd < 5 → i < 32 → sg 58 (160 * p + (32 * kd + i)) = nI (cntB m (fun j => decide (xKey q j = xKey q (xwit q p)) && xFnd q j kd i))
def mLe (sg : SG) (q : XP) (m kd i : Nat) : Prop := (sg 59 (32 * kd + i) = -1 ∧ ∀ j, j < m → xFnd q j kd i = false) ∨ ∃ lm, lm < m ∧ xFnd q lm kd i = true ∧ (∀ j, j < m → xFnd q j kd i = true → lm ≤ j) ∧ sg 59 (32 * kd + i) = nI lm
def mE (sg : SG) (q : XP) (m : Nat) : Prop := sg 41 19 = nI (cntB m (xFst q)) ∧ cntB m (xFst q) ≤ 40 ∧ (∀ p, p < cntB m (xFst q) → mE1 sg q m p) ∧ ∀ kd i, kd < 5 → i < 32 → mLe sg q m kd i
theorem mE1_fr {sg sg' : SG} {q : XP} {m p : Nat} (h : mE1 sg q m p) (hf : ∀ o, 51 ≤ o → o ≤ 58 → sg' o = sg o) : mE1 sg' q m p := by
  unfold mE1 pK at h ⊢
  rw [hf 51 (by decide) (by decide), hf 52 (by decide) (by decide), hf 53 (by decide) (by decide), hf 54 (by decide) (by decide), hf 55 (by decide) (by decide), hf 56 (by decide) (by decide), hf 57 (by decide) (by decide), hf 58 (by decide) (by decide)]
  exact h
theorem mE_fr {sg sg' : SG} {q : XP} {m : Nat} (h : mE sg q m) (hf : ∀ o, 51 ≤ o → o ≤ 59 → sg' o = sg o) (h19 : sg' 41 19 = sg 41 19) : mE sg' q m := by
  obtain ⟨h1, h2, h3, h4⟩ := h
  refine ⟨by rw [h19]; exact h1, h2, fun p hp => mE1_fr (h3 p hp) (fun o a b => hf o a (by omega)), fun kd i hk hi => ?_⟩
  unfold mLe
  rw [hf 59 (by decide) (by decide)]
  exact h4 kd i hk hi
theorem xw_lt {q : XP} {m p : Nat} (hm : m ≤ xN q) (hp : p < cntB m (xFst q)) : xwit q p < m ∧ xFst q (xwit q p) = true ∧ cntB (xwit q p) (xFst q) = p := by
  obtain ⟨j, j1, j2, j3⟩ := cntB_ex hp
  obtain ⟨-, e⟩ := xwit_eq (q := q) (by omega) j2 j3
  rw [e]
  exact ⟨j1, j2, j3⟩
theorem key_has {q : XP} {m j : Nat} (hm : m ≤ xN q) (hj : j < m) : ∃ p, p < cntB m (xFst q) ∧ xKey q (xwit q p) = xKey q j := by
  obtain ⟨j0, h0, hl⟩ := pk_least (fun i => xKey q i = xKey q j) ⟨j, rfl⟩
  have hle : j0 ≤ j := Nat.le_of_not_lt (fun z => hl j z rfl)
  have hF : xFst q j0 = true := xFst_t.mpr (fun i hi z => hl i hi (z.trans h0))
  obtain ⟨-, e⟩ := xwit_eq (q := q) (p := cntB j0 (xFst q)) (by omega) hF rfl
  exact ⟨cntB j0 (xFst q), cntB_strict (by omega) hF, by rw [e]; exact h0⟩
theorem mLe_step {sg sg' : SG} {q : XP} {m kd i : Nat} (hk : kd < 5) (hi : i < 32) (hm : m < 4096) (h : mLe sg q m kd i) (h' : sg' 59 (32 * kd + i) = (if xFnd q m kd i = true ∧ ¬ 0 ≤ sg 59 (32 * kd + i) then nI m else sg 59 (32 * kd + i))) : mLe sg' q (m + 1) kd i := by
  unfold mLe
  rw [h']
  have hneg : ¬ (0 : Int32) ≤ -1 := by decide +kernel
  rcases h with ⟨z1, z2⟩ | ⟨lm, y1, y2, y3, y4⟩
  · cases hf : xFnd q m kd i with
    | false =>
      left
      rw [if_neg (by simp)]
      refine ⟨z1, fun j hj => ?_⟩
      by_cases e : j = m
      · rw [e]; exact hf
      · exact z2 j (by omega)
    | true =>
      right
      rw [if_pos ⟨rfl, by rw [z1]; exact hneg⟩]
      refine ⟨m, by omega, hf, fun j hj hx => ?_, rfl⟩
      by_cases e : j = m
      · omega
      · rw [z2 j (by omega)] at hx; cases hx
  · right
    rw [if_neg (fun z => z.2 (by rw [y4]; exact nI_pos' (by omega)))]
    refine ⟨lm, by omega, y2, fun j hj hx => ?_, y4⟩
    by_cases e : j = m
    · omega
    · exact y3 j (by omega) hx
theorem k_M_explore_go (w : WC) (l : Launch) (sg : SG) {q : XP} (hq : qOK q) (hcd : mCode sg q.1) (h3 : sg 41 3 = nI q.2.1) (h4 : sg 41 4 = nI q.2.2.1) : ew_M qS w l qy_M_explore qw_M_explore qr_M_explore [.inr 41, .inl (nI q.2.2.2)] sg (fun v sg' => ((xCount q ≤ 40 ∧ v = some (.inl (nI (xCount q))) ∧ mE sg' q (xN q) ∧ sg' 41 20 = nI q.2.2.2) ∨ (40 < xCount q ∧ v = some (.inl (-2)) ∧ sg' 41 19 = nI 0 ∧ sg' 41 20 = nI 0)) ∧ (∀ i, i < 8 ∨ (14 < i ∧ i ≠ 19 ∧ i ≠ 20) → sg' 41 i = sg 41 i) ∧ ∀ o, o < 41 ∨ o = 42 ∨ o = 43 ∨ o = 60 ∨ 60 < o → sg' o = sg o) := by
  have hN4 := xN_le q
  have hnn := hq.2.2.2
  have hkB : ∀ m, kB (rK q m) := fun m t => rK_ok hq m t
  refine ew_entry (ws' := qwg) (own := qR_M) (cc := qc_M_explore) (nL := 5) (ret := some .int) qnk (by decide) rfl rfl (Nat.le_of_ble_eq_true rfl) ?_
  intro k g hp
  -- the frame of the whole
  have hmain : ∀ (d m : Nat) (x4 : Option MV) (sg1 : SG), m + d = xN q → mE sg1 q m → sg1 41 20 = nI q.2.2.2 → (∀ i, i < 8 ∨ (14 < i ∧ i ≠ 19 ∧ i ≠ 20) → sg1 41 i = sg 41 i) → (∀ o, o < 41 ∨ o = 42 ∨ o = 43 ∨ o = 60 ∨ 60 < o → sg1 o = sg o) → ew_E qS w 5 k 60 [some (.inr 41), some (.inl (nI q.2.2.2)), some (.inl (nI (xN q))), some (.inl (nI m)), x4] [] sg1 := by
    intro d
    induction d with
    | zero =>
      intro m x4 sg1 hmd hE h20 hfi hfo
      have em : m = xN q := by omega
      subst em
      refine ew_iload_n g qd_M_explore_60 rfl ?_
      refine ew_iload_n g qd_M_explore_61 rfl ?_
      refine en_ge g qd_M_explore_62 (tgt := 157) (by decide) (by omega) (by omega) (fun hz => ?_) (fun hz => ?_)
      · refine ew_aload_n g qd_M_explore_157 rfl ?_
        refine ew_get g qd_M_explore_158 qf_M_145 (by decide) rfl rfl ?_
        refine en_top hE.1 ?_
        refine ew_iret g qd_M_explore_161 hp ?_
        exact ⟨Or.inl ⟨hE.2.1, rfl, hE, h20⟩, hfi, hfo⟩
      · omega
    | succ d ih =>
      intro m x4 sg1 hmd hE h20 hfi hfo
      have hmN : m < xN q := by omega
      have hcd1 : mCode sg1 q.1 := by
        unfold mCode at hcd ⊢
        rw [hfi 0 (by omega), hfo 42 (by omega), hfo 43 (by omega)]
        exact hcd
      refine ew_iload_n g qd_M_explore_60 rfl ?_
      refine ew_iload_n g qd_M_explore_61 rfl ?_
      refine en_ge g qd_M_explore_62 (tgt := 157) (by decide) (by omega) (by omega) (fun hz => ?_) (fun hz => ?_)
      · omega
      · refine ew_aload_n g qd_M_explore_65 rfl ?_
        refine ew_iload_n g qd_M_explore_66 rfl ?_
        refine ew_iload_n g qd_M_explore_67 rfl ?_
        refine ew_callV g qd_M_explore_68 (k_M_perform w k.2.1 sg1 hq hcd1 (by rw [hfi 3 (by omega)]; exact h3) (by rw [hfi 4 (by omega)]; exact h4) hmN) qv_M_151 (by decide) rfl ⟨_, _, rfl⟩ rfl rfl (Nat.le_of_ble_eq_true rfl) ⟨rfl, rfl, by decide, by decide⟩ (fun v sg2 hv => ?_)
        obtain ⟨rfl, ⟨f1, f2, f3, f4, f5⟩, hfp⟩ := hv
        have hE2 : mE sg2 q m := mE_fr hE (fun o a b => hfp.1 o (by omega) (by omega)) (hfp.2 19 (by omega))
        have h202 : sg2 41 20 = nI q.2.2.2 := by rw [hfp.2 20 (by omega)]; exact h20
        have hfi2 : ∀ i, i < 8 ∨ (14 < i ∧ i ≠ 19 ∧ i ≠ 20) → sg2 41 i = sg 41 i := fun i hi => by rw [hfp.2 i (by omega)]; exact hfi i hi
        have hfo2 : ∀ o, o < 41 ∨ o = 42 ∨ o = 43 ∨ o = 60 ∨ 60 < o → sg2 o = sg o := fun o ho => by rw [hfp.1 o (by omega) (by omega)]; exact hfo o ho
        obtain ⟨e1, e2, e3, e4⟩ := id hE2
        have hxc : ∀ j, c16 (xCel q j) := fun j => (xL_ok hq j).1
        -- counted at p, and on
        have hcount : ∀ (p : Nat) (sg3 : SG), p < 40 → p < cntB (m + 1) (xFst q) → xKey q m = xKey q (xwit q p) → sg3 41 19 = nI (cntB (m + 1) (xFst q)) → cntB (m + 1) (xFst q) ≤ 40 → (∀ p', p' < cntB (m + 1) (xFst q) → p' ≠ p → mE1 sg3 q m p') → mE1 sg3 q m p → (∀ kd i, kd < 5 → i < 32 → mLe sg3 q m kd i) → sg3 44 = sg2 44 → sg3 50 = sg2 50 → sg3 41 20 = nI q.2.2.2 → (∀ i, i < 8 ∨ (14 < i ∧ i ≠ 19 ∧ i ≠ 20) → sg3 41 i = sg 41 i) → (∀ o, o < 41 ∨ o = 42 ∨ o = 43 ∨ o = 60 ∨ 60 < o → sg3 o = sg o) → ew_E qS w 5 k 144 [some (.inr 41), some (.inl (nI q.2.2.2)), some (.inl (nI (xN q))), some (.inl (nI m)), some (.inl (nI p))] [] sg3 := by
          intro p sg3 hp4 hpc hkey h19 hc40 hoth hself hles h44 h50 h203 hfi3 hfo3
          obtain ⟨s1, s2, s3, s4, s5, s6⟩ := id hself
          obtain ⟨smf, hsm⟩ := Classical.axiomOfChoice (show ∀ i, ∃ b : Bool, i < 5 → (sg3 57 (5 * p + i) = bI b ∧ (b = true ↔ ∀ j, j < m → xKey q j = xKey q (xwit q p) → xCel q j i = xCel q (xwit q p) i)) from fun i => by
            by_cases hi : i < 5
            · obtain ⟨b, hb⟩ := s5 i hi
              exact ⟨b, fun _ => hb⟩
            · exact ⟨true, fun z => absurd z hi⟩)
          refine ew_aload_n g qd_M_explore_144 rfl ?_
          refine ew_iload g qd_M_explore_145 rfl ?_
          refine ew_iload_n g qd_M_explore_147 rfl ?_
          refine ew_callV g qd_M_explore_148 (k_M_count w k.2.1 sg3 (p := p) (m := m) (cel := xCel q m) (lf := xCel q (xwit q p)) (sm := smf) (fd := xFnd q m) hp4 s2 (fun i hi => ⟨by rw [h44]; exact f1 i hi, hxc m i hi⟩) (fun i hi => ⟨s4 i hi, hxc _ i hi⟩) (fun i hi => (hsm i hi).1) (fun kd hk i hi => by rw [h50]; exact f4 kd hk i hi)) qv_M_160 (by decide) rfl ⟨_, _, rfl⟩ rfl rfl (Nat.le_of_ble_eq_true rfl) ⟨rfl, rfl, by decide, by decide⟩ (fun v sg4 hv => ?_)
          obtain ⟨rfl, c1, c2, c3, c4, c5, c6, c7⟩ := hv
          have c41 : sg4 41 = sg3 41 := c7 41 (by decide) (by decide) (by decide) (by decide)
          refine ew_iinc g qd_M_explore_151 (by decide) rfl (ii_1 _) ?_
          refine ew_goto g qd_M_explore_154 (tgt := 60) (by decide) ?_
          refine ih (m + 1) _ sg4 (by omega) ⟨by rw [c41]; exact h19, hc40, fun p' hp' => ?_, fun kd i hk hi => mLe_step hk hi (by omega) (hles kd i hk hi) ?_⟩ (by rw [c41]; exact h203) (fun i hi => by rw [c41]; exact hfi3 i hi) (fun o ho => by rw [c7 o (by omega) (by omega) (by omega) (by omega)]; exact hfo3 o ho)
          · by_cases ep : p' = p
            · subst ep
              refine ⟨fun t ht => ?_, ?_, ?_, fun i hi => ?_, fun i hi => ?_, fun kd i hk hi => ?_⟩
              · rw [c7 51 (by decide) (by decide) (by decide) (by decide), c7 52 (by decide) (by decide) (by decide) (by decide), c7 53 (by decide) (by decide) (by decide) (by decide)]
                exact s1 t ht
              · rw [c1, pk_us]
                refine congrArg nI ?_
                show _ = cntB m _ + _
                rw [if_pos (decide_eq_true hkey)]
              · rw [c7 55 (by decide) (by decide) (by decide) (by decide)]; exact s3
              · rw [c7 56 (by decide) (by decide) (by decide) (by decide)]; exact s4 i hi
              · refine ⟨_, c2 i hi, ?_⟩
                rw [Bool.and_eq_true, decide_eq_true_iff, (hsm i hi).2]
                constructor
                · rintro ⟨z1, z2⟩ j hj hk
                  by_cases e : j = m
                  · rw [e]; exact z2.symm
                  · exact z1 j (by omega) hk
                · intro z
                  exact ⟨fun j hj hk => z j (by omega) hk, (z m (by omega) hkey).symm⟩
              · have hx : (32 * kd + i) / 32 = kd ∧ (32 * kd + i) % 32 = i := by omega
                rw [c4 (32 * kd + i) (by omega), hx.1, hx.2, s6 kd i hk hi]
                have e9 : cntB (m + 1) (fun j => decide (xKey q j = xKey q (xwit q p')) && xFnd q j kd i) = cntB m (fun j => decide (xKey q j = xKey q (xwit q p')) && xFnd q j kd i) + (if (decide (xKey q m = xKey q (xwit q p')) && xFnd q m kd i) = true then 1 else 0) := rfl
                rw [e9, decide_eq_true hkey]
                cases hf : xFnd q m kd i with
                | true => rw [if_pos rfl, if_pos (by rfl), nI_inc]
                | false => rw [if_neg (by simp), if_neg (by simp), Nat.add_zero]
            · have hne : xKey q m ≠ xKey q (xwit q p') := fun z => by
                obtain ⟨a1, a2, a3⟩ := xw_lt (q := q) (m := m + 1) (by omega) hp'
                obtain ⟨b1, b2, b3⟩ := xw_lt (q := q) (m := m + 1) (by omega) hpc
                have ek : xKey q (xwit q p') = xKey q (xwit q p) := z.symm.trans hkey
                rcases Nat.lt_trichotomy (xwit q p') (xwit q p) with y | y | y
                · exact xFst_t.mp b2 _ y ek
                · rw [y, b3] at a3; exact ep a3.symm
                · exact xFst_t.mp a2 _ y ek.symm
              obtain ⟨o1, o2, o3, o4, o5, o6⟩ := hoth p' hp' ep
              refine ⟨fun t ht => ?_, ?_, ?_, fun i hi => ?_, fun i hi => ?_, fun kd i hk hi => ?_⟩
              · rw [c7 51 (by decide) (by decide) (by decide) (by decide), c7 52 (by decide) (by decide) (by decide) (by decide), c7 53 (by decide) (by decide) (by decide) (by decide)]
                exact o1 t ht
              · rw [c1, pk_un ep, o2]
                refine congrArg nI ?_
                show _ = cntB m _ + _
                rw [if_neg (by show ¬ (decide (xKey q m = xKey q (xwit q p')) = true); rw [decide_eq_false hne]; decide)]
                exact (Nat.add_zero _).symm
              · rw [c7 55 (by decide) (by decide) (by decide) (by decide)]; exact o3
              · rw [c7 56 (by decide) (by decide) (by decide) (by decide)]; exact o4 i hi
              · obtain ⟨b, hb1, hb2⟩ := o5 i hi
                refine ⟨b, by rw [c3 _ (by omega)]; exact hb1, ?_⟩
                rw [hb2]
                constructor
                · intro z j hj hk
                  by_cases e : j = m
                  · rw [e] at hk; exact absurd hk hne
                  · exact z j (by omega) hk
                · intro z j hj hk
                  exact z j (by omega) hk
              · rw [c5 _ (by omega), o6 kd i hk hi]
                refine congrArg nI ?_
                show _ = cntB m _ + _
                rw [if_neg (by show ¬ ((decide (xKey q m = xKey q (xwit q p')) && xFnd q m kd i) = true); rw [decide_eq_false hne]; simp)]
                exact (Nat.add_zero _).symm
          · have hx : (32 * kd + i) / 32 = kd ∧ (32 * kd + i) % 32 = i := by omega
            rw [c6 (32 * kd + i) (by omega), hx.1, hx.2]
        -- behind the search
        have hcs : cntB (m + 1) (xFst q) = cntB m (xFst q) + (if xFst q m = true then 1 else 0) := rfl
        have hfound : ∀ p, p < cntB m (xFst q) → xKey q m = xKey q (xwit q p) → ew_E qS w 5 k 98 [some (.inr 41), some (.inl (nI q.2.2.2)), some (.inl (nI (xN q))), some (.inl (nI m)), some (.inl (nI p))] [] sg2 := by
          intro p hp hkey
          have hnf : ¬ xFst q m = true := fun z => by
            obtain ⟨a1, -, -⟩ := xw_lt (q := q) (m := m) (by omega) hp
            exact xFst_t.mp z _ a1 hkey.symm
          have hcs' : cntB (m + 1) (xFst q) = cntB m (xFst q) := by rw [hcs, if_neg hnf]; exact Nat.add_zero _
          refine ew_iload g qd_M_explore_98 rfl ?_
          refine ew_bipush g qd_M_explore_100 bp_40 ?_
          refine en_ne g qd_M_explore_102 (tgt := 118) (by decide) (by omega) (by omega) (fun h40 => ?_) (fun h40 => ?_)
          · refine ew_iload g qd_M_explore_118 rfl ?_
            refine ew_aload_n g qd_M_explore_120 rfl ?_
            refine ew_get g qd_M_explore_121 qf_M_145 (by decide) rfl rfl ?_
            refine en_top e1 ?_
            refine en_ne g qd_M_explore_124 (tgt := 144) (by decide) (by omega) (by omega) (fun hne => ?_) (fun hne => ?_)
            · rw [← hcs'] at e1 e2 e3 hp
              exact hcount p sg2 (by omega) hp hkey e1 e2 (fun p' hp' _ => e3 p' hp') (e3 p hp) e4 rfl rfl h202 hfi2 hfo2
            · omega
          · omega
        have hnew : (∀ p, p < cntB m (xFst q) → xKey q m ≠ xKey q (xwit q p)) → ew_E qS w 5 k 98 [some (.inr 41), some (.inl (nI q.2.2.2)), some (.inl (nI (xN q))), some (.inl (nI m)), some (.inl (nI (cntB m (xFst q))))] [] sg2 := by
          intro hall
          have hF : xFst q m = true := xFst_t.mpr (fun j hj z => by
            obtain ⟨p, hp, hk⟩ := key_has (q := q) (m := m) (by omega) hj
            exact hall p hp (z.symm.trans hk.symm))
          rw [if_pos hF] at hcs
          obtain ⟨-, hxw⟩ := xwit_eq (q := q) hmN hF rfl
          refine ew_iload g qd_M_explore_98 rfl ?_
          refine ew_bipush g qd_M_explore_100 bp_40 ?_
          refine en_ne g qd_M_explore_102 (tgt := 118) (by decide) (by omega) (by decide) (fun h40 => ?_) (fun h40 => ?_)
          · refine ew_iload g qd_M_explore_118 rfl ?_
            refine ew_aload_n g qd_M_explore_120 rfl ?_
            refine ew_get g qd_M_explore_121 qf_M_145 (by decide) rfl rfl ?_
            refine en_top e1 ?_
            refine en_ne g qd_M_explore_124 (tgt := 144) (by decide) (by omega) (by omega) (fun hne => ?_) (fun hne => ?_)
            · exact absurd rfl hne
            · refine ew_aload_n g qd_M_explore_127 rfl ?_
              refine ew_iload g qd_M_explore_128 rfl ?_
              refine ew_iload_n g qd_M_explore_130 rfl ?_
              refine ew_callV g qd_M_explore_131 (k_M_open w k.2.1 sg2 (p := cntB m (xFst q)) (m := m) (cur := rK q m) (cel := xCel q m) (by omega) f5 f1) qv_M_157 (by decide) rfl ⟨_, _, rfl⟩ rfl rfl (Nat.le_of_ble_eq_true rfl) ⟨rfl, rfl, by decide, by decide⟩ (fun v sg3 hv => ?_)
              obtain ⟨rfl, g1, g2, g3, g4, g5, gfr⟩ := hv
              refine ew_aload_n g qd_M_explore_134 rfl ?_
              refine ew_dup g qd_M_explore_135 ?_
              refine ew_get g qd_M_explore_136 qf_M_145 (by decide) rfl rfl ?_
              refine en_top (show sg3 41 19 = nI (cntB m (xFst q)) by rw [gfr.1 41 (by omega)]; exact e1) ?_
              refine ew_iconst g qd_M_explore_139 ic_1 ?_
              refine ew_iadd g qd_M_explore_140 ?_
              refine en_top (nI_add _ _) ?_
              refine ew_put g qd_M_explore_141 qf_M_145 (qp_M_paths _) (by decide) rfl rfl ?_
              have ne41 : ∀ o, o ≠ 41 → sup sg3 41 19 (nI (cntB m (xFst q) + 1)) o = sg3 o := fun o ho => sup_n ho
              refine hcount (cntB m (xFst q)) _ (by omega) (by rw [hcs]; omega) (by rw [hxw]) (by rw [sup_s, pk_us, hcs]) (by rw [hcs]; omega) (fun p' hp' hne' => ?_) ?_ (fun kd i hk hi => ?_) (by rw [ne41 44 (by decide), gfr.1 44 (by omega)]) (by rw [ne41 50 (by decide), gfr.1 50 (by omega)]) (by rw [sup_s, pk_un (by decide), gfr.1 41 (by omega)]; exact h202) (fun i hi => by rw [sup_s, pk_un (by omega), gfr.1 41 (by omega)]; exact hfi2 i hi) (fun o ho => by rw [ne41 o (by omega), gfr.1 o (by omega)]; exact hfo2 o ho)
              · have hp'' : p' < cntB m (xFst q) := by omega
                refine mE1_fr (sg := sg3) ?_ (fun o a b => ne41 o (by omega))
                obtain ⟨o1, o2, o3, o4, o5, o6⟩ := e3 p' hp''
                refine ⟨fun t ht => ?_, ?_, ?_, fun i hi => ?_, fun i hi => ?_, fun kd i hk hi => ?_⟩
                · obtain ⟨r1, r2, r3, r4⟩ := o1 t ht
                  refine ⟨by rw [(gfr.2.2.1 _ (by omega)).1]; exact r1, r2, by rw [(gfr.2.2.1 _ (by omega)).2]; exact r3, fun i hi => ?_⟩
                  rw [gfr.2.1 _ (by omega)]
                  exact r4 i hi
                · rw [(gfr.2.2.2.1 _ hne').1]; exact o2
                · rw [(gfr.2.2.2.1 _ hne').2]; exact o3
                · rw [(gfr.2.2.2.2.1 _ (by omega)).1]; exact o4 i hi
                · rw [(gfr.2.2.2.2.1 _ (by omega)).2]; exact o5 i hi
                · rw [gfr.2.2.2.2.2 _ (by omega)]; exact o6 kd i hk hi
              · refine mE1_fr (sg := sg3) ?_ (fun o a b => ne41 o (by omega))
                have hfst := xFst_t.mp hF
                unfold mE1
                rw [hxw]
                refine ⟨g1, ?_, g3, fun i hi => (g4 i hi).1, fun i hi => ⟨true, (g4 i hi).2, ?_⟩, fun kd i hk hi => ?_⟩
                · rw [g2, cntB_none (P := fun j => decide (xKey q j = xKey q m)) (fun j hj => decide_eq_false (hfst j hj))]
                · exact ⟨fun _ j hj hk => absurd hk (hfst j hj), fun _ => rfl⟩
                · rw [g5 _ (by omega), cntB_none (P := fun j => decide (xKey q j = xKey q m) && xFnd q j kd i) (fun j hj => by rw [decide_eq_false (hfst j hj)]; rfl)]
              · have := e4 kd i hk hi
                unfold mLe at this ⊢
                rw [ne41 59 (by decide), gfr.1 59 (by omega)]
                exact this
          · have hbig : 40 < xCount q := by
              have := cntB_mle (P := xFst q) (show m + 1 ≤ xN q by omega)
              show 40 < cntB (xN q) (xFst q)
              omega
            refine ew_aload_n g qd_M_explore_105 rfl ?_
            refine ew_iconst g qd_M_explore_106 ic_0 ?_
            refine ew_put g qd_M_explore_107 qf_M_145 (qp_M_paths _) (by decide) rfl rfl ?_
            refine ew_aload_n g qd_M_explore_110 rfl ?_
            refine ew_iconst g qd_M_explore_111 ic_0 ?_
            refine ew_put g qd_M_explore_112 qf_M_148 (qp_M_explored _) (by decide) rfl rfl ?_
            refine ew_bipush g qd_M_explore_115 bp_m2 ?_
            refine ew_iret g qd_M_explore_117 hp ?_
            refine ⟨Or.inr ⟨hbig, rfl, by rw [sup_s, pk_un (by decide), sup_s, pk_us], by rw [sup_s, pk_us]⟩, fun i hi => by rw [sup_s, pk_un (by omega), sup_s, pk_un (by omega)]; exact hfi2 i hi, fun o ho => by rw [sup_n (by omega), sup_n (by omega)]; exact hfo2 o ho⟩
        have hsearch : ∀ (d' p : Nat), p + d' = cntB m (xFst q) → (∀ p', p' < p → xKey q m ≠ xKey q (xwit q p')) → ew_E qS w 5 k 74 [some (.inr 41), some (.inl (nI q.2.2.2)), some (.inl (nI (xN q))), some (.inl (nI m)), some (.inl (nI p))] [] sg2 := by
          intro d'
          induction d' with
          | zero =>
            intro p hp hinv
            have ep : p = cntB m (xFst q) := by omega
            subst ep
            refine ew_iload g qd_M_explore_74 rfl ?_
            refine ew_aload_n g qd_M_explore_76 rfl ?_
            refine ew_get g qd_M_explore_77 qf_M_145 (by decide) rfl rfl ?_
            refine en_top e1 ?_
            refine en_ge g qd_M_explore_80 (tgt := 98) (by decide) (by omega) (by omega) (fun h => ?_) (fun h => ?_)
            · exact hnew hinv
            · omega
          | succ d' ih' =>
            intro p hp hinv
            refine ew_iload g qd_M_explore_74 rfl ?_
            refine ew_aload_n g qd_M_explore_76 rfl ?_
            refine ew_get g qd_M_explore_77 qf_M_145 (by decide) rfl rfl ?_
            refine en_top e1 ?_
            refine en_ge g qd_M_explore_80 (tgt := 98) (by decide) (by omega) (by omega) (fun h => ?_) (fun h => ?_)
            · omega
            · refine ew_aload_n g qd_M_explore_83 rfl ?_
              refine ew_iload g qd_M_explore_84 rfl ?_
              refine ew_callV g qd_M_explore_86 (k_M_goes w k.2.1 sg2 (p := p) (kk := rK q (xwit q p)) (cur := rK q m) (by omega) (e3 p h).1 (hkB _) f5 (hkB _)) qv_M_154 (by decide) rfl ⟨_, _, rfl⟩ rfl rfl (Nat.le_of_ble_eq_true rfl) ⟨rfl, rfl, by decide, by decide⟩ (fun v sg3 hv => ?_)
              obtain ⟨hv, rfl⟩ := hv
              rcases hv with ⟨ha, rfl⟩ | ⟨ha, rfl⟩
              · refine en_if_ne g qd_M_explore_89 (tgt := 98) (by decide) (by omega) (fun hz2 => ?_) (fun hz2 => ?_)
                · exact hfound p h ((rK_eq _ _).mp ha).symm
                · exact absurd hz2 (by decide)
              · refine en_if_ne g qd_M_explore_89 (tgt := 98) (by decide) (by omega) (fun hz2 => ?_) (fun hz2 => ?_)
                · exact absurd rfl hz2
                · refine ew_iinc g qd_M_explore_92 (by decide) rfl (ii_1 _) ?_
                  refine ew_goto g qd_M_explore_95 (tgt := 74) (by decide) ?_
                  refine ih' (p + 1) (by omega) (fun p' hp' => ?_)
                  by_cases e : p' = p
                  · rw [e]; exact fun z => ha ((rK_eq _ _).mpr z.symm)
                  · exact hinv p' (by omega)
        refine ew_iconst g qd_M_explore_71 ic_0 ?_
        refine ew_istore g qd_M_explore_72 (by decide) ?_
        exact hsearch (cntB m (xFst q)) 0 (by omega) (fun p' hp' => absurd hp' (Nat.not_lt_zero p'))
  have hfill : ∀ (d x : Nat) (sg1 : SG), x + d = 160 → (∀ y, y < x → sg1 59 y = -1) → sg1 41 19 = nI 0 → sg1 41 20 = nI q.2.2.2 → (∀ i, i < 8 ∨ (14 < i ∧ i ≠ 19 ∧ i ≠ 20) → sg1 41 i = sg 41 i) → (∀ o, o < 41 ∨ o = 42 ∨ o = 43 ∨ o = 60 ∨ 60 < o → sg1 o = sg o) → ew_E qS w 5 k 24 [some (.inr 41), some (.inl (nI q.2.2.2)), some (.inl (nI x)), none, none] [] sg1 := by
    intro d
    induction d with
    | zero =>
      intro x sg1 hx h59 h19 h20 hfi hfo
      have hE0 : mE sg1 q 0 := ⟨h19, Nat.zero_le _, fun p hp => absurd hp (Nat.not_lt_zero p), fun kd i hk hi => Or.inl ⟨h59 _ (by omega), fun j hj => absurd hj (Nat.not_lt_zero j)⟩⟩
      refine ew_iload_n g qd_M_explore_24 rfl ?_
      refine ew_sipush g qd_M_explore_25 sp_160 ?_
      refine en_ge g qd_M_explore_28 (tgt := 44) (by decide) (by omega) (by omega) (fun hz => ?_) (fun hz => ?_)
      · rcases hnn with hn | hn
        · have hN : xN q = 64 := by unfold xN; rw [if_pos hn]
          rw [hn, hN] at hmain
          rw [hn]
          refine ew_iload_n g qd_M_explore_44 rfl ?_
          refine ew_iconst g qd_M_explore_45 ic_1 ?_
          refine en_ne g qd_M_explore_46 (tgt := 54) (by decide) (by omega) (by omega) (fun hz2 => ?_) (fun hz2 => ?_)
          · exact absurd rfl hz2
          · refine ew_bipush g qd_M_explore_49 bp_64 ?_
            refine ew_goto g qd_M_explore_51 (tgt := 57) (by decide) ?_
            refine ew_istore_n g qd_M_explore_57 (by decide) ?_
            refine ew_iconst g qd_M_explore_58 ic_0 ?_
            refine ew_istore_n g qd_M_explore_59 (by decide) ?_
            exact hmain 64 0 _ sg1 rfl hE0 (by rw [h20, hn]) hfi hfo
        · have hN : xN q = 4096 := by unfold xN; rw [if_neg (by omega)]
          rw [hn, hN] at hmain
          rw [hn]
          refine ew_iload_n g qd_M_explore_44 rfl ?_
          refine ew_iconst g qd_M_explore_45 ic_1 ?_
          refine en_ne g qd_M_explore_46 (tgt := 54) (by decide) (by omega) (by omega) (fun hz2 => ?_) (fun hz2 => ?_)
          · refine ew_sipush g qd_M_explore_54 sp_4096 ?_
            refine ew_istore_n g qd_M_explore_57 (by decide) ?_
            refine ew_iconst g qd_M_explore_58 ic_0 ?_
            refine ew_istore_n g qd_M_explore_59 (by decide) ?_
            exact hmain 4096 0 _ sg1 rfl hE0 (by rw [h20, hn]) hfi hfo
          · exact absurd hz2 (by decide)
      · omega
    | succ d ih =>
      intro x sg1 hx h59 h19 h20 hfi hfo
      refine ew_iload_n g qd_M_explore_24 rfl ?_
      refine ew_sipush g qd_M_explore_25 sp_160 ?_
      refine en_ge g qd_M_explore_28 (tgt := 44) (by decide) (by omega) (by omega) (fun hz => ?_) (fun hz => ?_)
      · omega
      · refine ew_aload_n g qd_M_explore_31 rfl ?_
        refine ew_getR g qd_M_explore_32 qf_M_66 (by decide) rfl rfl ?_
        refine ew_iload_n g qd_M_explore_35 rfl ?_
        refine ew_iconst g qd_M_explore_36 ic_m1 ?_
        refine en_iast g qd_M_explore_37 (by decide) rfl (by omega) (by omega) ?_
        refine ew_iinc g qd_M_explore_38 (by decide) rfl (ii_1 _) ?_
        refine ew_goto g qd_M_explore_41 (tgt := 24) (by decide) ?_
        refine ih (x + 1) _ (by omega) (fun y hy => ?_) (by rw [sup_n (by decide)]; exact h19) (by rw [sup_n (by decide)]; exact h20) (fun i hi => by rw [sup_n (by decide)]; exact hfi i hi) (fun o ho => by rw [sup_n (by omega)]; exact hfo o ho)
        rw [sup_s]
        by_cases e : y = x
        · rw [e, pk_us]
        · rw [pk_un e]; exact h59 y (by omega)
  have h12 : ew_E qS w 5 k 12 [some (.inr 41), some (.inl (nI q.2.2.2)), none, none, none] [] sg := by
    refine ew_aload_n g qd_M_explore_12 rfl ?_
    refine ew_iconst g qd_M_explore_13 ic_0 ?_
    refine ew_put g qd_M_explore_14 qf_M_145 (qp_M_paths _) (by decide) rfl rfl ?_
    refine ew_aload_n g qd_M_explore_17 rfl ?_
    refine ew_iload_n g qd_M_explore_18 rfl ?_
    refine ew_put g qd_M_explore_19 qf_M_148 (qp_M_explored _) (by decide) rfl rfl ?_
    refine ew_iconst g qd_M_explore_22 ic_0 ?_
    refine ew_istore_n g qd_M_explore_23 (by decide) ?_
    refine hfill 160 0 _ rfl (fun y hy => absurd hy (Nat.not_lt_zero y)) (by rw [sup_s, pk_un (by decide), sup_s, pk_us]) (by rw [sup_s, pk_us]) (fun i hi => by rw [sup_s, pk_un (by omega), sup_s, pk_un (by omega)]) (fun o ho => by rw [sup_n (by omega), sup_n (by omega)])
  rcases hnn with hn | hn
  · rw [hn] at h12 ⊢
    refine ew_iload_n g qd_M_explore_0 rfl ?_
    refine ew_iconst g qd_M_explore_1 ic_1 ?_
    refine en_eq g qd_M_explore_2 (tgt := 12) (by decide) (by omega) (by omega) (fun hz => ?_) (fun hz => ?_)
    · exact h12
    · exact absurd rfl hz
  · rw [hn] at h12 ⊢
    refine ew_iload_n g qd_M_explore_0 rfl ?_
    refine ew_iconst g qd_M_explore_1 ic_1 ?_
    refine en_eq g qd_M_explore_2 (tgt := 12) (by decide) (by omega) (by omega) (fun hz => ?_) (fun hz => ?_)
    · exact absurd hz (by decide)
    · refine ew_iload_n g qd_M_explore_5 rfl ?_
      refine ew_iconst g qd_M_explore_6 ic_2 ?_
      refine en_eq g qd_M_explore_7 (tgt := 12) (by decide) (by omega) (by omega) (fun hz2 => ?_) (fun hz2 => ?_)
      · exact h12
      · exact absurd rfl hz2
