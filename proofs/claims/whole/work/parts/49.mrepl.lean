theorem k_M_replay (w : WC) (l : Launch) (sg : SG) {a : AS} (h : mS sg a) (x y : Int32) : ew_M qS w l qy_M_replay qw_M_replay qr_M_replay [.inr 41, .inl x, .inl y] sg (fun v sg' => v = some (.inl (aReplay a x y).1) ∧ mS sg' (aReplay a x y).2 ∧ mFo sg sg') := by
  obtain ⟨h1, h2, h3, h4, h5⟩ := id h
  have hqk : ∀ n, n = 1 ∨ n = 2 → qOK (aXp a n) := fun n hn => ⟨h1.1, h2.2, h3.2.2, hn⟩
  refine ew_entry (ws' := qwg) (own := qR_M) (cc := qc_M_replay) (nL := 4) (ret := some .int) qnk (by decide) rfl rfl (Nat.le_of_ble_eq_true rfl) ?_
  intro k g hp
  have hno : aReplay a x y = (-1, a) → ew_E qS w 4 k 31 [some (.inr 41), some (.inl x), some (.inl y), none] [] sg := by
    intro e
    refine ew_iconst g qd_M_replay_31 ic_m1 ?_
    refine ew_iret g qd_M_replay_32 hp ?_
    rw [e]
    exact ⟨rfl, h, fun _ _ => rfl⟩
  have h33 : ∀ n m : Nat, n = 1 ∨ n = 2 → x = nI n → y = nI m → m < xN (aXp a n) → aReplay a x y = aRep a n m → ew_E qS w 4 k 33 [some (.inr 41), some (.inl (nI n)), some (.inl (nI m)), none] [] sg := by
    intro n m hn hx hy hm eR
    refine ew_aload_n g qd_M_replay_33 rfl ?_
    refine ew_iload_n g qd_M_replay_34 rfl ?_
    refine ew_iload_n g qd_M_replay_35 rfl ?_
    refine ew_callV g qd_M_replay_36 (k_M_perform w k.2.1 sg (q := aXp a n) (hqk n hn) h1 h2.1 h3.1 hm) qv_M_151 (by decide) rfl ⟨_, _, rfl⟩ rfl rfl (Nat.le_of_ble_eq_true rfl) ⟨rfl, rfl, by decide, by decide⟩ (fun v sg1 hv => ?_)
    obtain ⟨rfl, ⟨f1, f2, f3, f4, f5⟩, hfp⟩ := hv
    have loop : ∀ (d i : Nat) (sg2 : SG), i + d = 5 → (∀ o, o ≠ 60 → sg2 o = sg1 o) → (∀ j, j < i → sg2 60 j = nI (xCel (aXp a n) m j)) → ew_E qS w 4 k 41 [some (.inr 41), some (.inl (nI n)), some (.inl (nI m)), some (.inl (nI i))] [] sg2 := by
      intro d
      induction d with
      | zero =>
        intro i sg2 hi hf hr
        have e5 : i = 5 := by omega
        subst e5
        have e41 : sg2 41 = sg1 41 := hf 41 (by decide)
        obtain ⟨eK, u2⟩ := rK_of (q := aXp a n) hn (m := m) (u := n - 1) (by show n - 1 < n; omega)
        have hend : sg1 49 (n - 1) = nI (pHo (xL (aXp a n) m)) := by
          rw [(f5 (n - 1) u2).2, eK]
          unfold kOf
          rw [if_pos (by rfl)]
          rfl
        refine ew_iload_n g qd_M_replay_41 rfl ?_
        refine ew_iconst g qd_M_replay_42 ic_5 ?_
        refine en_ge g qd_M_replay_43 (tgt := 64) (by decide) (by omega) (by omega) (fun hz => ?_) (fun hz => ?_)
        · refine ew_aload_n g qd_M_replay_64 rfl ?_
          refine ew_getR g qd_M_replay_65 qf_M_69 (by decide) rfl rfl ?_
          refine ew_iconst g qd_M_replay_68 ic_5 ?_
          refine ew_aload_n g qd_M_replay_69 rfl ?_
          refine ew_get g qd_M_replay_70 qf_M_81 (by decide) rfl rfl ?_
          refine en_top (show sg2 41 9 = nI (pGa (xL (aXp a n) m)) by rw [e41]; exact f2) ?_
          refine en_iast g qd_M_replay_73 (by decide) rfl (by omega) (by omega) ?_
          refine ew_aload_n g qd_M_replay_74 rfl ?_
          refine ew_getR g qd_M_replay_75 qf_M_69 (by decide) rfl rfl ?_
          refine ew_bipush g qd_M_replay_78 bp_6 ?_
          refine ew_aload_n g qd_M_replay_80 rfl ?_
          refine ew_get g qd_M_replay_81 qf_M_88 (by decide) rfl rfl ?_
          refine en_top (show sup sg2 60 5 (nI (pGa (xL (aXp a n) m))) 41 8 = nI (pDe (xL (aXp a n) m)) by rw [sup_n (by decide), e41]; exact f3) ?_
          refine en_iast g qd_M_replay_84 (by decide) rfl (by omega) (by omega) ?_
          refine ew_aload_n g qd_M_replay_85 rfl ?_
          refine ew_iconst g qd_M_replay_86 ic_1 ?_
          refine en_top bI_t.symm ?_
          refine ew_put g qd_M_replay_87 qf_M_166 (qp_M_replays _) (by decide) rfl rfl ?_
          refine ew_aload_n g qd_M_replay_90 rfl ?_
          refine ew_getR g qd_M_replay_91 qf_M_35 (by decide) rfl rfl ?_
          refine ew_iload_n g qd_M_replay_94 rfl ?_
          refine ew_iconst g qd_M_replay_95 ic_1 ?_
          refine ew_isub g qd_M_replay_96 ?_
          refine en_top (pk_sub (by omega)) ?_
          refine en_iald g qd_M_replay_97 (by decide) rfl (by omega) (by omega) (show sup (sup (sup sg2 60 5 (nI (pGa (xL (aXp a n) m)))) 60 6 (nI (pDe (xL (aXp a n) m)))) 41 30 (bI true) 49 (n - 1) = nI (pHo (xL (aXp a n) m)) by rw [sup_n (by decide), sup_n (by decide), sup_n (by decide), hf 49 (by decide)]; exact hend) ?_
          refine ew_iret g qd_M_replay_98 hp ?_
          rw [eR]
          have hfs : ∀ o, o ≠ 41 → (o < 44 ∨ 50 < o) → o ≠ 60 → sup (sup (sup sg2 60 5 (nI (pGa (xL (aXp a n) m)))) 60 6 (nI (pDe (xL (aXp a n) m)))) 41 30 (bI true) o = sg o := fun o q1 q2 q3 => by rw [sup_n q1, sup_n q3, sup_n q3, hf o q3]; exact hfp.1 o q1 q2
          have hfi : ∀ i, i ≠ 30 → (i < 8 ∨ 14 < i) → sup (sup (sup sg2 60 5 (nI (pGa (xL (aXp a n) m)))) 60 6 (nI (pDe (xL (aXp a n) m)))) 41 30 (bI true) 41 i = sg 41 i := fun i q1 q2 => by rw [sup_s, pk_un q1, sup_n (by decide), sup_n (by decide), e41]; exact hfp.2 i q2
          refine ⟨rfl, ⟨?_, ⟨(hfi 3 (by decide) (by omega)).trans h2.1, h2.2⟩, ⟨(hfi 4 (by decide) (by omega)).trans h3.1, h3.2⟩, mEx_fr h4 (fun o a b => hfs o (by omega) (by omega) (by omega)) (hfi 19 (by decide) (by omega)) (hfi 20 (by decide) (by omega)), ⟨by rw [sup_s, pk_us], fun i hi => ?_⟩⟩, fun o ho => hfs o (by omega) (by omega) (by omega)⟩
          · show mCode _ a.1
            unfold mCode at h1 ⊢
            rw [hfi 0 (by decide) (by omega), hfs 42 (by decide) (by omega) (by decide), hfs 43 (by decide) (by omega) (by decide)]
            exact h1
          · rw [sup_n (by decide), sup_s, sup_s]
            unfold rpOf upd
            by_cases e6 : i = 6
            · subst e6; rfl
            · rw [if_neg e6]
              by_cases e5 : i = 5
              · subst e5; rfl
              · rw [if_neg e5, if_pos (by omega)]
                exact hr i (by omega)
        · omega
      | succ d ih =>
        intro i sg2 hi hf hr
        refine ew_iload_n g qd_M_replay_41 rfl ?_
        refine ew_iconst g qd_M_replay_42 ic_5 ?_
        refine en_ge g qd_M_replay_43 (tgt := 64) (by decide) (by omega) (by omega) (fun hz => ?_) (fun hz => ?_)
        · omega
        · refine ew_aload_n g qd_M_replay_46 rfl ?_
          refine ew_getR g qd_M_replay_47 qf_M_69 (by decide) rfl rfl ?_
          refine ew_iload_n g qd_M_replay_50 rfl ?_
          refine ew_aload_n g qd_M_replay_51 rfl ?_
          refine ew_getR g qd_M_replay_52 qf_M_20 (by decide) rfl rfl ?_
          refine ew_iload_n g qd_M_replay_55 rfl ?_
          refine en_iald g qd_M_replay_56 (by decide) rfl (by omega) (by omega) (show sg2 44 i = nI (xCel (aXp a n) m i) by rw [hf 44 (by decide)]; exact f1 i hz) ?_
          refine en_iast g qd_M_replay_57 (by decide) rfl (by omega) (by omega) ?_
          refine ew_iinc g qd_M_replay_58 (by decide) rfl (ii_1 _) ?_
          refine ew_goto g qd_M_replay_61 (tgt := 41) (by decide) ?_
          refine ih (i + 1) _ (by omega) (fun o ho => by rw [sup_n ho]; exact hf o ho) (fun j hj => ?_)
          rw [sup_s]
          by_cases e : j = i
          · rw [e, pk_us]
          · rw [pk_un e]; exact hr j (by omega)
    refine ew_iconst g qd_M_replay_39 ic_0 ?_
    refine ew_istore_n g qd_M_replay_40 (by decide) ?_
    exact loop 5 0 sg1 rfl (fun _ _ => rfl) (fun j hj => absurd hj (Nat.not_lt_zero j))
  have h10 : ∀ n : Nat, n = 1 ∨ n = 2 → x = nI n → ew_E qS w 4 k 10 [some (.inr 41), some (.inl (nI n)), some (.inl y), none] [] sg := by
    intro n hn hx
    have hb : xN (aXp a n) < 2 ^ 31 := Nat.lt_of_le_of_lt (xN_le _) (by decide)
    have hR : aReplay a x y = match inR y (xN (aXp a n)) with | some m => aRep a n m | none => (-1, a) := by
      unfold aReplay
      rcases hn with rfl | rfl
      · rw [if_pos hx]; rfl
      · rw [if_neg (by rw [hx]; decide +kernel), if_pos hx]; rfl
    refine ew_iload_n g qd_M_replay_10 rfl ?_
    refine ew_if_lt g qd_M_replay_11 (tgt := 31) (by decide) (fun y0 => ?_) (fun y0 => ?_)
    · rw [← hx]
      exact hno (by rw [hR, rg_neg hb y0])
    · have h28 : ew_E qS w 4 k 28 [some (.inr 41), some (.inl (nI n)), some (.inl y), none] [.inl (nI (xN (aXp a n))), .inl y] sg := by
        refine ew_icmp_lt g qd_M_replay_28 (tgt := 33) (by decide) (fun y1 => ?_) (fun y1 => ?_)
        · have y1' : ¬ nI (xN (aXp a n)) ≤ y := fun z => by
            rw [Int32.lt_iff_toInt_lt] at y1
            rw [Int32.le_iff_toInt_le] at z
            omega
          obtain ⟨m, m1, m2, m3⟩ := rg_in hb y0 y1'
          rw [m2]
          exact h33 n m hn hx m2 m1 (by rw [hR, m3])
        · rw [← hx]
          refine hno (by
            rw [hR, rg_ge hb (by
              rw [Int32.lt_iff_toInt_lt] at y1
              rw [Int32.le_iff_toInt_le]
              omega)])
      rcases hn with rfl | rfl
      · refine ew_iload_n g qd_M_replay_14 rfl ?_
        refine ew_iload_n g qd_M_replay_15 rfl ?_
        refine ew_iconst g qd_M_replay_16 ic_1 ?_
        refine en_ne g qd_M_replay_17 (tgt := 25) (by decide) (by omega) (by omega) (fun hz => ?_) (fun hz => ?_)
        · exact absurd rfl hz
        · refine ew_bipush g qd_M_replay_20 bp_64 ?_
          refine ew_goto g qd_M_replay_22 (tgt := 28) (by decide) ?_
          exact h28
      · refine ew_iload_n g qd_M_replay_14 rfl ?_
        refine ew_iload_n g qd_M_replay_15 rfl ?_
        refine ew_iconst g qd_M_replay_16 ic_1 ?_
        refine en_ne g qd_M_replay_17 (tgt := 25) (by decide) (by omega) (by omega) (fun hz => ?_) (fun hz => ?_)
        · refine ew_sipush g qd_M_replay_25 sp_4096 ?_
          exact h28
        · exact absurd hz (by decide)
  refine ew_iload_n g qd_M_replay_0 rfl ?_
  refine ew_iconst g qd_M_replay_1 ic_1 ?_
  refine ew_icmp_eq g qd_M_replay_2 (tgt := 10) (by decide) (fun hx1 => ?_) (fun hx1 => ?_)
  · rw [hx1]
    exact h10 1 (Or.inl rfl) hx1
  · refine ew_iload_n g qd_M_replay_5 rfl ?_
    refine ew_iconst g qd_M_replay_6 ic_2 ?_
    refine ew_icmp_ne g qd_M_replay_7 (tgt := 31) (by decide) (fun hx2 => ?_) (fun hx2 => ?_)
    · exact hno (by unfold aReplay; rw [if_neg hx1, if_neg hx2])
    · rw [hx2]
      exact h10 2 (Or.inr rfl) hx2
