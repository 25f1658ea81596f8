theorem k_M_worked (w : WC) (l : Launch) (sg : SG) {o x y : Nat} (inp cal : Nat) (s : PM) (a : Nat) (ho1 : 6 ≤ o) (ho2 : o ≤ 12) (hx : x < 16) (hy : y < 16) : ew_M qS w l qy_M_worked qw_M_worked qr_M_worked [.inl (nI o), .inl (nI y), .inl (nI x)] sg (fun v sg' => v = some (.inl (nI (pPut inp cal s o a y x))) ∧ sg' = sg) := by
  refine ew_entry (ws' := qwg) (own := qR_M) (cc := qc_M_worked) (nL := 3) (ret := some .int) qnk (by decide) rfl rfl (Nat.le_of_ble_eq_true rfl) ?_
  intro k g hp
  refine ew_iload_n g qd_M_worked_0 rfl ?_
  rcases (by omega : o = 6 ∨ o = 7 ∨ o = 8 ∨ o = 9 ∨ o = 10 ∨ o = 11 ∨ o = 12) with rfl | rfl | rfl | rfl | rfl | rfl | rfl
  · refine ew_tswI g qd_M_worked_1 (off := 39) (tgt := 40) (by decide +kernel) (by decide +kernel) (by decide +kernel) (by decide) ?_
    refine ew_iload_n g qd_M_worked_40 rfl ?_
    refine ew_iload_n g qd_M_worked_41 rfl ?_
    refine ew_iadd g qd_M_worked_42 ?_
    refine ew_bipush g qd_M_worked_43 bp_15 ?_
    refine ew_iand g qd_M_worked_45 ?_
    refine en_top (w_add y hy x hx) ?_
    refine ew_iret g qd_M_worked_46 hp ?_
    exact ⟨rfl, rfl⟩
  · refine ew_tswI g qd_M_worked_1 (off := 46) (tgt := 47) (by decide +kernel) (by decide +kernel) (by decide +kernel) (by decide) ?_
    refine ew_iload_n g qd_M_worked_47 rfl ?_
    refine ew_iload_n g qd_M_worked_48 rfl ?_
    refine ew_isub g qd_M_worked_49 ?_
    refine ew_bipush g qd_M_worked_50 bp_15 ?_
    refine ew_iand g qd_M_worked_52 ?_
    refine en_top (w_sub y hy x hx) ?_
    refine ew_iret g qd_M_worked_53 hp ?_
    exact ⟨rfl, rfl⟩
  · refine ew_tswI g qd_M_worked_1 (off := 53) (tgt := 54) (by decide +kernel) (by decide +kernel) (by decide +kernel) (by decide) ?_
    refine ew_iload_n g qd_M_worked_54 rfl ?_
    refine ew_iload_n g qd_M_worked_55 rfl ?_
    refine ew_imul g qd_M_worked_56 ?_
    refine ew_bipush g qd_M_worked_57 bp_15 ?_
    refine ew_iand g qd_M_worked_59 ?_
    refine en_top (w_mul y hy x hx) ?_
    refine ew_iret g qd_M_worked_60 hp ?_
    exact ⟨rfl, rfl⟩
  · refine ew_tswI g qd_M_worked_1 (off := 60) (tgt := 61) (by decide +kernel) (by decide +kernel) (by decide +kernel) (by decide) ?_
    refine ew_iload_n g qd_M_worked_61 rfl ?_
    refine ew_iload_n g qd_M_worked_62 rfl ?_
    refine ew_iand g qd_M_worked_63 ?_
    refine en_top (nx_and y x) ?_
    refine ew_iret g qd_M_worked_64 hp ?_
    exact ⟨rfl, rfl⟩
  · refine ew_tswI g qd_M_worked_1 (off := 64) (tgt := 65) (by decide +kernel) (by decide +kernel) (by decide +kernel) (by decide) ?_
    refine ew_iload_n g qd_M_worked_65 rfl ?_
    refine ew_iload_n g qd_M_worked_66 rfl ?_
    refine ew_ixor g qd_M_worked_67 ?_
    refine en_top (nx_xor y x) ?_
    refine ew_iret g qd_M_worked_68 hp ?_
    exact ⟨rfl, rfl⟩
  · refine ew_tswI g qd_M_worked_1 (off := 68) (tgt := 69) (by decide +kernel) (by decide +kernel) (by decide +kernel) (by decide) ?_
    refine ew_iload_n g qd_M_worked_69 rfl ?_
    refine ew_iload_n g qd_M_worked_70 rfl ?_
    refine en_ge g qd_M_worked_71 (tgt := 78) (by decide) (by omega) (by omega) (fun hh => ?_) (fun hh => ?_)
    · refine ew_iconst g qd_M_worked_78 ic_0 ?_
      refine ew_iret g qd_M_worked_79 hp ?_
      have e : ¬ y < x := by omega
      refine ⟨?_, rfl⟩
      show _ = some (Sum.inl (nI (if y < x then 1 else 0)))
      rw [if_neg e]
    · refine ew_iconst g qd_M_worked_74 ic_1 ?_
      refine ew_goto g qd_M_worked_75 (tgt := 79) (by decide) ?_
      refine ew_iret g qd_M_worked_79 hp ?_
      have e : y < x := by omega
      refine ⟨?_, rfl⟩
      show _ = some (Sum.inl (nI (if y < x then 1 else 0)))
      rw [if_pos e]
  · refine ew_tswO g qd_M_worked_1 (tgt := 80) (by decide +kernel) (by decide) ?_
    refine ew_iload_n g qd_M_worked_80 rfl ?_
    refine ew_iload_n g qd_M_worked_81 rfl ?_
    refine en_ne g qd_M_worked_82 (tgt := 89) (by decide) (by omega) (by omega) (fun hh => ?_) (fun hh => ?_)
    · refine ew_iconst g qd_M_worked_89 ic_0 ?_
      refine ew_iret g qd_M_worked_90 hp ?_
      have e : ¬ y = x := by omega
      refine ⟨?_, rfl⟩
      show _ = some (Sum.inl (nI (if y = x then 1 else 0)))
      rw [if_neg e]
    · refine ew_iconst g qd_M_worked_85 ic_1 ?_
      refine ew_goto g qd_M_worked_86 (tgt := 90) (by decide) ?_
      refine ew_iret g qd_M_worked_90 hp ?_
      have e : y = x := by omega
      refine ⟨?_, rfl⟩
      show _ = some (Sum.inl (nI (if y = x then 1 else 0)))
      rw [if_pos e]
theorem k_M_overflows (w : WC) (l : Launch) (sg : SG) {o x y : Nat} (ho : o < 25) (hx : x < 16) (hy : y < 16) : ew_M qS w l qy_M_overflows qw_M_overflows qr_M_overflows [.inl (nI o), .inl (nI y), .inl (nI x)] sg (fun v sg' => v = some (.inl (bI (pOver o y x))) ∧ sg' = sg) := by
  have hyx : y * x < 2 ^ 31 := Nat.lt_of_le_of_lt (Nat.mul_le_mul (Nat.le_of_lt hy) (Nat.le_of_lt hx)) (by decide)
  refine ew_entry (ws' := qwg) (own := qR_M) (cc := qc_M_overflows) (nL := 3) (ret := some .boolean) qnk (by decide) rfl rfl (Nat.le_of_ble_eq_true rfl) ?_
  intro k g hp
  have hT : pOver o y x = true → ew_E qS w 3 k 39 [some (.inl (nI o)), some (.inl (nI y)), some (.inl (nI x))] [] sg := by
    intro q
    refine ew_iconst g qd_M_overflows_39 ic_1 ?_
    refine ew_goto g qd_M_overflows_40 (tgt := 44) (by decide) ?_
    refine ew_zret g qd_M_overflows_44 hp (by first | exact bI_nar _ | decide +kernel) ?_
    rw [q]
    exact ⟨rfl, rfl⟩
  have hF : ¬ ((o = 6 ∧ 16 ≤ y + x) ∨ (o = 8 ∧ 16 ≤ y * x) ∨ (o = 7 ∧ y < x)) → ew_E qS w 3 k 43 [some (.inl (nI o)), some (.inl (nI y)), some (.inl (nI x))] [] sg := by
    intro q
    have e : pOver o y x = false := decide_eq_false q
    refine ew_iconst g qd_M_overflows_43 ic_0 ?_
    refine ew_zret g qd_M_overflows_44 hp (by first | exact bI_nar _ | decide +kernel) ?_
    rw [e]
    exact ⟨rfl, rfl⟩
  have h28 : ¬ (o = 6 ∧ 16 ≤ y + x) → ¬ (o = 8 ∧ 16 ≤ y * x) → ew_E qS w 3 k 28 [some (.inl (nI o)), some (.inl (nI y)), some (.inl (nI x))] [] sg := by
    intro q1 q2
    refine ew_iload_n g qd_M_overflows_28 rfl ?_
    refine ew_bipush g qd_M_overflows_29 bp_7 ?_
    refine en_ne g qd_M_overflows_31 (tgt := 43) (by decide) (by omega) (by omega) (fun h => ?_) (fun h => ?_)
    · exact hF (fun z => by rcases z with z | z | z; exact q1 z; exact q2 z; exact h z.1)
    · refine ew_iload_n g qd_M_overflows_34 rfl ?_
      refine ew_iload_n g qd_M_overflows_35 rfl ?_
      refine en_le g qd_M_overflows_36 (tgt := 43) (by decide) (by omega) (by omega) (fun h' => ?_) (fun h' => ?_)
      · exact hF (fun z => by rcases z with z | z | z; exact q1 z; exact q2 z; omega)
      · exact hT (decide_eq_true (Or.inr (Or.inr ⟨h, h'⟩)))
  have h14 : ¬ (o = 6 ∧ 16 ≤ y + x) → ew_E qS w 3 k 14 [some (.inl (nI o)), some (.inl (nI y)), some (.inl (nI x))] [] sg := by
    intro q1
    refine ew_iload_n g qd_M_overflows_14 rfl ?_
    refine ew_bipush g qd_M_overflows_15 bp_8 ?_
    refine en_ne g qd_M_overflows_17 (tgt := 28) (by decide) (by omega) (by omega) (fun h => ?_) (fun h => ?_)
    · exact h28 q1 (fun z => h z.1)
    · refine ew_iload_n g qd_M_overflows_20 rfl ?_
      refine ew_iload_n g qd_M_overflows_21 rfl ?_
      refine ew_imul g qd_M_overflows_22 ?_
      refine en_top (pk_mul _ _) ?_
      refine ew_bipush g qd_M_overflows_23 bp_15 ?_
      refine en_gt g qd_M_overflows_25 (tgt := 39) (by decide) (by omega) (by omega) (fun h' => ?_) (fun h' => ?_)
      · exact hT (decide_eq_true (Or.inr (Or.inl ⟨h, by omega⟩)))
      · exact h28 q1 (fun z => by have := z.2; omega)
  refine ew_iload_n g qd_M_overflows_0 rfl ?_
  refine ew_bipush g qd_M_overflows_1 bp_6 ?_
  refine en_ne g qd_M_overflows_3 (tgt := 14) (by decide) (by omega) (by omega) (fun h => ?_) (fun h => ?_)
  · exact h14 (fun z => h z.1)
  · refine ew_iload_n g qd_M_overflows_6 rfl ?_
    refine ew_iload_n g qd_M_overflows_7 rfl ?_
    refine ew_iadd g qd_M_overflows_8 ?_
    refine en_top (nI_add _ _) ?_
    refine ew_bipush g qd_M_overflows_9 bp_15 ?_
    refine en_gt g qd_M_overflows_11 (tgt := 39) (by decide) (by omega) (by omega) (fun h' => ?_) (fun h' => ?_)
    · exact hT (decide_eq_true (Or.inl ⟨h, by omega⟩))
    · exact h14 (fun z => by have := z.2; omega)
theorem k_M_give (w : WC) (l : Launch) (sg : SG) {d : Nat} (x : Int32) (hd : sg 41 8 = nI d) (h6 : d < 7) : ew_M qS w l qy_M_give qw_M_give qr_M_give [.inr 41, .inl x] sg (fun v sg' => v = none ∧ sg' = sup (sup sg 46 d x) 41 8 (nI (d + 1))) := by
  refine ew_entry (ws' := qwg) (own := qR_M) (cc := qc_M_give) (nL := 2) (ret := none) qnk (by decide) rfl rfl (Nat.le_of_ble_eq_true rfl) ?_
  intro k g hp
  refine ew_aload_n g qd_M_give_0 rfl ?_
  refine ew_getR g qd_M_give_1 qf_M_26 (by decide) rfl rfl ?_
  refine ew_aload_n g qd_M_give_4 rfl ?_
  refine ew_get g qd_M_give_5 qf_M_88 (by decide) rfl rfl ?_
  refine en_top hd ?_
  refine ew_iload_n g qd_M_give_8 rfl ?_
  refine en_iast g qd_M_give_9 (by decide) rfl (by omega) (by omega) ?_
  refine ew_aload_n g qd_M_give_10 rfl ?_
  refine ew_dup g qd_M_give_11 ?_
  refine ew_get g qd_M_give_12 qf_M_88 (by decide) rfl rfl ?_
  refine en_top (show sup sg 46 d x 41 8 = nI d by rw [sup_n (by decide)]; exact hd) ?_
  refine ew_iconst g qd_M_give_15 ic_1 ?_
  refine ew_iadd g qd_M_give_16 ?_
  refine en_top (nI_add _ _) ?_
  refine ew_put g qd_M_give_17 qf_M_88 (qp_M_depth _) (by decide) rfl rfl ?_
  refine ew_vret g qd_M_give_20 hp ?_
  exact ⟨rfl, rfl⟩
theorem k_M_swap (w : WC) (l : Launch) (sg : SG) {d a : Nat} (hd : sg 41 8 = nI d) (h6 : d < 7) (ha : a + 1 < d) : ew_M qS w l qy_M_swap qw_M_swap qr_M_swap [.inr 41, .inl (nI a)] sg (fun v sg' => v = none ∧ sg' = sup (sup sg 46 (d - 1) (sg 46 (d - 2 - a))) 46 (d - 2 - a) (sg 46 (d - 1))) := by
  refine ew_entry (ws' := qwg) (own := qR_M) (cc := qc_M_swap) (nL := 3) (ret := none) qnk (by decide) rfl rfl (Nat.le_of_ble_eq_true rfl) ?_
  intro k g hp
  refine ew_aload_n g qd_M_swap_0 rfl ?_
  refine ew_getR g qd_M_swap_1 qf_M_26 (by decide) rfl rfl ?_
  refine ew_aload_n g qd_M_swap_4 rfl ?_
  refine ew_get g qd_M_swap_5 qf_M_88 (by decide) rfl rfl ?_
  refine en_top hd ?_
  refine ew_iconst g qd_M_swap_8 ic_1 ?_
  refine ew_isub g qd_M_swap_9 ?_
  refine en_top (pk_sub (by omega)) ?_
  refine en_iald g qd_M_swap_10 (by decide) rfl (by omega) (by omega) rfl ?_
  refine ew_istore_n g qd_M_swap_11 (by decide) ?_
  refine ew_aload_n g qd_M_swap_12 rfl ?_
  refine ew_getR g qd_M_swap_13 qf_M_26 (by decide) rfl rfl ?_
  refine ew_aload_n g qd_M_swap_16 rfl ?_
  refine ew_get g qd_M_swap_17 qf_M_88 (by decide) rfl rfl ?_
  refine en_top hd ?_
  refine ew_iconst g qd_M_swap_20 ic_1 ?_
  refine ew_isub g qd_M_swap_21 ?_
  refine en_top (pk_sub (by omega)) ?_
  refine ew_aload_n g qd_M_swap_22 rfl ?_
  refine ew_getR g qd_M_swap_23 qf_M_26 (by decide) rfl rfl ?_
  refine ew_aload_n g qd_M_swap_26 rfl ?_
  refine ew_get g qd_M_swap_27 qf_M_88 (by decide) rfl rfl ?_
  refine en_top hd ?_
  refine ew_iconst g qd_M_swap_30 ic_2 ?_
  refine ew_isub g qd_M_swap_31 ?_
  refine en_top (pk_sub (by omega)) ?_
  refine ew_iload_n g qd_M_swap_32 rfl ?_
  refine ew_isub g qd_M_swap_33 ?_
  refine en_top (pk_sub (by omega)) ?_
  refine en_iald g qd_M_swap_34 (by decide) rfl (by omega) (by omega) rfl ?_
  refine en_iast g qd_M_swap_35 (by decide) rfl (by omega) (by omega) ?_
  refine ew_aload_n g qd_M_swap_36 rfl ?_
  refine ew_getR g qd_M_swap_37 qf_M_26 (by decide) rfl rfl ?_
  refine ew_aload_n g qd_M_swap_40 rfl ?_
  refine ew_get g qd_M_swap_41 qf_M_88 (by decide) rfl rfl ?_
  refine en_top (show sup sg 46 _ _ 41 8 = nI d by rw [sup_n (by decide)]; exact hd) ?_
  refine ew_iconst g qd_M_swap_44 ic_2 ?_
  refine ew_isub g qd_M_swap_45 ?_
  refine en_top (pk_sub (by omega)) ?_
  refine ew_iload_n g qd_M_swap_46 rfl ?_
  refine ew_isub g qd_M_swap_47 ?_
  refine en_top (pk_sub (by omega)) ?_
  refine ew_iload_n g qd_M_swap_48 rfl ?_
  refine en_iast g qd_M_swap_49 (by decide) rfl (by omega) (by omega) ?_
  refine ew_vret g qd_M_swap_50 hp ?_
  exact ⟨rfl, rfl⟩
theorem k_M_send (w : WC) (l : Launch) (sg : SG) {c d x : Nat} {se : Bool} (hc : sg 44 4 = nI c) (hc16 : c < 16) (hs : sg 41 14 = bI se) (hd : sg 41 8 = nI d) (h6 : d < 7) (hx : x < 16) : ew_M qS w l qy_M_send qw_M_send qr_M_send [.inr 41, .inl (nI x)] sg (fun v sg' => v = none ∧ ((x ≤ c ∧ sg' = sup (sup (sup (sup sg 44 4 (nI (c - x))) 41 14 (bI true)) 46 d (nI 1)) 41 8 (nI (d + 1))) ∨ (c < x ∧ sg' = sup (sup (sup (sup sg 44 4 (nI c)) 41 14 (bI se)) 46 d (nI 0)) 41 8 (nI (d + 1))))) := by
  refine ew_entry (ws' := qwg) (own := qR_M) (cc := qc_M_send) (nL := 3) (ret := none) qnk (by decide) rfl rfl (Nat.le_of_ble_eq_true rfl) ?_
  intro k g hp
  refine ew_iload_n g qd_M_send_0 rfl ?_
  refine ew_aload_n g qd_M_send_1 rfl ?_
  refine ew_getR g qd_M_send_2 qf_M_20 (by decide) rfl rfl ?_
  refine ew_iconst g qd_M_send_5 ic_4 ?_
  refine en_iald g qd_M_send_6 (by decide) rfl (by omega) (by omega) hc ?_
  refine en_gt g qd_M_send_7 (tgt := 14) (by decide) (by omega) (by omega) (fun h => ?_) (fun h => ?_)
  · refine ew_iconst g qd_M_send_14 ic_0 ?_
    refine ew_istore_n g qd_M_send_15 (by decide) ?_
    refine ew_aload_n g qd_M_send_16 rfl ?_
    refine ew_getR g qd_M_send_17 qf_M_20 (by decide) rfl rfl ?_
    refine ew_iconst g qd_M_send_20 ic_4 ?_
    refine ew_iload_n g qd_M_send_21 rfl ?_
    refine en_if_eq g qd_M_send_22 (tgt := 36) (by decide) (by omega) (fun hz => ?_) (fun hz => ?_)
    · refine ew_aload_n g qd_M_send_36 rfl ?_
      refine ew_getR g qd_M_send_37 qf_M_20 (by decide) rfl rfl ?_
      refine ew_iconst g qd_M_send_40 ic_4 ?_
      refine en_iald g qd_M_send_41 (by decide) rfl (by omega) (by omega) hc ?_
      refine en_iast g qd_M_send_42 (by decide) rfl (by omega) (by omega) ?_
      refine ew_aload_n g qd_M_send_43 rfl ?_
      refine ew_aload_n g qd_M_send_44 rfl ?_
      refine ew_get g qd_M_send_45 qf_M_108 (by decide) rfl rfl ?_
      have hs' : sup sg 44 4 (nI c) 41 14 = bI se := by rw [sup_n (by decide)]; exact hs
      have h63 : ∀ sg1 : SG, sg1 = sup (sup sg 44 4 (nI c)) 41 14 (bI se) → ew_E qS w 3 k 63 [some (.inr 41), some (.inl (nI x)), some (.inl (nI 0))] [] sg1 := by
        intro sg1 e
        subst e
        refine ew_aload_n g qd_M_send_63 rfl ?_
        refine ew_iload_n g qd_M_send_64 rfl ?_
        refine en_if_eq g qd_M_send_65 (tgt := 72) (by decide) (by omega) (fun hz2 => ?_) (fun hz2 => ?_)
        · refine ew_iconst g qd_M_send_72 ic_0 ?_
          refine ew_callV g qd_M_send_73 (k_M_give w k.2.1 _ _ (show sup (sup sg 44 4 (nI c)) 41 14 (bI se) 41 8 = nI d by rw [sup_s, pk_un (by decide), sup_n (by decide)]; exact hd) h6) qv_M_112 (by decide) rfl ⟨_, _, rfl⟩ rfl rfl (Nat.le_of_ble_eq_true rfl) ⟨rfl, rfl, by decide, by decide⟩ (fun v sg1 hv => ?_)
          obtain ⟨rfl, rfl⟩ := hv
          refine ew_vret g qd_M_send_76 hp ?_
          exact ⟨rfl, Or.inr ⟨h, rfl⟩⟩
        · exact absurd rfl hz2
      cases se with
      | true =>
        refine en_top (hs'.trans bI_t) ?_
        refine en_if_ne g qd_M_send_48 (tgt := 55) (by decide) (by omega) (fun hz2 => ?_) (fun hz2 => ?_)
        · refine ew_iconst g qd_M_send_55 ic_1 ?_
          refine en_top bI_t.symm ?_
          refine ew_goto g qd_M_send_56 (tgt := 60) (by decide) ?_
          refine ew_put g qd_M_send_60 qf_M_108 (qp_M_sent _) (by decide) rfl rfl ?_
          exact h63 _ rfl
        · exact absurd hz2 (by decide)
      | false =>
        refine en_top (hs'.trans bI_f) ?_
        refine en_if_ne g qd_M_send_48 (tgt := 55) (by decide) (by omega) (fun hz2 => ?_) (fun hz2 => ?_)
        · exact absurd rfl hz2
        · refine ew_iload_n g qd_M_send_51 rfl ?_
          refine en_if_eq g qd_M_send_52 (tgt := 59) (by decide) (by omega) (fun hz3 => ?_) (fun hz3 => ?_)
          · refine ew_iconst g qd_M_send_59 ic_0 ?_
            refine en_top bI_f.symm ?_
            refine ew_put g qd_M_send_60 qf_M_108 (qp_M_sent _) (by decide) rfl rfl ?_
            exact h63 _ rfl
          · exact absurd rfl hz3
    · exact absurd rfl hz
  · refine ew_iconst g qd_M_send_10 ic_1 ?_
    refine ew_goto g qd_M_send_11 (tgt := 15) (by decide) ?_
    refine ew_istore_n g qd_M_send_15 (by decide) ?_
    refine ew_aload_n g qd_M_send_16 rfl ?_
    refine ew_getR g qd_M_send_17 qf_M_20 (by decide) rfl rfl ?_
    refine ew_iconst g qd_M_send_20 ic_4 ?_
    refine ew_iload_n g qd_M_send_21 rfl ?_
    refine en_if_eq g qd_M_send_22 (tgt := 36) (by decide) (by omega) (fun hz => ?_) (fun hz => ?_)
    · exact absurd hz (by decide)
    · refine ew_aload_n g qd_M_send_25 rfl ?_
      refine ew_getR g qd_M_send_26 qf_M_20 (by decide) rfl rfl ?_
      refine ew_iconst g qd_M_send_29 ic_4 ?_
      refine en_iald g qd_M_send_30 (by decide) rfl (by omega) (by omega) hc ?_
      refine ew_iload_n g qd_M_send_31 rfl ?_
      refine ew_isub g qd_M_send_32 ?_
      refine en_top (pk_sub h) ?_
      refine ew_goto g qd_M_send_33 (tgt := 42) (by decide) ?_
      refine en_iast g qd_M_send_42 (by decide) rfl (by omega) (by omega) ?_
      refine ew_aload_n g qd_M_send_43 rfl ?_
      refine ew_aload_n g qd_M_send_44 rfl ?_
      refine ew_get g qd_M_send_45 qf_M_108 (by decide) rfl rfl ?_
      have hs' : sup sg 44 4 (nI (c - x)) 41 14 = bI se := by rw [sup_n (by decide)]; exact hs
      have h55 : ew_E qS w 3 k 55 [some (.inr 41), some (.inl (nI x)), some (.inl (nI 1))] [.inr 41] (sup sg 44 4 (nI (c - x))) := by
        refine ew_iconst g qd_M_send_55 ic_1 ?_
        refine en_top bI_t.symm ?_
        refine ew_goto g qd_M_send_56 (tgt := 60) (by decide) ?_
        refine ew_put g qd_M_send_60 qf_M_108 (qp_M_sent _) (by decide) rfl rfl ?_
        refine ew_aload_n g qd_M_send_63 rfl ?_
        refine ew_iload_n g qd_M_send_64 rfl ?_
        refine en_if_eq g qd_M_send_65 (tgt := 72) (by decide) (by omega) (fun hz2 => ?_) (fun hz2 => ?_)
        · exact absurd hz2 (by decide)
        · refine ew_iconst g qd_M_send_68 ic_1 ?_
          refine ew_goto g qd_M_send_69 (tgt := 73) (by decide) ?_
          refine ew_callV g qd_M_send_73 (k_M_give w k.2.1 _ _ (show sup (sup sg 44 4 (nI (c - x))) 41 14 (bI true) 41 8 = nI d by rw [sup_s, pk_un (by decide), sup_n (by decide)]; exact hd) h6) qv_M_112 (by decide) rfl ⟨_, _, rfl⟩ rfl rfl (Nat.le_of_ble_eq_true rfl) ⟨rfl, rfl, by decide, by decide⟩ (fun v sg1 hv => ?_)
          obtain ⟨rfl, rfl⟩ := hv
          refine ew_vret g qd_M_send_76 hp ?_
          exact ⟨rfl, Or.inl ⟨h, rfl⟩⟩
      cases se with
      | true =>
        refine en_top (hs'.trans bI_t) ?_
        refine en_if_ne g qd_M_send_48 (tgt := 55) (by decide) (by omega) (fun hz2 => ?_) (fun hz2 => ?_)
        · exact h55
        · exact absurd hz2 (by decide)
      | false =>
        refine en_top (hs'.trans bI_f) ?_
        refine en_if_ne g qd_M_send_48 (tgt := 55) (by decide) (by omega) (fun hz2 => ?_) (fun hz2 => ?_)
        · exact absurd rfl hz2
        · refine ew_iload_n g qd_M_send_51 rfl ?_
          refine en_if_eq g qd_M_send_52 (tgt := 59) (by decide) (by omega) (fun hz3 => ?_) (fun hz3 => ?_)
          · exact absurd hz3 (by decide)
          · exact h55
theorem mkI_ge {cd : CDE} (hc : cd.1 ≤ 32) (a : Nat) : (0 ≤ mkI cd a ↔ (mkAt cd a).isSome = true) := by
  unfold mkI
  cases h : mkAt cd a with
  | none => simp
  | some k =>
    have := (mkAt_lt h).1
    have h1 := nI_pos' (n := k) (by omega)
    simp [h1]
theorem k_M_faults (w : WC) (l : Launch) (sg : SG) {cd : CDE} {s : PM} {inp cal o : Nat} {f0 : Nat → Nat → Bool} (hc : mCode sg cd) (hm : mM sg s inp cal f0) (hat : pAt s < cd.1) (ho : o < 25) : ew_M qS w l qy_M_faults qw_M_faults qr_M_faults [.inr 41, .inl (nI o)] sg (fun v sg' => v = some (.inl (bI (decide (pFault cd s o (cd.2.2 (pAt s)) = some 4)))) ∧ sg' = sg) := by
  obtain ⟨hok, h2, h3, h4, h5, h6, h7, h8, h9, h10⟩ := id hm
  have hd6 := hok.1
  have hg := hok.2.2.2.1
  have hcd := hc.1.1
  have ha16 := (hc.1.2 _ hat).2
  have harg := (hc.2.2 _ hat).2
  obtain ⟨hT, hC, hC1, hPu⟩ := o_small o ho
  generalize ha : cd.2.2 (pAt s) = a at ha16 harg
  refine ew_entry (ws' := qwg) (own := qR_M) (cc := qc_M_faults) (nL := 2) (ret := some .boolean) qnk (by decide) rfl rfl (Nat.le_of_ble_eq_true rfl) ?_
  intro k g hp
  have h41 : (pGa s < oCost o ∨ pDe s < oTake o ∨ 6 < pDe s - oTake o + oPuts o) → ew_E qS w 2 k 41 [some (.inr 41), some (.inl (nI o))] [] sg := by
    intro q
    have hF : pFault cd s o a = some 4 := by unfold pFault; rw [if_pos q]
    refine ew_iconst g qd_M_faults_41 ic_1 ?_
    refine ew_zret g qd_M_faults_42 hp (by first | exact bI_nar _ | decide +kernel) ?_
    rw [hF]
    exact ⟨rfl, rfl⟩
  refine ew_aload_n g qd_M_faults_0 rfl ?_
  refine ew_get g qd_M_faults_1 qf_M_81 (by decide) rfl rfl ?_
  refine en_top h5 ?_
  refine ew_iload_n g qd_M_faults_4 rfl ?_
  refine ew_callS g qd_M_faults_5 (k_M_cost w k.2.1 sg ho) qs_M_84 rfl rfl (Nat.le_of_ble_eq_true rfl) ⟨rfl, rfl, by decide, by decide⟩ (fun v sg1 hv => ?_)
  obtain ⟨rfl, rfl⟩ := hv
  refine en_lt g qd_M_faults_8 (tgt := 41) (by decide) (by omega) (by omega) (fun h => ?_) (fun h => ?_)
  · exact h41 (Or.inl h)
  · refine ew_aload_n g qd_M_faults_11 rfl ?_
    refine ew_get g qd_M_faults_12 qf_M_88 (by decide) rfl rfl ?_
    refine en_top h2 ?_
    refine ew_iload_n g qd_M_faults_15 rfl ?_
    refine ew_callS g qd_M_faults_16 (k_M_takes w k.2.1 sg1 ho) qs_M_91 rfl rfl (Nat.le_of_ble_eq_true rfl) ⟨rfl, rfl, by decide, by decide⟩ (fun v sg2 hv => ?_)
    obtain ⟨rfl, rfl⟩ := hv
    refine en_lt g qd_M_faults_19 (tgt := 41) (by decide) (by omega) (by omega) (fun h' => ?_) (fun h' => ?_)
    · exact h41 (Or.inr (Or.inl h'))
    · refine ew_aload_n g qd_M_faults_22 rfl ?_
      refine ew_get g qd_M_faults_23 qf_M_88 (by decide) rfl rfl ?_
      refine en_top h2 ?_
      refine ew_iload_n g qd_M_faults_26 rfl ?_
      refine ew_callS g qd_M_faults_27 (k_M_takes w k.2.1 sg2 ho) qs_M_91 rfl rfl (Nat.le_of_ble_eq_true rfl) ⟨rfl, rfl, by decide, by decide⟩ (fun v sg3 hv => ?_)
      obtain ⟨rfl, rfl⟩ := hv
      refine ew_isub g qd_M_faults_30 ?_
      refine en_top (pk_sub h') ?_
      refine ew_iload_n g qd_M_faults_31 rfl ?_
      refine ew_callS g qd_M_faults_32 (k_M_puts w k.2.1 sg3 ho) qs_M_94 rfl rfl (Nat.le_of_ble_eq_true rfl) ⟨rfl, rfl, by decide, by decide⟩ (fun v sg4 hv => ?_)
      obtain ⟨rfl, rfl⟩ := hv
      refine ew_iadd g qd_M_faults_35 ?_
      refine en_top (nI_add _ _) ?_
      refine ew_bipush g qd_M_faults_36 bp_6 ?_
      refine en_le g qd_M_faults_38 (tgt := 43) (by decide) (by omega) (by omega) (fun h'' => ?_) (fun h'' => ?_)
      · have h0 : ¬ (pGa s < oCost o ∨ pDe s < oTake o ∨ 6 < pDe s - oTake o + oPuts o) := by omega
        have hF := (show pFault cd s o a = _ by unfold pFault; rw [if_neg h0])
        have hno : pFault cd s o a ≠ some 4 → ew_E qS w 2 k 171 [some (.inr 41), some (.inl (nI o))] [] sg4 := by
          intro q
          refine ew_iconst g qd_M_faults_171 ic_0 ?_
          refine ew_zret g qd_M_faults_172 hp (by first | exact bI_nar _ | decide +kernel) ?_
          rw [decide_eq_false q]
          exact ⟨rfl, rfl⟩
        refine ew_iload_n g qd_M_faults_43 rfl ?_
        refine ew_iconst g qd_M_faults_44 ic_3 ?_
        refine en_ne g qd_M_faults_45 (tgt := 70) (by decide) (by omega) (by omega) (fun o3 => ?_) (fun o3 => ?_)
        · refine ew_iload_n g qd_M_faults_70 rfl ?_
          refine ew_iconst g qd_M_faults_71 ic_4 ?_
          refine en_ne g qd_M_faults_72 (tgt := 99) (by decide) (by omega) (by omega) (fun o4 => ?_) (fun o4 => ?_)
          · refine ew_iload_n g qd_M_faults_99 rfl ?_
            refine ew_bipush g qd_M_faults_100 bp_17 ?_
            refine en_ne g qd_M_faults_102 (tgt := 129) (by decide) (by omega) (by omega) (fun o17 => ?_) (fun o17 => ?_)
            · refine ew_iload_n g qd_M_faults_129 rfl ?_
              refine ew_bipush g qd_M_faults_130 bp_18 ?_
              refine en_ne g qd_M_faults_132 (tgt := 171) (by decide) (by omega) (by omega) (fun o18 => ?_) (fun o18 => ?_)
              · refine hno ?_
                rw [hF, if_neg o3, if_neg o4, if_neg o17, if_neg o18]
                split
                · split <;> simp
                · simp
              · subst o18
                have t2 : oTake 18 = 2 := by decide
                have e1 : sg4 46 (pDe s - 2) = nI (pUn s 1) := by
                  have := mM_un hm (i := 1) (by omega)
                  rw [show pDe s - 1 - 1 = pDe s - 2 by omega] at this
                  exact this
                have e0 : sg4 46 (pDe s - 1) = nI (pUn s 0) := mM_un hm (i := 0) (by omega)
                have u0 := pUn_lt hok 0
                have u1 := pUn_lt hok 1
                have hF18 : pFault cd s 18 a = if pUn s 1 = 0 ∨ (mkAt cd (pUn s 0)).isSome = true then none else some 4 := by rw [hF, if_neg o3, if_neg o4, if_neg o17, if_pos rfl]
                refine ew_aload_n g qd_M_faults_135 rfl ?_
                refine ew_getR g qd_M_faults_136 qf_M_26 (by decide) rfl rfl ?_
                refine ew_aload_n g qd_M_faults_139 rfl ?_
                refine ew_get g qd_M_faults_140 qf_M_88 (by decide) rfl rfl ?_
                refine en_top h2 ?_
                refine ew_iconst g qd_M_faults_143 ic_2 ?_
                refine ew_isub g qd_M_faults_144 ?_
                refine en_top (pk_sub (by omega)) ?_
                refine en_iald g qd_M_faults_145 (by decide) rfl (by omega) (by omega) e1 ?_
                refine en_if_eq g qd_M_faults_146 (tgt := 171) (by decide) (by omega) (fun hz => ?_) (fun hz => ?_)
                · exact hno (by rw [hF18, if_pos (Or.inl hz)]; simp)
                · refine ew_aload_n g qd_M_faults_149 rfl ?_
                  refine ew_aload_n g qd_M_faults_150 rfl ?_
                  refine ew_getR g qd_M_faults_151 qf_M_26 (by decide) rfl rfl ?_
                  refine ew_aload_n g qd_M_faults_154 rfl ?_
                  refine ew_get g qd_M_faults_155 qf_M_88 (by decide) rfl rfl ?_
                  refine en_top h2 ?_
                  refine ew_iconst g qd_M_faults_158 ic_1 ?_
                  refine ew_isub g qd_M_faults_159 ?_
                  refine en_top (pk_sub (by omega)) ?_
                  refine en_iald g qd_M_faults_160 (by decide) rfl (by omega) (by omega) e0 ?_
                  refine ew_callV g qd_M_faults_161 (k_M_markOf w k.2.1 sg4 hc u0) qv_M_97 (by decide) rfl ⟨_, _, rfl⟩ rfl rfl (Nat.le_of_ble_eq_true rfl) ⟨rfl, rfl, by decide, by decide⟩ (fun v sg5 hv => ?_)
                  obtain ⟨rfl, rfl⟩ := hv
                  refine ew_if_ge g qd_M_faults_164 (tgt := 171) (by decide) (fun hge => ?_) (fun hge => ?_)
                  · exact hno (by rw [hF18, if_pos (Or.inr ((mkI_ge hcd _).mp hge))]; simp)
                  · refine ew_iconst g qd_M_faults_167 ic_1 ?_
                    refine ew_goto g qd_M_faults_168 (tgt := 172) (by decide) ?_
                    refine ew_zret g qd_M_faults_172 hp (by first | exact bI_nar _ | decide +kernel) ?_
                    rw [hF18, if_neg (fun z => by rcases z with z | z; exact hz z; exact hge ((mkI_ge hcd _).mpr z))]
                    exact ⟨rfl, rfl⟩
            · subst o17
              have t1 : oTake 17 = 1 := by decide
              have e0 : sg4 46 (pDe s - 1) = nI (pUn s 0) := mM_un hm (i := 0) (by omega)
              have u0 := pUn_lt hok 0
              have hF17 : pFault cd s 17 a = if (mkAt cd (pUn s 0)).isSome = true then none else some 4 := by rw [hF, if_neg o3, if_neg o4, if_pos rfl]
              refine ew_aload_n g qd_M_faults_105 rfl ?_
              refine ew_aload_n g qd_M_faults_106 rfl ?_
              refine ew_getR g qd_M_faults_107 qf_M_26 (by decide) rfl rfl ?_
              refine ew_aload_n g qd_M_faults_110 rfl ?_
              refine ew_get g qd_M_faults_111 qf_M_88 (by decide) rfl rfl ?_
              refine en_top h2 ?_
              refine ew_iconst g qd_M_faults_114 ic_1 ?_
              refine ew_isub g qd_M_faults_115 ?_
              refine en_top (pk_sub (by omega)) ?_
              refine en_iald g qd_M_faults_116 (by decide) rfl (by omega) (by omega) e0 ?_
              refine ew_callV g qd_M_faults_117 (k_M_markOf w k.2.1 sg4 hc u0) qv_M_97 (by decide) rfl ⟨_, _, rfl⟩ rfl rfl (Nat.le_of_ble_eq_true rfl) ⟨rfl, rfl, by decide, by decide⟩ (fun v sg5 hv => ?_)
              obtain ⟨rfl, rfl⟩ := hv
              refine ew_if_ge g qd_M_faults_120 (tgt := 127) (by decide) (fun hge => ?_) (fun hge => ?_)
              · refine ew_iconst g qd_M_faults_127 ic_0 ?_
                refine ew_zret g qd_M_faults_128 hp (by first | exact bI_nar _ | decide +kernel) ?_
                rw [hF17, if_pos ((mkI_ge hcd _).mp hge)]
                exact ⟨rfl, rfl⟩
              · refine ew_iconst g qd_M_faults_123 ic_1 ?_
                refine ew_goto g qd_M_faults_124 (tgt := 128) (by decide) ?_
                refine ew_zret g qd_M_faults_128 hp (by first | exact bI_nar _ | decide +kernel) ?_
                rw [hF17, if_neg (fun z => hge ((mkI_ge hcd _).mpr z))]
                exact ⟨rfl, rfl⟩
          · subst o4
            have hF4 : pFault cd s 4 a = if a + 1 < pDe s then none else some 4 := by rw [hF, if_neg o3, if_pos rfl]
            refine ew_aload_n g qd_M_faults_75 rfl ?_
            refine ew_get g qd_M_faults_76 qf_M_88 (by decide) rfl rfl ?_
            refine en_top h2 ?_
            refine ew_aload_n g qd_M_faults_79 rfl ?_
            refine ew_getR g qd_M_faults_80 qf_M_13 (by decide) rfl rfl ?_
            refine ew_aload_n g qd_M_faults_83 rfl ?_
            refine ew_get g qd_M_faults_84 qf_M_78 (by decide) rfl rfl ?_
            refine en_top h6 ?_
            refine en_iald g qd_M_faults_87 (by decide) rfl (by omega) (by omega) harg ?_
            refine ew_iconst g qd_M_faults_88 ic_1 ?_
            refine ew_iadd g qd_M_faults_89 ?_
            refine en_top (nI_add _ _) ?_
            refine en_gt g qd_M_faults_90 (tgt := 97) (by decide) (by omega) (by omega) (fun hgt => ?_) (fun hgt => ?_)
            · refine ew_iconst g qd_M_faults_97 ic_0 ?_
              refine ew_zret g qd_M_faults_98 hp (by first | exact bI_nar _ | decide +kernel) ?_
              rw [hF4, if_pos hgt]
              exact ⟨rfl, rfl⟩
            · refine ew_iconst g qd_M_faults_93 ic_1 ?_
              refine ew_goto g qd_M_faults_94 (tgt := 98) (by decide) ?_
              refine ew_zret g qd_M_faults_98 hp (by first | exact bI_nar _ | decide +kernel) ?_
              rw [hF4, if_neg (by omega)]
              exact ⟨rfl, rfl⟩
        · subst o3
          have hF3 : pFault cd s 3 a = if a < pDe s then none else some 4 := by rw [hF, if_pos rfl]
          refine ew_aload_n g qd_M_faults_48 rfl ?_
          refine ew_get g qd_M_faults_49 qf_M_88 (by decide) rfl rfl ?_
          refine en_top h2 ?_
          refine ew_aload_n g qd_M_faults_52 rfl ?_
          refine ew_getR g qd_M_faults_53 qf_M_13 (by decide) rfl rfl ?_
          refine ew_aload_n g qd_M_faults_56 rfl ?_
          refine ew_get g qd_M_faults_57 qf_M_78 (by decide) rfl rfl ?_
          refine en_top h6 ?_
          refine en_iald g qd_M_faults_60 (by decide) rfl (by omega) (by omega) harg ?_
          refine en_gt g qd_M_faults_61 (tgt := 68) (by decide) (by omega) (by omega) (fun hgt => ?_) (fun hgt => ?_)
          · refine ew_iconst g qd_M_faults_68 ic_0 ?_
            refine ew_zret g qd_M_faults_69 hp (by first | exact bI_nar _ | decide +kernel) ?_
            rw [hF3, if_pos hgt]
            exact ⟨rfl, rfl⟩
          · refine ew_iconst g qd_M_faults_64 ic_1 ?_
            refine ew_goto g qd_M_faults_65 (tgt := 69) (by decide) ?_
            refine ew_zret g qd_M_faults_69 hp (by first | exact bI_nar _ | decide +kernel) ?_
            rw [hF3, if_neg (by omega)]
            exact ⟨rfl, rfl⟩
      · exact h41 (Or.inr (Or.inr h''))
