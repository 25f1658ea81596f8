def R_law : String := "ContractProbeLaw"
def lw_P (b : Addr) (xs : List Int32) (args : Array Value) (s : State) : Prop := args = #[.ref b] ∧ s.IntsAt b xs ∧ xs.length ≤ 2048 ∧ (Jvm.Cond.and given_1 narrow_1).before args s = true
def lw_Q (_ : Array Value) (s : State) (o : Outcome) (t : State) : Prop := o = .returned (some (.int 1)) ∧ Framed s o t [] 61 23744
def lw_Z (below : List Frame) (a : Array Value) (s : State) : State → Prop := fun t => ∃ o, t.status = .running ∧ Ended t below o ∧ lw_Q a s o t
/-- the law's own end, with 1 on the stack, nothing written that was there before, its room as the claim has it -/
theorem lw_ret {p : Program} {l : Launch} {e : Env} {s : State} {m : MethodId} {below : List Frame} {meth : Method} {c : Code} {b : Nat} (hx : p.tables.exec = Jvm.exec) (hb : c.code = code) (hr : meth.sig.returnType = ret) (hlocks : meth.locks = false) {pc : Nat} {H : Heap} {ls : Array Slot} (hdg : decode code pc = .ok (.ireturn, 1)) : W p l e room_1 s m #[Value.ref b] below meth c H [] 61 23744 (lw_Z below #[Value.ref b] s) (F0 m pc ls [.int 1]) := by
  intro T hT X
  obtain ⟨fs, hret, hrun, hended, hW, hframe⟩ := X.leave (v := some (.int 1)) (hlocks := hlocks) (fun h => by rw [hr] at h; cases h)
  have hmeth' : T.vm.method? m = some meth := X.method'
  refine ⟨T.setFrames fs, ?_, .returned (some (.int 1)), hrun, hended, rfl, ⟨_, rfl⟩, hW, hframe⟩
  jvm_step X.here [X.here.top, hx, hb, hdg, hmeth', hr, ret, narrow_b1]
  (try refine ⟨rfl, ?_⟩); (try refine ⟨rfl, ?_⟩)
  first | (intro acts; rw [hret _ acts rfl rfl rfl]) | rw [hret _ _ rfl rfl rfl]
  exact Steps.refl _
/-- what holds at the law's entry: the machine, the code, the tables' words (any of lw_tbl by 'hts w (by decide +kernel)'), the script of L ints xs at the cell b, what the Statement gives of the start (any of its parts by flat_of_before) -/
def lw_At (p : Program) (s : State) (m : MethodId) (meth : Method) (c : Code) (b L : Nat) (xs : Nat → Int32) : Prop :=
  p.tables.exec = Jvm.exec ∧ c.code = code ∧ meth.sig.returnType = ret ∧ c.maxLocals = 4 ∧ s.vm.findClass R_law = some m.cls ∧ (∀ w ∈ lw_tbl, w.before #[Value.ref b] s = true) ∧ va_X b L xs s s.heap ∧ b < s.heap.size ∧ meth.locks = false ∧ (Jvm.Cond.and given_1 narrow_1).before #[Value.ref b] s = true
set_option maxRecDepth 100000 in
set_option maxHeartbeats 4000000 in
theorem whole_start {p : Program} {e : Env} {s : State} {m : MethodId} {below : List Frame} {meth : Method} {c : Code} (l : Launch) {b L : Nat} {xs : Nat → Int32} (hL : L ≤ 2048) (C0 : lw_At p s m meth c b L xs) : W p l e room_1 s m #[Value.ref b] below meth c s.heap [] 0 0 (lw_Z below #[Value.ref b] s) (entryFrame m ([Value.ref b] : List Value).toArray 4) := by
  obtain ⟨gx, gb, gr, gm, go, gt, hX, hbl, glk, hgv⟩ := C0
  have hg : ∀ x ∈ qwg, x.before #[Value.ref b] s = true := fun x hx => gt x (wg_in hx)
  have gn := nw_of gt
  obtain ⟨D, cI, cZ, hK⟩ := K_of gt
  have hA : ∀ q : Nat, s.heap.size ≤ q → (fun q : Nat => s.heap.size ≤ q) q := fun q h => h
  have hAn : ∀ a : Nat, a < s.heap.size → ¬ (fun q : Nat => s.heap.size ≤ q) a := fun a h z => absurd (show s.heap.size ≤ a from z) (Nat.not_le.mpr h)
  obtain ⟨tC, zC, yC⟩ := st_COSTS (A := fun q : Nat => s.heap.size ≤ q) gt hgv hAn
  obtain ⟨tT, zT, yT⟩ := st_TAKES (A := fun q : Nat => s.heap.size ≤ q) gt hgv hAn
  obtain ⟨tP, zP, yP⟩ := st_PUTS (A := fun q : Nat => s.heap.size ≤ q) gt hgv hAn
  have hl := lv_entry ([.ref b]) (n := 4) (Nat.le_of_ble_eq_true rfl)
  rw [lg_entry_eq]
  generalize (lg_sl ([.ref b]) ++ List.replicate (4 - (lg_sl ([.ref b])).length) Slot.unset).toArray = ls at hl ⊢
  have hl : lv_has ls 4 [(0, .ref b)] := hl
  have hP0 : va_P D qcl [] s.heap := fun i x hx => by cases hx
  have hD0 : va_D (fun q : Nat => s.heap.size ≤ q) [] := ⟨fun i j x y hx => (by cases hx), fun i x hx => (by cases hx)⟩
  refine va_new (c0 := c) (cc := qc_L_law) (ci := 0) (fs := [.null, .null, .null, .int 0, .int 0, .int 0]) gx gb hg qu_X qt_X qk_X go (hg (Cond.classLink qR_L 7 qR_X) (wg_t 11 rfl rfl)) (hg (Cond.instantiable qR_X 6) (wg_t 12 rfl rfl)) (hg (Cond.initialized qR_X) (wg_t 1 rfl rfl)) hK hP0 hD0 va_S.rf hA rfl df_X (by decide) (by decide) qd_L_law_0 (fun q0 H hP hD hS => ?_)
  refine lv_dup gx gb qd_L_law_3 rfl ?_
  refine cw_call (ws := []) gx gb gm go hg hK gn hA hl.1 qd_L_law_4 (c_X_init D cI cZ l) ⟨⟨_, rfl⟩, wg_good _ (wg_t 15 rfl rfl), wg_t 1 rfl rfl, Or.inl (wg_t 13 rfl rfl), by decide +kernel, by decide +kernel, by decide +kernel⟩ rfl (wg_t 14 rfl rfl) ⟨rfl, rfl, by decide, by decide⟩ ⟨by decide, by decide⟩ (Nat.le_of_ble_eq_true rfl) hP hD hS (fun a1 H1 locs1 hP1 hD1 hS1 => ?_)
  have hP1 : va_P D qcl (pw_X cI cZ q0 a1) H1 := hP1
  have hD1 : va_D (fun q : Nat => s.heap.size ≤ q) (pw_X cI cZ q0 a1) := hD1
  refine lv_astore_n (lv' := [(1, .ref q0), (0, .ref b)]) gx gb qd_L_law_7 rfl hl (by decide) rfl (fun ls1 hl1 => ?_)
  refine va_new (c0 := c) (cc := qc_L_law) (ci := 8) (fs := [.int 0, .null, .null, .int 0, .int 0, .null, .null, .null, .int 0, .int 0, .int 0, .int 0, .int 0, .int 0, .int 0, .null, .null, .null, .null, .int 0, .int 0, .null, .null, .null, .null, .null, .null, .null, .null, .null, .int 0, .null]) gx gb hg qu_M qt_M qk_M go (hg (Cond.classLink qR_L 10 qR_M) (wg_t 501 rfl rfl)) (hg (Cond.instantiable qR_M 32) (wg_t 502 rfl rfl)) (hg (Cond.initialized qR_M) (wg_t 10 rfl rfl)) hK hP1 hD1 hS1 hA rfl df_M (by decide) (by decide) qd_L_law_8 (fun qM H2 hP2 hD2 hS2 => ?_)
  refine lv_dup gx gb qd_L_law_11 rfl ?_
  refine cw_call gx gb gm go hg hK gn hA hl1.1 qd_L_law_12 (c_M_init D cI cZ l) ⟨⟨_, rfl⟩, wg_good _ (wg_t 505 rfl rfl), wg_t 10 rfl rfl, Or.inl (wg_t 503 rfl rfl), by decide +kernel, by decide +kernel, by decide +kernel⟩ rfl (wg_t 504 rfl rfl) ⟨rfl, rfl, by decide, by decide⟩ ⟨by decide, by decide⟩ (Nat.le_of_ble_eq_true rfl) hP2 hD2 hS2 (fun a2 H3 locs3 hP3 hD3 hS3 => ?_)
  rw [ws0_eq D cI cZ q0 a1 qM a2 tC tT tP b] at hP3 hD3
  generalize hw : ((D, cI, cZ, ad0 q0 a1 qM a2 tC tT tP b) : WC) = w at hP3 hD3
  have w1 : w.1 = D := by rw [← hw]
  have w2 : w.2.1 = cI := by rw [← hw]
  have w3 : w.2.2.1 = cZ := by rw [← hw]
  have e1000 : w.2.2.2 1000 = tC := by rw [← hw]; rfl
  have e1001 : w.2.2.2 1001 = tT := by rw [← hw]; rfl
  have e1002 : w.2.2.2 1002 = tP := by rw [← hw]; rfl
  have e2000 : w.2.2.2 2000 = b := by rw [← hw]; rfl
  have e0 : w.2.2.2 0 = q0 := by rw [← hw]; rfl
  have e41 : w.2.2.2 41 = qM := by rw [← hw]; rfl
  have hinj : ew_inj qS w := fun i j hi hj eq => hD3.1 i j _ _ (ew_ws_at qS w sg0 hi) (ew_ws_at qS w sg0 hj) eq
  have hAo : ∀ o, o < qS.2.2.1 → (fun q : Nat => s.heap.size ≤ q) (w.2.2.2 o) := fun o ho => hD3.2 o _ (ew_ws_at qS w sg0 ho)
  have hst : ew_st qS w (fun q : Nat => s.heap.size ≤ q) s s.heap := by
    intro j q hq
    have hj : j < 3 := (List.getElem?_eq_some_iff.mp hq).1
    rcases (by omega : j = 0 ∨ j = 1 ∨ j = 2) with rfl | rfl | rfl
    · cases hq
      show va_Z _ _ _ (.ref (w.2.2.2 1000)) _ _ _ ∧ va_T .int (w.2.2.2 1000) _ _ _ _ _
      rw [e1000]
      exact ⟨zC, yC⟩
    · cases hq
      show va_Z _ _ _ (.ref (w.2.2.2 1001)) _ _ _ ∧ va_T .int (w.2.2.2 1001) _ _ _ _ _
      rw [e1001]
      exact ⟨zT, yT⟩
    · cases hq
      show va_Z _ _ _ (.ref (w.2.2.2 1002)) _ _ _ ∧ va_T .int (w.2.2.2 1002) _ _ _ _ _
      rw [e1002]
      exact ⟨zP, yP⟩
  have hK' : va_K w.1 qS.1 (ew_ty w) s := by
    unfold ew_ty
    rw [w1, w2, w3]
    exact hK
  have g : ew_G qS w 4 (p, l, e, room_1, s, m, #[Value.ref b], below, meth, c, (fun q : Nat => s.heap.size ≤ q), 61, 23744, lw_Z below #[Value.ref b] s) qc_L_law qR_L qwg ret room_1 := ⟨gx, gb, gm, go, hg, hK', hinj, gn, hst, gr, glk, rfl, qnk, hAo, hA, Nat.le_refl _, Nat.le_refl _⟩
  have hXX : el_X w (p, l, e, room_1, s, m, #[Value.ref b], below, meth, c, (fun q : Nat => s.heap.size ≤ q), 61, 23744, lw_Z below #[Value.ref b] s) L xs := by
    show va_X (w.2.2.2 2000) L xs s s.heap ∧ w.2.2.2 2000 < s.heap.size ∧ ¬ s.heap.size ≤ w.2.2.2 2000
    rw [e2000]
    exact ⟨hX, hbl, Nat.not_le.mpr hbl⟩
  have hend : ∀ (lv : List (Option MV)) (sg : SG), ew_E qS w 4 (p, l, e, room_1, s, m, #[Value.ref b], below, meth, c, (fun q : Nat => s.heap.size ≤ q), 61, 23744, lw_Z below #[Value.ref b] s) 494 lv [.inl (nI 1)] sg := by
    intro lv sg H locs ls2 _ _ hS9
    exact va_forget (fun q hq => hS9.2.2 q hq) (lw_ret gx gb gr glk qd_L_law_494)
  have h15 : ew_E qS w 4 (p, l, e, room_1, s, m, #[Value.ref b], below, meth, c, (fun q : Nat => s.heap.size ≤ q), 61, 23744, lw_Z below #[Value.ref b] s) 15 [some (.inr 2000), some (.inr 0), none, none] [.inr 41] sg0 := by
    refine ew_astore_n g qd_L_law_15 (by decide) ?_
    refine ew_iconst g qd_L_law_16 ic_0 ?_
    refine ew_istore_n g qd_L_law_17 (by decide) ?_
    exact law_loop (rm := room_1) g hXX hL hend L 0 sg0 _ (by omega) (Or.inr rfl) (Nat.zero_le _) xS0 mS0
  have hLL : ew_L w.2.2.2 ls1 4 [some (.inr 2000), some (.inr 0), none, none] := by
    refine ⟨hl1.1, rfl, hl1.2.1, fun i v hv => ?_⟩
    have hi : i < 4 := (List.getElem?_eq_some_iff.mp hv).1
    rcases (by omega : i = 0 ∨ i = 1 ∨ i = 2 ∨ i = 3) with rfl | rfl | rfl | rfl
    · cases hv
      show _ = some (Slot.val (Value.ref (w.2.2.2 2000)))
      rw [e2000]
      exact lv_at hl1 1 rfl
    · cases hv
      show _ = some (Slot.val (Value.ref (w.2.2.2 0)))
      rw [e0]
      exact lv_at hl1 0 rfl
    · cases hv
    · cases hv
  have hfin := h15 H3 locs3 ls1 hLL (by rw [w1]; exact hP3) hS3
  have est : ([.inr 41] : List MV).map (mvV w.2.2.2) = [.ref qM] := by
    show [Value.ref (w.2.2.2 41)] = [.ref qM]
    rw [e41]
  rw [est] at hfin
  exact hfin
