theorem ew_after {S : SD} {w : WC} {p : Program} {l : Launch} {e : Env} {R : Room} {s : State} {m : MethodId} {args : Array Value} {below : List Frame} {meth : Method} {c : Code} {H : Heap} {locs : List Loc} {cs sl : Nat} {A : Nat → Prop} {Q : State → Prop} {pc : Nat} {ls : Array Slot} {rest st0 : List Value} {a : Array Value} {postC : Option MV → SG → Prop} (hr : va_Run p l e R s m args below meth c H locs cs sl 0 0 (F0 m pc ls st0) rest (ew_Q S w postC H.size a) (ew_A S w H.size)) (hS : va_S A s.heap H locs) (hmo : ∀ q, ew_A S w H.size q → A q) (kk : ∀ (v : Option MV) (sg : SG) (H1 : Heap) (locs1 : List Loc), postC v sg → va_P w.1 S.1 (ew_ws S w sg) H1 → va_S A s.heap H1 locs1 → W p l e R s m args below meth c H1 locs1 cs sl Q (F0 m (pc + 3) ls ((v.map (mvV w.2.2.2)).toList ++ rest))) : W p l e R s m args below meth c H locs cs sl Q (F0 m pc ls st0) := by
  intro T hT X
  obtain ⟨v, st₀, t, T', L, h0, X', hL, e1, e2, ⟨⟨v', sg, hv, hp, hw⟩, hz, hk⟩, st⟩ := hr T hT X
  have hv : v = v'.map (mvV w.2.2.2) := by injection hv
  subst hv
  rw [h0] at hz hk
  obtain ⟨t2, a1, b1⟩ := kk v' sg T'.heap (locs ++ L) hp (by rw [e1]; exact hw.1) ⟨Nat.le_trans hS.1 (by rw [e1]; exact hz), fun q h1 h2 => by rw [e1, hk q (Nat.lt_of_lt_of_le h1 hS.1) (fun z => h2 (hmo q z))]; exact hS.2.1 q h1 h2, fun q hq => by
      rcases List.mem_append.mp hq with h | h
      · exact hS.2.2 q h
      · exact hmo _ (hL q h)⟩ T' rfl X'
  exact ⟨t2, st t2 a1, b1⟩
/-- what a call needs of the tables -/
def ew_CB (S : SD) (own : String) (Ts : List Cond) (index : Nat) (y : MethodName) (bytes : ByteArray) (maxL : Nat) (retC : Option FieldType) (ws : List Cond) (n : Nat) : Prop := (∃ ws', ws = Cond.code y bytes maxL retC :: ws') ∧ GoodIn Ts ws ∧ Cond.initialized y.cls ∈ Ts ∧ (Cond.methodLink own index y ∈ Ts ∨ ∃ host, Cond.methodLinkNest own index y host ∈ S.2.2.2.1) ∧ y.cls ≠ "java/lang/invoke/MethodHandle" ∧ y.cls ≠ "java/lang/invoke/VarHandle" ∧ (parseMethodDescriptor y.desc).map (fun d => d.parameters.length) = some n
def ew_CV (S : SD) (own : String) (Ts : List Cond) (index : Nat) (y : MethodName) (bytes : ByteArray) (maxL : Nat) (retC : Option FieldType) (ws : List Cond) (n : Nat) : Prop := ew_CB S own Ts index y bytes maxL retC ws n ∧ Cond.instanceMethod y ∈ Ts ∧ Cond.selects y.cls y y ∈ Ts
def ew_CS (S : SD) (own : String) (Ts : List Cond) (index : Nat) (y : MethodName) (bytes : ByteArray) (maxL : Nat) (retC : Option FieldType) (ws : List Cond) (n : Nat) : Prop := ew_CB S own Ts index y bytes maxL retC ws n ∧ Cond.static y ∈ Ts
def ew_R (rmC rm : Room) (maxL : Nat) : Prop := rmC.cells = 0 ∧ rmC.slots = 0 ∧ rmC.frames + 1 ≤ rm.frames ∧ 8 + (maxL + 11) + rmC.locals ≤ rm.locals
section EWC
variable {S : SD} {w : WC} {nL : Nat} {k : KX} {cc : ByteArray} {own : String} {Ts : List Cond} {ret : Option FieldType} {rm : Room} {post : Option MV → SG → Prop} {pc : Nat} {lv : List (Option MV)} {st stk : List MV} {sg : SG}
theorem ew_callV (g : ew_G S w nL k cc own Ts ret rm) {index maxL n o ci : Nat} {y : MethodName} {bytes : ByteArray} {retC : Option FieldType} {ws : List Cond} {rmC : Room} {As : List MV} {fl : List (Option Nat)} {postC : Option MV → SG → Prop} (d : decode cc pc = .ok (.invokevirtual index, 3)) (hM : ew_M S w k.2.1 y ws rmC (.inr o :: As) sg postC) (hC : ew_CV S own Ts index y bytes maxL retC ws n) (ho : o < S.2.2.1) (hL : S.2.1 o = .inr (ci, fl)) (hcl : ∃ T N, S.1[ci]? = some (y.cls, T, N)) (hn : As.length = n) (hs : stk = As.reverse ++ .inr o :: st) (hq : st.length ≤ 8) (hR : ew_R rmC rm maxL) (h : ∀ (v : Option MV) (sg' : SG), postC v sg' → ew_E S w nL k (pc + 3) lv (v.toList ++ st) sg') : ew_E S w nL k pc lv stk sg := by
  obtain ⟨p, l, e, R, s, m, args, below, meth, c, A, cs, sl, Q⟩ := k
  obtain ⟨gx, gb, gm, go, gt, gK, gi, gn, gs, gr, gl, gR, gk, gA, gh, gc, gd⟩ := g
  intro H locs ls hl hP hS
  subst hs
  subst gR
  obtain ⟨⟨⟨ws', hw⟩, hG, hini, hlk, hy1, hy2, hpar⟩, hinst, hsel⟩ := hC
  obtain ⟨T0, N0, hcl⟩ := hcl
  obtain ⟨r1, r2, r3, r4⟩ := hR
  have he := ew_ws_at S w sg ho
  rw [ew_c_obj hL] at he
  have hrecv := va_recv gK hP hcl he
  have hM := hM H.size
  have hpre : PreV s H y.cls (w.2.2.2 o) (va_Pc ((.inr o :: As).map (mvV w.2.2.2)) (fun U => U.heap.size = H.size ∧ ew_W S w sg U)) (As.map (mvV w.2.2.2)) := ⟨fun a U g mk q => ⟨q.1, q.2.1, ew_blind gk g mk a q.2.2⟩, hrecv, fun U hU hW => ⟨rfl, by rw [hU], ew_W_of gk gA gh hP gK gi gn gs hS hU hW⟩⟩
  refine W.eq (g2 := F0 m pc ls ((As.map (mvV w.2.2.2)).reverse ++ .ref (w.2.2.2 o) :: st.map (mvV w.2.2.2))) (by simp [mvV]) ?_
  have hfin : ∀ (v : Option MV) (sg' : SG) (H1 : Heap) (locs1 : List Loc), postC v sg' → va_P w.1 S.1 (ew_ws S w sg') H1 → va_S A s.heap H1 locs1 → W p l e R s m args below meth c H1 locs1 cs sl Q (F0 m (pc + 3) ls ((v.map (mvV w.2.2.2)).toList ++ st.map (mvV w.2.2.2))) := by
    intro v sg' H1 locs1 hp hP1 hS1
    have h9 := h v sg' hp H1 locs1 ls hl hP1 hS1
    cases v with
    | none => exact h9
    | some v => exact h9
  rcases hlk with hlk | ⟨host, hlk⟩
  · exact ew_after (va_runV ⟨gx, gb, gm, go, gt⟩ hM ⟨callB_of n gt hG hw r1 r2 (gt _ hini) (gt _ hlk) ⟨hy1, hy2, hpar⟩ ⟨r3, r4⟩, gt _ hinst, gt _ hsel⟩ hpre rfl (by rw [List.length_map]; exact hn) hl.1 rfl (lv_room (by rw [mv_sum]; exact hq)) d ⟨gc, gd⟩) hS (ew_A_in gA gh hS.1) hfin
  · exact ew_after (va_runVN ⟨gx, gb, gm, go, gt⟩ hM ⟨va_cnB n gt hG hw r1 r2 (gn _ hlk) (gt _ hini) ⟨hy1, hy2, hpar⟩ ⟨r3, r4⟩, gt _ hinst, gt _ hsel⟩ hpre rfl (by rw [List.length_map]; exact hn) hl.1 rfl (lv_room (by rw [mv_sum]; exact hq)) d ⟨gc, gd⟩) hS (ew_A_in gA gh hS.1) hfin
theorem ew_callS (g : ew_G S w nL k cc own Ts ret rm) {index maxL n : Nat} {y : MethodName} {bytes : ByteArray} {retC : Option FieldType} {ws : List Cond} {rmC : Room} {As : List MV} {postC : Option MV → SG → Prop} (d : decode cc pc = .ok (.invokestatic index, 3)) (hM : ew_M S w k.2.1 y ws rmC As sg postC) (hC : ew_CS S own Ts index y bytes maxL retC ws n) (hn : As.length = n) (hs : stk = As.reverse ++ st) (hq : st.length ≤ 8) (hR : ew_R rmC rm maxL) (h : ∀ (v : Option MV) (sg' : SG), postC v sg' → ew_E S w nL k (pc + 3) lv (v.toList ++ st) sg') : ew_E S w nL k pc lv stk sg := by
  obtain ⟨p, l, e, R, s, m, args, below, meth, c, A, cs, sl, Q⟩ := k
  obtain ⟨gx, gb, gm, go, gt, gK, gi, gn, gs, gr, gl, gR, gk, gA, gh, gc, gd⟩ := g
  intro H locs ls hl hP hS
  subst hs
  subst gR
  obtain ⟨⟨⟨ws', hw⟩, hG, hini, hlk, hy1, hy2, hpar⟩, hstt⟩ := hC
  obtain ⟨r1, r2, r3, r4⟩ := hR
  have hM := hM H.size
  have hpre : PreS s H (va_Pc (As.map (mvV w.2.2.2)) (fun U => U.heap.size = H.size ∧ ew_W S w sg U)) (As.map (mvV w.2.2.2)) := ⟨fun a U g mk q => ⟨q.1, q.2.1, ew_blind gk g mk a q.2.2⟩, fun U hU hW => ⟨rfl, by rw [hU], ew_W_of gk gA gh hP gK gi gn gs hS hU hW⟩⟩
  refine W.eq (g2 := F0 m pc ls ((As.map (mvV w.2.2.2)).reverse ++ st.map (mvV w.2.2.2))) (by simp [mvV]) ?_
  have hfin : ∀ (v : Option MV) (sg' : SG) (H1 : Heap) (locs1 : List Loc), postC v sg' → va_P w.1 S.1 (ew_ws S w sg') H1 → va_S A s.heap H1 locs1 → W p l e R s m args below meth c H1 locs1 cs sl Q (F0 m (pc + 3) ls ((v.map (mvV w.2.2.2)).toList ++ st.map (mvV w.2.2.2))) := by
    intro v sg' H1 locs1 hp hP1 hS1
    have h9 := h v sg' hp H1 locs1 ls hl hP1 hS1
    cases v with
    | none => exact h9
    | some v => exact h9
  rcases hlk with hlk | ⟨host, hlk⟩
  · exact ew_after (va_runS ⟨gx, gb, gm, go, gt⟩ hM ⟨callB_of n gt hG hw r1 r2 (gt _ hini) (gt _ hlk) ⟨hy1, hy2, hpar⟩ ⟨r3, r4⟩, gt _ hstt⟩ hpre rfl (by rw [List.length_map]; exact hn) hl.1 rfl (lv_room (by rw [mv_sum]; exact hq)) d ⟨gc, gd⟩) hS (ew_A_in gA gh hS.1) hfin
  · exact ew_after (va_runSN ⟨gx, gb, gm, go, gt⟩ hM ⟨va_cnB n gt hG hw r1 r2 (gn _ hlk) (gt _ hini) ⟨hy1, hy2, hpar⟩ ⟨r3, r4⟩, gt _ hstt, trivial⟩ hpre rfl (by rw [List.length_map]; exact hn) hl.1 rfl (lv_room (by rw [mv_sum]; exact hq)) d ⟨gc, gd⟩) hS (ew_A_in gA gh hS.1) hfin
end EWC
