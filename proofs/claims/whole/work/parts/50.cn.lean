/-! the making of objects: an explicit world that grows -/
abbrev CX : Type := Program × Launch × Env × Room × State × MethodId × Array Value × List Frame × Method × Code × Array Slot × (Nat → Prop) × (State → Prop)
abbrev cn_ty (cI cZ : ClassId) : List (ClassId × FieldType) := [(cI, .int), (cZ, .boolean)]
def cn_E (D : va_G) (k : CX) (pc : Nat) (st : List Value) (ws : va_W) (cs sl : Nat) : Prop := match k with
  | (p, l, e, R, s, m, args, below, meth, c, ls, A, Q) => ∀ (H : Heap) (locs : List Loc), va_P D qcl ws H → va_D A ws → va_S A s.heap H locs → W p l e R s m args below meth c H locs cs sl Q (F0 m pc ls st)
def cn_G (D : va_G) (cI cZ : ClassId) (k : CX) (cc : ByteArray) (own : String) (h0 : Nat) (rm : Room) : Prop := match k with
  | (p, _, _, R, s, m, args, _, meth, c, ls, A, _) => p.tables.exec = Jvm.exec ∧ c.code = cc ∧ c.maxLocals = 1 ∧ s.vm.findClass own = some m.cls ∧ (∀ x ∈ qwg, x.before args s = true) ∧ va_K D qcl (cn_ty cI cZ) s ∧ (∀ x ∈ qnw, va_Nw x s) ∧ meth.sig.returnType = none ∧ meth.locks = false ∧ meth.name = "<init>" ∧ R = rm ∧ lv_has ls 1 [(0, .ref h0)] ∧ ∀ q, s.heap.size ≤ q → A q
/-- a constructor's contract: out of the object with its default fields, nothing else, comes the world post -/
def cn_Q (D : va_G) (h0 : Nat) (e0 : va_E) (post : Nat → (Nat → Nat) → va_W) (sz : Nat) : Array Value → State → Outcome → State → Prop := va_Qv (fun _ : Nat → Nat => True) (fun ad t => va_P D qcl (post h0 ad) t.heap ∧ va_D (va_A [(h0, e0)] sz) (post h0 ad)) (va_A [(h0, e0)] sz)
def cn_M (D : va_G) (cI cZ : ClassId) (l : Launch) (y : MethodName) (ws : List Cond) (rm : Room) (e0 : va_E) (mc ms : Nat) (post : Nat → (Nat → Nat) → va_W) : Prop := ∀ (h0 sz : Nat), Met l y ws rm (va_Pc [.ref h0] (fun U => U.heap.size = sz ∧ va_P D qcl [(h0, e0)] U.heap ∧ va_K D qcl (cn_ty cI cZ) U ∧ ∀ x ∈ qnw, va_Nw x U)) (cn_Q D h0 e0 post sz) mc ms (va_A [(h0, e0)] sz)
theorem nw_go {s U : State} (h : ∀ x ∈ qnw, va_Nw x s) (hW : s.WarmedH U.vm) : ∀ x ∈ qnw, va_Nw x U := ew_nw_go (S := qS) qnk h hW
theorem nw_same {s U : State} (h : ∀ x ∈ qnw, va_Nw x s) (e : s.vm = U.vm) : ∀ x ∈ qnw, va_Nw x U := ew_nw_same (S := qS) qnk h e
theorem A_one {h0 sz q : Nat} {e0 : va_E} (h : va_A [(h0, e0)] sz q) : q = h0 ∨ sz ≤ q := by
  rcases h with ⟨k, e, hk⟩ | h
  · have hz : k < 1 := (List.getElem?_eq_some_iff.mp hk).1
    rw [show k = 0 by omega] at hk
    cases hk
    exact Or.inl rfl
  · exact Or.inr h
theorem A_hd {h0 sz : Nat} {e0 : va_E} : va_A [(h0, e0)] sz h0 := Or.inl ⟨0, e0, rfl⟩
section CN
variable {D : va_G} {cI cZ : ClassId} {k : CX} {cc : ByteArray} {own : String} {h0 : Nat} {rm : Room} {pc cs sl : Nat} {st : List Value} {ws : va_W}
theorem cn_load (g : cn_G D cI cZ k cc own h0 rm) (d : decode cc pc = .ok (.aload_n 0, 1)) (h : cn_E D k (pc + 1) (.ref h0 :: st) ws cs sl) : cn_E D k pc st ws cs sl := by
  obtain ⟨p, l, e, R, s, m, args, below, meth, c, ls, A, Q⟩ := k
  obtain ⟨gx, gb, gm, go, gt, gK, gn, gr, gl, gi, gR, hl, gA⟩ := g
  intro H locs hP hD hS
  exact lv_aload_n gx gb d rfl (lv_at hl 0 rfl) (h H locs hP hD hS)
theorem cn_dup (g : cn_G D cI cZ k cc own h0 rm) {q : Nat} (d : decode cc pc = .ok (.dup, 1)) (h : cn_E D k (pc + 1) (.ref q :: .ref q :: st) ws cs sl) : cn_E D k pc (.ref q :: st) ws cs sl := by
  obtain ⟨p, l, e, R, s, m, args, below, meth, c, ls, A, Q⟩ := k
  obtain ⟨gx, gb, gm, go, gt, gK, gn, gr, gl, gi, gR, hl, gA⟩ := g
  intro H locs hP hD hS
  exact lv_dup gx gb d rfl (h H locs hP hD hS)
theorem cn_ic (g : cn_G D cI cZ k cc own h0 rm) {n : Int} {v : Int32} (d : decode cc pc = .ok (.iconst n, 1)) (hv : Int32.ofInt n = v) (h : cn_E D k (pc + 1) (.int v :: st) ws cs sl) : cn_E D k pc st ws cs sl := by
  obtain ⟨p, l, e, R, s, m, args, below, meth, c, ls, A, Q⟩ := k
  obtain ⟨gx, gb, gm, go, gt, gK, gn, gr, gl, gi, gR, hl, gA⟩ := g
  intro H locs hP hD hS
  exact lv_iconst gx gb d hv (h H locs hP hD hS)
theorem cn_bp (g : cn_G D cI cZ k cc own h0 rm) {n : Int} {v : Int32} (d : decode cc pc = .ok (.bipush n, 2)) (hv : (Int8.ofInt n).toInt32 = v) (h : cn_E D k (pc + 2) (.int v :: st) ws cs sl) : cn_E D k pc st ws cs sl := by
  obtain ⟨p, l, e, R, s, m, args, below, meth, c, ls, A, Q⟩ := k
  obtain ⟨gx, gb, gm, go, gt, gK, gn, gr, gl, gi, gR, hl, gA⟩ := g
  intro H locs hP hD hS
  exact lv_bipush gx gb d hv (h H locs hP hD hS)
theorem cn_sp (g : cn_G D cI cZ k cc own h0 rm) {n : Int} {v : Int32} (d : decode cc pc = .ok (.sipush n, 3)) (hv : (Int16.ofInt n).toInt32 = v) (h : cn_E D k (pc + 3) (.int v :: st) ws cs sl) : cn_E D k pc st ws cs sl := by
  obtain ⟨p, l, e, R, s, m, args, below, meth, c, ls, A, Q⟩ := k
  obtain ⟨gx, gb, gm, go, gt, gK, gn, gr, gl, gi, gR, hl, gA⟩ := g
  intro H locs hP hD hS
  exact lv_sipush gx gb d hv (h H locs hP hD hS)
theorem cn_obj (g : cn_G D cI cZ k cc own h0 rm) {idx q : Nat} (d : decode cc pc = .ok (.invokespecial idx, 3)) (h1 : Cond.methodLink own idx Lib.objectInit ∈ qwg) (h2 : Cond.instanceMethod Lib.objectInit ∈ qwg) (h3 : Cond.code Lib.objectInit ⟨#[0xb1]⟩ 1 none ∈ qwg) (hf : 1 ≤ rm.frames) (hlo : 12 ≤ rm.locals) (h : cn_E D k (pc + 3) [] ws cs sl) : cn_E D k pc [.ref q] ws cs sl := by
  obtain ⟨p, l, e, R, s, m, args, below, meth, c, ls, A, Q⟩ := k
  obtain ⟨gx, gb, gm, go, gt, gK, gn, gr, gl, gi, gR, hl, gA⟩ := g
  intro H locs hP hD hS
  refine W.objInit gx gb go (gt _ h1) (gt _ h2) (gt _ h3) rfl (by rw [gm]; exact hl.1) rfl d (by rw [gR]; exact hf) (by rw [gR]; exact hlo) ?_
  exact h H locs hP hD hS
theorem cn_new (g : cn_G D cI cZ k cc own h0 rm) {index ci N : Nat} {C : String} {T : u_T} {fs : List Value} (ty : Nat → FieldType) (d : decode cc pc = .ok (.new index, 3)) (hu : ∀ x ∈ u_ws C T N, x ∈ qwg) (hty : ∀ k, k < N → parseFieldDescriptor (T k).2.2.1 = some (ty k)) (h1 : Cond.classLink own index C ∈ qwg) (h2 : Cond.instantiable C N ∈ qwg) (h3 : Cond.initialized C ∈ qwg) (hc : qcl[ci]? = some (C, T, N)) (hfs : ∀ j, j < N → defaultValue (ty j) = vp_V fs j) (hcs : cs + 1 ≤ rm.cells) (hsl : sl + N ≤ rm.slots) (h : ∀ q, cn_E D k (pc + 3) (.ref q :: st) (ws ++ [(q, .inr (ci, fs))]) (cs + 1) (sl + N)) : cn_E D k pc st ws cs sl := by
  obtain ⟨p, l, e, R, s, m, args, below, meth, c, ls, A, Q⟩ := k
  obtain ⟨gx, gb, gm, go, gt, gK, gn, gr, gl, gi, gR, hl, gA⟩ := g
  intro H locs hP hD hS
  subst gR
  exact va_new gx gb gt hu ty hty go (gt _ h1) (gt _ h2) (gt _ h3) gK hP hD hS gA hc hfs hcs hsl d (fun q H1 hP1 hD1 hS1 => h q H1 locs hP1 hD1 hS1)
theorem cn_newa (g : cn_G D cI cZ k cc own h0 rm) {n : Int32} {N : Nat} (d : decode cc pc = .ok (.newarray .int, 2)) (h1 : Cond.arrayClass .int ∈ qwg) (hn : ¬ n < 0) (hN : n.toNatClampNeg = N) (hb : N * 4 ≤ 536870912) (hcs : cs + 1 ≤ rm.cells) (hsl : sl + N ≤ rm.slots) (h : ∀ q, cn_E D k (pc + 2) (.ref q :: st) (ws ++ [(q, .inl (cI, N, .inl fun _ => 0))]) (cs + 1) (sl + N)) : cn_E D k pc (.int n :: st) ws cs sl := by
  obtain ⟨p, l, e, R, s, m, args, below, meth, c, ls, A, Q⟩ := k
  obtain ⟨gx, gb, gm, go, gt, gK, gn, gr, gl, gi, gR, hl, gA⟩ := g
  intro H locs hP hD hS
  subst gR
  refine va_newa (atype := .int) gx gb (gt _ h1) (ty := .int) rfl gK hP hD hS gA (N' := N) (a0 := (N, .inl fun _ => 0)) (fun cA => rfl) hn hN hb hcs hsl d (fun q cA H1 hK1 hP1 hD1 hS1 => ?_)
  have a1 : s.vm.findClass ("[" ++ FieldType.int.toString) = some cI := (gK.2 0 (cI, .int) rfl).2
  have a2 : s.vm.findClass ("[" ++ FieldType.int.toString) = some cA := (hK1.2 2 (cA, .int) rfl).2
  obtain rfl : cI = cA := Option.some.inj (a1.symm.trans a2)
  exact h q H1 locs hP1 hD1 hS1
theorem cn_newz (g : cn_G D cI cZ k cc own h0 rm) {n : Int32} {N : Nat} (d : decode cc pc = .ok (.newarray .boolean, 2)) (h1 : Cond.arrayClass .boolean ∈ qwg) (hn : ¬ n < 0) (hN : n.toNatClampNeg = N) (hb : N * 1 ≤ 536870912) (hcs : cs + 1 ≤ rm.cells) (hsl : sl + N ≤ rm.slots) (h : ∀ q, cn_E D k (pc + 2) (.ref q :: st) (ws ++ [(q, .inl (cZ, N, .inl fun _ => 0))]) (cs + 1) (sl + N)) : cn_E D k pc (.int n :: st) ws cs sl := by
  obtain ⟨p, l, e, R, s, m, args, below, meth, c, ls, A, Q⟩ := k
  obtain ⟨gx, gb, gm, go, gt, gK, gn, gr, gl, gi, gR, hl, gA⟩ := g
  intro H locs hP hD hS
  subst gR
  refine va_newa (atype := .boolean) gx gb (gt _ h1) (ty := .boolean) rfl gK hP hD hS gA (N' := N) (a0 := (N, .inl fun _ => 0)) (fun cA => rfl) hn hN hb hcs hsl d (fun q cA H1 hK1 hP1 hD1 hS1 => ?_)
  have a1 : s.vm.findClass ("[" ++ FieldType.boolean.toString) = some cZ := (gK.2 1 (cZ, .boolean) rfl).2
  have a2 : s.vm.findClass ("[" ++ FieldType.boolean.toString) = some cA := (hK1.2 2 (cA, .boolean) rfl).2
  obtain rfl : cZ = cA := Option.some.inj (a1.symm.trans a2)
  exact h q H1 locs hP1 hD1 hS1
/-- a field of the object under construction -/
theorem cn_put (g : cn_G D cI cZ k cc own h0 rm) {index ci kf N : Nat} {T : u_T} {fs : List Value} {v : Value} {ty : FieldType} (tys : Nat → FieldType) (d : decode cc pc = .ok (.putfield index, 3)) (hu : ∀ x ∈ u_ws own T N, x ∈ qwg) (hty : ∀ k, k < N → parseFieldDescriptor (T k).2.2.1 = some (tys k)) (hnm : ∀ a, a < N → ∀ b, b < N → a ≠ b → (T a).2.1 ≠ (T b).2.1) (hlk : Cond.fieldLink own index own (T kf).2.1 (T kf).2.2.1 ∈ qwg) (hc : qcl[ci]? = some (own, T, N)) (hk : kf < N) (hown : (T kf).1 = own) (hd : parseFieldDescriptor (T kf).2.2.1 = some ty) (hn : narrow ty v = v) (hfit : fits ty v = true) (hl : kf < fs.length) (h : cn_E D k (pc + 3) st ((h0, .inr (ci, fs.set kf v)) :: ws) cs sl) : cn_E D k pc (v :: .ref h0 :: st) ((h0, .inr (ci, fs)) :: ws) cs sl := by
  obtain ⟨p, l, e, R, s, m, args, below, meth, c, ls, A, Q⟩ := k
  obtain ⟨gx, gb, gm, go, gt, gK, gn, gr, gl, gi, gR, hll, gA⟩ := g
  intro H locs hP hD hS
  subst gR
  cases hf : (T kf).2.2.2 with
  | true => exact va_putF gx gb gt hu tys hty hnm go gK hP hD hS 0 rfl hc kf hk (gt _ hlk) (fun x9 h9 => by rw [hown] at h9; exact h9) hf gi hown hd hn hfit hl d (fun H1 locs1 hP1 hD1 hS1 => h H1 locs1 hP1 hD1 hS1)
  | false => exact va_put gx gb gt hu tys hty hnm go gK hP hD hS 0 rfl hc kf hk (gt _ hlk) (fun x9 h9 => by rw [hown] at h9; exact h9) hf hd hn hfit hl d (fun H1 locs1 hP1 hD1 hS1 => h H1 locs1 hP1 hD1 hS1)
theorem cn_get (g : cn_G D cI cZ k cc own h0 rm) {index ci kf N : Nat} {T : u_T} {fs : List Value} {v : Value} (d : decode cc pc = .ok (.getfield index, 3)) (hu : ∀ x ∈ u_ws own T N, x ∈ qwg) (hlk : Cond.fieldLink own index own (T kf).2.1 (T kf).2.2.1 ∈ qwg) (hc : qcl[ci]? = some (own, T, N)) (hk : kf < N) (hown : (T kf).1 = own) (hv : fs[kf]? = some v) (h : cn_E D k (pc + 3) (v :: st) ((h0, .inr (ci, fs)) :: ws) cs sl) : cn_E D k pc (.ref h0 :: st) ((h0, .inr (ci, fs)) :: ws) cs sl := by
  obtain ⟨p, l, e, R, s, m, args, below, meth, c, ls, A, Q⟩ := k
  obtain ⟨gx, gb, gm, go, gt, gK, gn, gr, gl, gi, gR, hll, gA⟩ := g
  intro H locs hP hD hS
  exact va_get gx gb gt hu go gK hP 0 rfl hc kf hk (gt _ hlk) (fun x9 h9 => by rw [hown] at h9; exact h9) hv d (h H locs hP hD hS)
theorem cn_eq {ws' : va_W} (e : ws = ws') (h : cn_E D k pc st ws' cs sl) : cn_E D k pc st ws cs sl := by rw [e]; exact h
/-- a call of another constructor, on the object made last -/
theorem cn_call (g : cn_G D cI cZ k cc own h0 rm) {index maxL q mc ms : Nat} {y : MethodName} {bytes : ByteArray} {wsC : List Cond} {rmC : Room} {e0 : va_E} {post : Nat → (Nat → Nat) → va_W} (d : decode cc pc = .ok (.invokespecial index, 3)) (hM : cn_M D cI cZ k.2.1 y wsC rmC e0 mc ms post) (hC : ew_CB qS own qwg index y bytes maxL none wsC 0) (hy : y.name = "<init>") (hin : Cond.instanceMethod y ∈ qwg) (hR : rmC.cells = mc ∧ rmC.slots = ms ∧ rmC.frames + 1 ≤ rm.frames ∧ 8 + (maxL + 11) + rmC.locals ≤ rm.locals) (hf : cs + mc ≤ rm.cells ∧ sl + ms ≤ rm.slots) (hq : (st.map fun v => v.category).sum ≤ 8) (h : ∀ ad, cn_E D k (pc + 3) st (ws ++ post q ad) (cs + mc) (sl + ms)) : cn_E D k pc (.ref q :: st) (ws ++ [(q, e0)]) cs sl := by
  obtain ⟨p, l, e, R, s, m, args, below, meth, c, ls, A, Q⟩ := k
  obtain ⟨gx, gb, gm, go, gt, gK, gn, gr, gl, gi, gR, hll, gA⟩ := g
  intro H locs hP hD hS
  subst gR
  obtain ⟨⟨ws', hw⟩, hG, hini, hlk, hy1, hy2, hpar⟩ := hC
  obtain ⟨r1, r2, r3, r4⟩ := hR
  have hlast : (ws ++ [(q, e0)])[ws.length]? = some (q, e0) := by simp
  have hold : ∀ (i : Nat) (x : Nat × va_E), ws[i]? = some x → (ws ++ [(q, e0)])[i]? = some x := fun i x hx => by
    rw [List.getElem?_append_left (List.getElem?_eq_some_iff.mp hx).1]
    exact hx
  have hPc : va_P D qcl [(q, e0)] H := fun i x hx => by
    have hz : i < 1 := (List.getElem?_eq_some_iff.mp hx).1
    rw [show i = 0 by omega] at hx
    cases hx
    exact hP ws.length _ hlast
  have hAq : A q := hD.2 ws.length _ hlast
  have hFc : ∀ x, va_A [(q, e0)] H.size x → A x := fun x hx => by
    rcases A_one hx with rfl | h
    · exact hAq
    · exact gA _ (Nat.le_trans hS.1 h)
  have hpre : PreS s H (va_Pc [.ref q] (fun U => U.heap.size = H.size ∧ va_P D qcl [(q, e0)] U.heap ∧ va_K D qcl (cn_ty cI cZ) U ∧ ∀ x ∈ qnw, va_Nw x U)) (.ref q :: []) := ⟨fun a U g mk z => ⟨z.1, z.2.1, z.2.2.1, va_K.moved (u := U) (U := U.calling g mk a) (Vm.Alike.refl U.vm) z.2.2.2.1, nw_same z.2.2.2.2 rfl⟩, fun U hU hW => ⟨rfl, by rw [hU], by rw [hU]; exact hPc, va_K.moved hW.alike gK, nw_go gn hW⟩⟩
  have hfin : ∀ (u : Nat → Nat) (t : State) (H1 : Heap) (locs1 : List Loc), t.heap = H1 → s.vm.Alike t.vm → True → (va_P D qcl (post q u) t.heap ∧ va_D (va_A [(q, e0)] H.size) (post q u)) → H.size ≤ H1.size → (∀ x : Nat, x < H.size → ¬ va_A [(q, e0)] H.size x → H1[x]? = H[x]?) → va_S A s.heap H1 locs1 → W p l e R s m args below meth c H1 locs1 (cs + mc) (sl + ms) Q (F0 m (pc + 3) ls st) := by
    intro u t H1 locs1 ht _ _ hB hz hk hS1
    obtain ⟨hP1, hD1⟩ := hB
    rw [ht] at hP1
    have hsep : ∀ (i : Nat) (x : Nat × va_E), ws[i]? = some x → x.1 < H.size ∧ x.1 ≠ q := fun i x hx => by
      refine ⟨(hP i x (hold i x hx)).lt, fun z => ?_⟩
      have := hD.1 i ws.length x (q, e0) (hold i x hx) hlast z
      have := (List.getElem?_eq_some_iff.mp hx).1
      omega
    have hPw : va_P D qcl ws H := fun i x hx => hP i x (hold i x hx)
    refine h u H1 locs1 ((hPw.kept fun i x hx => hk _ (hsep i x hx).1 (fun z => ?_)).app hP1) (va_D.app ⟨fun i j x y hx hy e => hD.1 i j x y (hold i x hx) (hold j y hy) e, fun i x hx => hD.2 i x (hold i x hx)⟩ (hD1.weaken (fun _ x _ hx => hFc _ hx)) (fun i j x y hx hy e => ?_)) hS1
    · obtain ⟨z1, z2⟩ := hsep i x hx
      rcases A_one z with z | z
      · exact z2 z
      · omega
    · obtain ⟨z1, z2⟩ := hsep i x hx
      have z := A_one (hD1.2 j y hy)
      rw [← e] at z
      rcases z with z | z
      · exact z2 z
      · omega
  rcases hlk with hlk | ⟨host, hlk⟩
  · exact va_callv (va_runI (As := []) (rest := st) ⟨gx, gb, gm, go, gt⟩ (hM q H.size) ⟨callB_of 0 gt hG hw r1 r2 (gt _ hini) (gt _ hlk) ⟨hy1, hy2, hpar⟩ ⟨r3, r4⟩, hy, gt _ hin⟩ hpre rfl rfl hll.1 rfl (lv_room hq) d hf) hS (fun x _ hx => hFc x hx) hFc hfin
  · exact va_callv (va_runIN (As := []) (rest := st) ⟨gx, gb, gm, go, gt⟩ (hM q H.size) ⟨va_cnB 0 gt hG hw r1 r2 (gn _ hlk) (gt _ hini) ⟨hy1, hy2, hpar⟩ ⟨r3, r4⟩, hy, gt _ hin⟩ hpre rfl rfl hll.1 rfl (lv_room hq) d hf) hS (fun x _ hx => hFc x hx) hFc hfin
end CN
