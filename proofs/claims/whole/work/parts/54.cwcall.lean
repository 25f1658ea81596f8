theorem cw_call {p : Program} {l : Launch} {e : Env} {R : Room} {s : State} {m : MethodId} {args : Array Value} {below : List Frame} {meth : Method} {c : Code} {H : Heap} {locs : List Loc} {cs sl : Nat} {Q : State → Prop} {A : Nat → Prop} {pc nL : Nat} {ls : Array Slot} {st : List Value} {ws : va_W} {D : va_G} {cI cZ : ClassId} {cc : ByteArray} {own : String} (gx : p.tables.exec = Jvm.exec) (gb : c.code = cc) (gm : c.maxLocals = nL) (go : s.vm.findClass own = some m.cls) (gt : ∀ x ∈ qwg, x.before args s = true) (gK : va_K D qcl (cn_ty cI cZ) s) (gn : ∀ x ∈ qnw, va_Nw x s) (gA : ∀ q, s.heap.size ≤ q → A q) (hsz : ls.size = nL) {index maxL q mc ms : Nat} {y : MethodName} {bytes : ByteArray} {wsC : List Cond} {rmC : Room} {e0 : va_E} {post : Nat → (Nat → Nat) → va_W} (d : decode cc pc = .ok (.invokespecial index, 3)) (hM : cn_M D cI cZ l y wsC rmC e0 mc ms post) (hC : ew_CB qS own qwg index y bytes maxL none wsC 0) (hy : y.name = "<init>") (hin : Cond.instanceMethod y ∈ qwg) (hR : rmC.cells = mc ∧ rmC.slots = ms ∧ rmC.frames + 1 ≤ R.frames ∧ 8 + (maxL + 11) + rmC.locals ≤ R.locals) (hf : cs + mc ≤ R.cells ∧ sl + ms ≤ R.slots) (hq : (st.map fun v => v.category).sum ≤ 8) (hP : va_P D qcl (ws ++ [(q, e0)]) H) (hD : va_D A (ws ++ [(q, e0)])) (hS : va_S A s.heap H locs) (kk : ∀ (ad : Nat → Nat) (H1 : Heap) (locs1 : List Loc), va_P D qcl (ws ++ post q ad) H1 → va_D A (ws ++ post q ad) → va_S A s.heap H1 locs1 → W p l e R s m args below meth c H1 locs1 (cs + mc) (sl + ms) Q (F0 m (pc + 3) ls st)) : W p l e R s m args below meth c H locs cs sl Q (F0 m pc ls (.ref q :: st)) := by
  obtain ⟨⟨ws', hw⟩, hG, hini, hlk, hy1, hy2, hpar⟩ := hC
  obtain ⟨r1, r2, r3, r4⟩ := hR
  have hlast : (ws ++ [(q, e0)])[ws.length]? = some (q, e0) := by simp
  have hold : ∀ (i : Nat) (x : Nat × va_E), ws[i]? = some x → (ws ++ [(q, e0)])[i]? = some x := fun i x hx => by
    rw [List.getElem?_append_left (List.getElem?_eq_some_iff.mp hx).1]
    exact hx
  have hPc : va_P D qcl [(q, e0)] H := fun i x hx => by
    have hz : i < 1 := (List.getElem?_eq_some_iff.mp hx).1
    rw [show i = 0 by omega] at hx
    cases hx
    exact hP ws.length _ hlast
  have hAq : A q := hD.2 ws.length _ hlast
  have hFc : ∀ x, va_A [(q, e0)] H.size x → A x := fun x hx => by
    rcases A_one hx with rfl | h
    · exact hAq
    · exact gA _ (Nat.le_trans hS.1 h)
  have hpre : PreS s H (va_Pc [.ref q] (fun U => U.heap.size = H.size ∧ va_P D qcl [(q, e0)] U.heap ∧ va_K D qcl (cn_ty cI cZ) U ∧ ∀ x ∈ qnw, va_Nw x U)) (.ref q :: []) := ⟨fun a U g mk z => ⟨z.1, z.2.1, z.2.2.1, va_K.moved (u := U) (U := U.calling g mk a) (Vm.Alike.refl U.vm) z.2.2.2.1, nw_same z.2.2.2.2 rfl⟩, fun U hU hW => ⟨rfl, by rw [hU], by rw [hU]; exact hPc, va_K.moved hW.alike gK, nw_go gn hW⟩⟩
  have hfin : ∀ (u : Nat → Nat) (t : State) (H1 : Heap) (locs1 : List Loc), t.heap = H1 → s.vm.Alike t.vm → True → (va_P D qcl (post q u) t.heap ∧ va_D (va_A [(q, e0)] H.size) (post q u)) → H.size ≤ H1.size → (∀ x : Nat, x < H.size → ¬ va_A [(q, e0)] H.size x → H1[x]? = H[x]?) → va_S A s.heap H1 locs1 → W p l e R s m args below meth c H1 locs1 (cs + mc) (sl + ms) Q (F0 m (pc + 3) ls st) := by
    intro u t H1 locs1 ht _ _ hB hz hk hS1
    obtain ⟨hP1, hD1⟩ := hB
    rw [ht] at hP1
    have hsep : ∀ (i : Nat) (x : Nat × va_E), ws[i]? = some x → x.1 < H.size ∧ x.1 ≠ q := fun i x hx => by
      refine ⟨(hP i x (hold i x hx)).lt, fun z => ?_⟩
      have := hD.1 i ws.length x (q, e0) (hold i x hx) hlast z
      have := (List.getElem?_eq_some_iff.mp hx).1
      omega
    have hPw : va_P D qcl ws H := fun i x hx => hP i x (hold i x hx)
    refine kk u H1 locs1 ((hPw.kept fun i x hx => hk _ (hsep i x hx).1 (fun z => ?_)).app hP1) (va_D.app ⟨fun i j x y hx hy e => hD.1 i j x y (hold i x hx) (hold j y hy) e, fun i x hx => hD.2 i x (hold i x hx)⟩ (hD1.weaken (fun _ x _ hx => hFc _ hx)) (fun i j x y hx hy e => ?_)) hS1
    · obtain ⟨z1, z2⟩ := hsep i x hx
      rcases A_one z with z | z
      · exact z2 z
      · omega
    · obtain ⟨z1, z2⟩ := hsep i x hx
      have z := A_one (hD1.2 j y hy)
      rw [← e] at z
      rcases z with z | z
      · exact z2 z
      · omega
  rcases hlk with hlk | ⟨host, hlk⟩
  · exact va_callv (va_runI (As := []) (rest := st) ⟨gx, gb, gm, go, gt⟩ (hM q H.size) ⟨callB_of 0 gt hG hw r1 r2 (gt _ hini) (gt _ hlk) ⟨hy1, hy2, hpar⟩ ⟨r3, r4⟩, hy, gt _ hin⟩ hpre rfl rfl hsz rfl (lv_room hq) d hf) hS (fun x _ hx => hFc x hx) hFc hfin
  · exact va_callv (va_runIN (As := []) (rest := st) ⟨gx, gb, gm, go, gt⟩ (hM q H.size) ⟨va_cnB 0 gt hG hw r1 r2 (gn _ hlk) (gt _ hini) ⟨hy1, hy2, hpar⟩ ⟨r3, r4⟩, hy, gt _ hin⟩ hpre rfl rfl hsz rfl (lv_room hq) d hf) hS (fun x _ hx => hFc x hx) hFc hfin
