/-! The small world: every object has a number; an int field or array element is sg o i; references are object numbers. -/
abbrev MV : Type := Int32 ⊕ Nat
abbrev SG : Type := Nat → Nat → Int32
abbrev LY : Type := Nat → (Bool × Nat) ⊕ (Nat × List (Option Nat))
abbrev STB : Type := List (String × String × String × Nat × (Nat → Int32))
abbrev SD : Type := List vw_C × LY × Nat × List Cond × STB
abbrev WC : Type := va_G × ClassId × ClassId × (Nat → Nat)
abbrev KX : Type := Program × Launch × Env × Room × State × MethodId × Array Value × List Frame × Method × Code × (Nat → Prop) × Nat × Nat × (State → Prop)
def mvV (ad : Nat → Nat) (v : MV) : Value := match v with
  | .inl i => .int i
  | .inr o => .ref (ad o)
def ew_fv (ad : Nat → Nat) (sg : SG) (o : Nat) (k : Nat) (f : Option Nat) : Value := match f with
  | none => .int (sg o k)
  | some q => .ref (ad q)
def ew_c (S : SD) (w : WC) (sg : SG) (o : Nat) : va_E := match S.2.1 o with
  | .inl (z, n) => .inl (if z = true then w.2.2.1 else w.2.1, n, .inl (sg o))
  | .inr (ci, fl) => .inr (ci, fl.mapIdx (ew_fv w.2.2.2 sg o))
def ew_ws (S : SD) (w : WC) (sg : SG) : va_W := (List.range S.2.2.1).map (fun o => (w.2.2.2 o, ew_c S w sg o))
def ew_ty (w : WC) : List (ClassId × FieldType) := [(w.2.1, .int), (w.2.2.1, .boolean)]
def ew_A (S : SD) (w : WC) (sz : Nat) : Nat → Prop := fun q => (∃ o, o < S.2.2.1 ∧ q = w.2.2.2 o) ∨ sz ≤ q
def ew_inj (S : SD) (w : WC) : Prop := ∀ i j, i < S.2.2.1 → j < S.2.2.1 → w.2.2.2 i = w.2.2.2 j → i = j
def ew_nw (S : SD) (U : State) : Prop := ∀ x ∈ S.2.2.2.1, va_Nw x U
/-- the words of nest mates, of the two kinds that a warmed table keeps -/
def ew_nk (S : SD) : Prop := ∀ x ∈ S.2.2.2.1, (∃ a i b n d h, x = Cond.fieldLinkNest a i b n d h) ∨ ∃ a i y h, x = Cond.methodLinkNest a i y h
def ew_st (S : SD) (w : WC) (A : Nat → Prop) (U : State) (H : Heap) : Prop := ∀ (j : Nat) (q : String × String × String × Nat × (Nat → Int32)), S.2.2.2.2[j]? = some q → va_Z q.1 q.2.1 q.2.2.1 (.ref (w.2.2.2 (1000 + j))) A U H ∧ va_T .int (w.2.2.2 (1000 + j)) q.2.2.2.1 (fun i => .int (q.2.2.2.2 i)) A U H
def ew_W (S : SD) (w : WC) (sg : SG) (U : State) : Prop := va_P w.1 S.1 (ew_ws S w sg) U.heap ∧ va_K w.1 S.1 (ew_ty w) U ∧ ew_inj S w ∧ ew_nw S U ∧ ew_st S w (ew_A S w U.heap.size) U U.heap
def ew_Q (S : SD) (w : WC) (post : Option MV → SG → Prop) (sz : Nat) : Array Value → State → Outcome → State → Prop := fun _ st oc t => (∃ (v : Option MV) (sg : SG), oc = .returned (v.map (mvV w.2.2.2)) ∧ post v sg ∧ ew_W S w sg t) ∧ va_F (ew_A S w sz) st t
/-- a method's contract in the small world -/
def ew_M (S : SD) (w : WC) (l : Launch) (y : MethodName) (ws : List Cond) (rm : Room) (args : List MV) (sg : SG) (post : Option MV → SG → Prop) : Prop := ∀ sz : Nat, Met l y ws rm (va_Pc (args.map (mvV w.2.2.2)) (fun U => U.heap.size = sz ∧ ew_W S w sg U)) (ew_Q S w post sz) 0 0 (ew_A S w sz)
def ew_L (ad : Nat → Nat) (ls : Array Slot) (nL : Nat) (lv : List (Option MV)) : Prop := ls.size = nL ∧ lv.length = nL ∧ lv_wf ls ∧ ∀ (i : Nat) (v : MV), lv[i]? = some (some v) → ls[i]? = some (.val (mvV ad v))
/-- the machine at pc, with lv, operands st, world sg comes to its end -/
def ew_E (S : SD) (w : WC) (nL : Nat) (k : KX) (pc : Nat) (lv : List (Option MV)) (st : List MV) (sg : SG) : Prop := match k with
  | (p, l, e, R, s, m, args, below, meth, c, A, cs, sl, Q) => ∀ (H : Heap) (locs : List Loc) (ls : Array Slot), ew_L w.2.2.2 ls nL lv → va_P w.1 S.1 (ew_ws S w sg) H → va_S A s.heap H locs → W p l e R s m args below meth c H locs cs sl Q (F0 m pc ls (st.map (mvV w.2.2.2)))
def ew_G (S : SD) (w : WC) (nL : Nat) (k : KX) (cc : ByteArray) (own : String) (Ts : List Cond) (ret : Option FieldType) (rm : Room) : Prop := match k with
  | (p, _, _, R, s, m, args, _, meth, c, A, cs, sl, _) => p.tables.exec = Jvm.exec ∧ c.code = cc ∧ c.maxLocals = nL ∧ s.vm.findClass own = some m.cls ∧ (∀ w ∈ Ts, w.before args s = true) ∧ va_K w.1 S.1 (ew_ty w) s ∧ ew_inj S w ∧ ew_nw S s ∧ ew_st S w A s s.heap ∧ meth.sig.returnType = ret ∧ meth.locks = false ∧ R = rm ∧ ew_nk S ∧ (∀ o, o < S.2.2.1 → A (w.2.2.2 o)) ∧ (∀ q, s.heap.size ≤ q → A q) ∧ cs ≤ R.cells ∧ sl ≤ R.slots
/-- the end is a method's own, with post -/
def ew_P (S : SD) (w : WC) (k : KX) (post : Option MV → SG → Prop) : Prop := match k with
  | (_, _, _, _, s, _, args, below, _, _, A, cs, sl, Q) => A = ew_A S w s.heap.size ∧ cs = 0 ∧ sl = 0 ∧ Q = MQ below (ew_Q S w post s.heap.size) args s 0 0 (ew_A S w s.heap.size)
def sup (sg : SG) (o i : Nat) (x : Int32) : SG := fun q => if q = o then upd (sg o) i x else sg q
theorem sup_s {sg : SG} {o i : Nat} {x : Int32} : sup sg o i x o = upd (sg o) i x := if_pos rfl
theorem sup_n {sg : SG} {o i q : Nat} {x : Int32} (h : q ≠ o) : sup sg o i x q = sg q := if_neg h
theorem ew_ws_at (S : SD) (w : WC) (sg : SG) {o : Nat} (h : o < S.2.2.1) : (ew_ws S w sg)[o]? = some (w.2.2.2 o, ew_c S w sg o) := by
  simp [ew_ws, List.getElem?_range, h]
theorem ew_ws_inv {S : SD} {w : WC} {sg : SG} {o : Nat} {q : Nat × va_E} (h : (ew_ws S w sg)[o]? = some q) : o < S.2.2.1 ∧ q = (w.2.2.2 o, ew_c S w sg o) := by
  have hl : o < S.2.2.1 := by
    have := (List.getElem?_eq_some_iff.mp h).1
    simpa [ew_ws] using this
  refine ⟨hl, ?_⟩
  rw [ew_ws_at S w sg hl] at h
  exact (Option.some.inj h).symm
theorem ew_D {S : SD} {w : WC} {A : Nat → Prop} (hi : ew_inj S w) (hA : ∀ o, o < S.2.2.1 → A (w.2.2.2 o)) (sg : SG) : va_D A (ew_ws S w sg) := by
  refine ⟨fun i j p q hp hq e => ?_, fun k q hk => ?_⟩
  · obtain ⟨h1, rfl⟩ := ew_ws_inv hp
    obtain ⟨h2, rfl⟩ := ew_ws_inv hq
    exact hi i j h1 h2 e
  · obtain ⟨h1, rfl⟩ := ew_ws_inv hk
    exact hA k h1
theorem ew_c_other {S : SD} {w : WC} {sg sg' : SG} {o : Nat} (h : sg' o = sg o) : ew_c S w sg' o = ew_c S w sg o := by
  unfold ew_c
  rcases S.2.1 o with ⟨z, n⟩ | ⟨ci, fl⟩
  · simp only [h]
  · simp only []
    congr 2
    have : ew_fv w.2.2.2 sg' o = ew_fv w.2.2.2 sg o := by
      funext k f
      cases f <;> simp [ew_fv, h]
    rw [this]
theorem ew_ws_set {S : SD} {w : WC} {sg : SG} {o i : Nat} {x : Int32} (_h : o < S.2.2.1) : (ew_ws S w sg).set o (w.2.2.2 o, ew_c S w (sup sg o i x) o) = ew_ws S w (sup sg o i x) := by
  refine List.ext_getElem? (fun j => ?_)
  rw [List.getElem?_set]
  by_cases hj : o = j
  · subst hj
    simp only [if_true]
    have hl : o < (ew_ws S w sg).length := by simpa [ew_ws] using _h
    rw [if_pos hl, ew_ws_at S w _ _h]
  · rw [if_neg hj]
    by_cases hl : j < S.2.2.1
    · rw [ew_ws_at S w sg hl, ew_ws_at S w _ hl, ew_c_other (sg' := sup sg o i x) (sg := sg) (sup_n (fun q => hj q.symm))]
    · simp [ew_ws, List.getElem?_range, hl]
theorem ew_c_arr {S : SD} {w : WC} {sg : SG} {o n : Nat} {z : Bool} (h : S.2.1 o = .inl (z, n)) : ew_c S w sg o = .inl (if z = true then w.2.2.1 else w.2.1, n, .inl (sg o)) := by
  unfold ew_c; rw [h]
theorem ew_c_obj {S : SD} {w : WC} {sg : SG} {o ci : Nat} {fl : List (Option Nat)} (h : S.2.1 o = .inr (ci, fl)) : ew_c S w sg o = .inr (ci, fl.mapIdx (ew_fv w.2.2.2 sg o)) := by
  unfold ew_c; rw [h]
theorem mv_cat (ad : Nat → Nat) (v : MV) : (mvV ad v).category = 1 := by cases v <;> rfl
theorem mv_sum (ad : Nat → Nat) (l : List MV) : ((l.map (mvV ad)).map fun v => v.category).sum = l.length := by
  induction l with
  | nil => rfl
  | cons a l ih => simp only [List.map_cons, List.sum_cons, mv_cat, ih, List.length_cons]; omega
def ew_pl (ad : Nat → Nat) (lv : List (Option MV)) : List (Nat × Value) := (List.range lv.length).filterMap (fun i => match lv[i]? with
  | some (some v) => some (i, mvV ad v)
  | _ => none)
theorem ew_pl_mem {ad : Nat → Nat} {lv : List (Option MV)} {i : Nat} {v : MV} (h : lv[i]? = some (some v)) : (i, mvV ad v) ∈ ew_pl ad lv := by
  refine List.mem_filterMap.mpr ⟨i, List.mem_range.mpr (List.getElem?_eq_some_iff.mp h).1, ?_⟩
  rw [h]
theorem ew_pl_inv {ad : Nat → Nat} {lv : List (Option MV)} {q : Nat × Value} (h : q ∈ ew_pl ad lv) : ∃ v, lv[q.1]? = some (some v) ∧ q.2 = mvV ad v := by
  obtain ⟨i, -, h⟩ := List.mem_filterMap.mp h
  split at h
  next v hv => cases h; exact ⟨v, hv, rfl⟩
  next => cases h
theorem ew_L.has {ad : Nat → Nat} {ls : Array Slot} {nL : Nat} {lv : List (Option MV)} (h : ew_L ad ls nL lv) : lv_has ls nL (ew_pl ad lv) := ⟨h.1, h.2.2.1, fun q hq => by
  obtain ⟨v, h1, h2⟩ := ew_pl_inv hq
  rw [h2]
  exact h.2.2.2 _ _ h1⟩
theorem ew_L.back {ad : Nat → Nat} {ls ls' : Array Slot} {nL i : Nat} {lv : List (Option MV)} {x : MV} (h0 : ew_L ad ls nL lv) (hi : i < nL) (h : lv_has ls' nL ((i, mvV ad x) :: (ew_pl ad lv).filter (fun q => !(q.1 == i) && !(q.1 + 1 == i && q.2.category == 2)))) : ew_L ad ls' nL (lv.set i (some x)) := by
  refine ⟨h.1, by rw [List.length_set]; exact h0.2.1, h.2.1, fun j v hj => ?_⟩
  rw [List.getElem?_set] at hj
  by_cases e : i = j
  · subst e
    rw [if_pos rfl, if_pos (by rw [h0.2.1]; exact hi)] at hj
    cases hj
    exact h.2.2 (i, mvV ad x) List.mem_cons_self
  · rw [if_neg e] at hj
    refine h.2.2 (j, mvV ad v) (List.mem_cons_of_mem _ (List.mem_filter.mpr ⟨ew_pl_mem hj, ?_⟩))
    simp [Ne.symm e, mv_cat]
theorem ew_stat_go {S : SD} {w : WC} {A B : Nat → Prop} {s U : State} {H : Heap} (h : ew_st S w A s s.heap) (hW : s.vm.Alike U.vm) (hk : ∀ a : Nat, a < s.heap.size → ¬ A a → H[a]? = s.heap[a]?) (hAB : ∀ q, B q → A q) : ew_st S w B U H := by
  intro j q hq
  obtain ⟨h1, h2⟩ := h j q hq
  exact ⟨((va_Z.moved hW h1).kept hk).narrow hAB, ((va_T.moved hW h2).kept hk).narrow hAB⟩
theorem ew_nw_go {S : SD} {s U : State} (hk : ew_nk S) (h : ew_nw S s) (hW : s.WarmedH U.vm) : ew_nw S U := by
  intro x hx
  rcases hk x hx with ⟨a, i, b, n, d, hh, rfl⟩ | ⟨a, i, y, hh, rfl⟩
  · exact va_Nw.warmF hW (h _ hx)
  · exact va_Nw.warmM hW (h _ hx)
theorem ew_nw_same {S : SD} {s U : State} (hk : ew_nk S) (h : ew_nw S s) (e : s.vm = U.vm) : ew_nw S U := by
  intro x hx
  rcases hk x hx with ⟨a, i, b, n, d, hh, rfl⟩ | ⟨a, i, y, hh, rfl⟩
  · exact va_Nw.same rfl e (h _ hx)
  · exact va_Nw.same rfl e (h _ hx)
theorem ew_A_mono {S : SD} {w : WC} {a b : Nat} (h : a ≤ b) : ∀ q, ew_A S w b q → ew_A S w a q := by
  intro q hq
  rcases hq with h1 | h1
  · exact Or.inl h1
  · exact Or.inr (Nat.le_trans h h1)
theorem ew_A_in {S : SD} {w : WC} {A : Nat → Prop} {a b : Nat} (hA : ∀ o, o < S.2.2.1 → A (w.2.2.2 o)) (hh : ∀ q, a ≤ q → A q) (h : a ≤ b) : ∀ q, ew_A S w b q → A q := by
  intro q hq
  rcases hq with ⟨o, ho, rfl⟩ | h1
  · exact hA o ho
  · exact hh q (Nat.le_trans h h1)
/-- the world of a later state of the same tables -/
theorem ew_W_of {S : SD} {w : WC} {sg : SG} {A : Nat → Prop} {s U : State} {H : Heap} {locs : List Loc} (hk : ew_nk S) (hA : ∀ o, o < S.2.2.1 → A (w.2.2.2 o)) (hh : ∀ q, s.heap.size ≤ q → A q) (hP : va_P w.1 S.1 (ew_ws S w sg) H) (hK : va_K w.1 S.1 (ew_ty w) s) (hi : ew_inj S w) (hn : ew_nw S s) (ht : ew_st S w A s s.heap) (hS : va_S A s.heap H locs) (hU : U.heap = H) (hW : s.WarmedH U.vm) : ew_W S w sg U := by
  refine ⟨by rw [hU]; exact hP, va_K.moved hW.alike hK, hi, ew_nw_go hk hn hW, ?_⟩
  rw [hU]
  exact ew_stat_go ht hW.alike hS.2.1 (ew_A_in hA hh hS.1)
theorem ew_blind {S : SD} {w : WC} {sg : SG} {U : State} (hk : ew_nk S) (g : JFrame) (mk : MethodId) (a : Array Value) (h : ew_W S w sg U) : ew_W S w sg (U.calling g mk a) := by
  obtain ⟨h1, h2, h3, h4, h5⟩ := h
  refine ⟨h1, va_K.moved (u := U) (U := U.calling g mk a) (Vm.Alike.refl U.vm) h2, h3, ew_nw_same hk h4 rfl, ?_⟩
  exact ew_stat_go (U := U.calling g mk a) h5 (Vm.Alike.refl U.vm) (fun _ _ _ => rfl) (fun _ h => h)
section EW
variable {S : SD} {w : WC} {nL : Nat} {k : KX} {cc : ByteArray} {own : String} {Ts : List Cond} {ret : Option FieldType} {rm : Room} {post : Option MV → SG → Prop} {pc : Nat} {lv : List (Option MV)} {st : List MV} {sg : SG}
theorem ew_iconst (g : ew_G S w nL k cc own Ts ret rm) {n : Int} {v : Int32} (d : decode cc pc = .ok (.iconst n, 1)) (hv : Int32.ofInt n = v) (h : ew_E S w nL k (pc + 1) lv (.inl v :: st) sg) : ew_E S w nL k pc lv st sg := by
  obtain ⟨p, l, e, R, s, m, args, below, meth, c, A, cs, sl, Q⟩ := k
  intro H locs ls hl hP hS
  exact lv_iconst g.1 g.2.1 d hv (h H locs ls hl hP hS)
theorem ew_bipush (g : ew_G S w nL k cc own Ts ret rm) {n : Int} {v : Int32} (d : decode cc pc = .ok (.bipush n, 2)) (hv : (Int8.ofInt n).toInt32 = v) (h : ew_E S w nL k (pc + 2) lv (.inl v :: st) sg) : ew_E S w nL k pc lv st sg := by
  obtain ⟨p, l, e, R, s, m, args, below, meth, c, A, cs, sl, Q⟩ := k
  intro H locs ls hl hP hS
  exact lv_bipush g.1 g.2.1 d hv (h H locs ls hl hP hS)
theorem ew_sipush (g : ew_G S w nL k cc own Ts ret rm) {n : Int} {v : Int32} (d : decode cc pc = .ok (.sipush n, 3)) (hv : (Int16.ofInt n).toInt32 = v) (h : ew_E S w nL k (pc + 3) lv (.inl v :: st) sg) : ew_E S w nL k pc lv st sg := by
  obtain ⟨p, l, e, R, s, m, args, below, meth, c, A, cs, sl, Q⟩ := k
  intro H locs ls hl hP hS
  exact lv_sipush g.1 g.2.1 d hv (h H locs ls hl hP hS)
theorem ew_iload_n (g : ew_G S w nL k cc own Ts ret rm) {i : Fin 4} {x : Int32} (d : decode cc pc = .ok (.iload_n i, 1)) (hx : lv[(i : Nat)]? = some (some (.inl x))) (h : ew_E S w nL k (pc + 1) lv (.inl x :: st) sg) : ew_E S w nL k pc lv st sg := by
  obtain ⟨p, l, e, R, s, m, args, below, meth, c, A, cs, sl, Q⟩ := k
  intro H locs ls hl hP hS
  exact lv_iload_n g.1 g.2.1 d rfl (hl.2.2.2 _ _ hx) (h H locs ls hl hP hS)
theorem ew_iload (g : ew_G S w nL k cc own Ts ret rm) {i : Nat} {x : Int32} (d : decode cc pc = .ok (.iload i, 2)) (hx : lv[i]? = some (some (.inl x))) (h : ew_E S w nL k (pc + 2) lv (.inl x :: st) sg) : ew_E S w nL k pc lv st sg := by
  obtain ⟨p, l, e, R, s, m, args, below, meth, c, A, cs, sl, Q⟩ := k
  intro H locs ls hl hP hS
  exact lv_iload g.1 g.2.1 d (hl.2.2.2 _ _ hx) (h H locs ls hl hP hS)
theorem ew_aload_n (g : ew_G S w nL k cc own Ts ret rm) {i : Fin 4} {o : Nat} (d : decode cc pc = .ok (.aload_n i, 1)) (hx : lv[(i : Nat)]? = some (some (.inr o))) (h : ew_E S w nL k (pc + 1) lv (.inr o :: st) sg) : ew_E S w nL k pc lv st sg := by
  obtain ⟨p, l, e, R, s, m, args, below, meth, c, A, cs, sl, Q⟩ := k
  intro H locs ls hl hP hS
  exact lv_aload_n g.1 g.2.1 d rfl (hl.2.2.2 _ _ hx) (h H locs ls hl hP hS)
theorem ew_aload (g : ew_G S w nL k cc own Ts ret rm) {i : Nat} {o : Nat} (d : decode cc pc = .ok (.aload i, 2)) (hx : lv[i]? = some (some (.inr o))) (h : ew_E S w nL k (pc + 2) lv (.inr o :: st) sg) : ew_E S w nL k pc lv st sg := by
  obtain ⟨p, l, e, R, s, m, args, below, meth, c, A, cs, sl, Q⟩ := k
  intro H locs ls hl hP hS
  exact lv_aload g.1 g.2.1 d (hl.2.2.2 _ _ hx) (h H locs ls hl hP hS)
theorem ew_istore_n (g : ew_G S w nL k cc own Ts ret rm) {i : Fin 4} {x : Int32} (d : decode cc pc = .ok (.istore_n i, 1)) (hn : (i : Nat) < nL) (h : ew_E S w nL k (pc + 1) (lv.set (i : Nat) (some (.inl x))) st sg) : ew_E S w nL k pc lv (.inl x :: st) sg := by
  obtain ⟨p, l, e, R, s, m, args, below, meth, c, A, cs, sl, Q⟩ := k
  intro H locs ls hl hP hS
  exact lv_istore_n g.1 g.2.1 d rfl hl.has hn rfl (fun ls' hl' => h H locs ls' (hl.back hn hl') hP hS)
theorem ew_istore (g : ew_G S w nL k cc own Ts ret rm) {i : Nat} {x : Int32} (d : decode cc pc = .ok (.istore i, 2)) (hn : i < nL) (h : ew_E S w nL k (pc + 2) (lv.set i (some (.inl x))) st sg) : ew_E S w nL k pc lv (.inl x :: st) sg := by
  obtain ⟨p, l, e, R, s, m, args, below, meth, c, A, cs, sl, Q⟩ := k
  intro H locs ls hl hP hS
  exact lv_istore g.1 g.2.1 d hl.has hn rfl (fun ls' hl' => h H locs ls' (hl.back hn hl') hP hS)
theorem ew_astore_n (g : ew_G S w nL k cc own Ts ret rm) {i : Fin 4} {x : Nat} (d : decode cc pc = .ok (.astore_n i, 1)) (hn : (i : Nat) < nL) (h : ew_E S w nL k (pc + 1) (lv.set (i : Nat) (some (.inr x))) st sg) : ew_E S w nL k pc lv (.inr x :: st) sg := by
  obtain ⟨p, l, e, R, s, m, args, below, meth, c, A, cs, sl, Q⟩ := k
  intro H locs ls hl hP hS
  exact lv_astore_n g.1 g.2.1 d rfl hl.has hn rfl (fun ls' hl' => h H locs ls' (hl.back hn hl') hP hS)
theorem ew_astore (g : ew_G S w nL k cc own Ts ret rm) {i : Nat} {x : Nat} (d : decode cc pc = .ok (.astore i, 2)) (hn : i < nL) (h : ew_E S w nL k (pc + 2) (lv.set i (some (.inr x))) st sg) : ew_E S w nL k pc lv (.inr x :: st) sg := by
  obtain ⟨p, l, e, R, s, m, args, below, meth, c, A, cs, sl, Q⟩ := k
  intro H locs ls hl hP hS
  exact lv_astore g.1 g.2.1 d hl.has hn rfl (fun ls' hl' => h H locs ls' (hl.back hn hl') hP hS)
theorem ew_iinc (g : ew_G S w nL k cc own Ts ret rm) {i : Nat} {n : Int} {x v : Int32} (d : decode cc pc = .ok (.iinc i n, 3)) (hn : i < nL) (hx : lv[i]? = some (some (.inl x))) (hv : x + Int32.ofInt n = v) (h : ew_E S w nL k (pc + 3) (lv.set i (some (.inl v))) st sg) : ew_E S w nL k pc lv st sg := by
  obtain ⟨p, l, e, R, s, m, args, below, meth, c, A, cs, sl, Q⟩ := k
  intro H locs ls hl hP hS
  obtain ⟨j, hj⟩ := List.getElem?_of_mem (ew_pl_mem (ad := w.2.2.2) hx)
  exact lv_iinc g.1 g.2.1 d hl.has hj hv hn rfl (fun ls' hl' => h H locs ls' (hl.back hn hl') hP hS)
theorem ew_iadd (g : ew_G S w nL k cc own Ts ret rm) {x y : Int32} (d : decode cc pc = .ok (.iadd, 1)) (h : ew_E S w nL k (pc + 1) lv (.inl (x + y) :: st) sg) : ew_E S w nL k pc lv (.inl y :: .inl x :: st) sg := by
  obtain ⟨p, l, e, R, s, m, args, below, meth, c, A, cs, sl, Q⟩ := k
  intro H locs ls hl hP hS
  exact lv_iadd g.1 g.2.1 d (h H locs ls hl hP hS)
theorem ew_isub (g : ew_G S w nL k cc own Ts ret rm) {x y : Int32} (d : decode cc pc = .ok (.isub, 1)) (h : ew_E S w nL k (pc + 1) lv (.inl (x - y) :: st) sg) : ew_E S w nL k pc lv (.inl y :: .inl x :: st) sg := by
  obtain ⟨p, l, e, R, s, m, args, below, meth, c, A, cs, sl, Q⟩ := k
  intro H locs ls hl hP hS
  exact lv_isub g.1 g.2.1 d (h H locs ls hl hP hS)
theorem ew_imul (g : ew_G S w nL k cc own Ts ret rm) {x y : Int32} (d : decode cc pc = .ok (.imul, 1)) (h : ew_E S w nL k (pc + 1) lv (.inl (x * y) :: st) sg) : ew_E S w nL k pc lv (.inl y :: .inl x :: st) sg := by
  obtain ⟨p, l, e, R, s, m, args, below, meth, c, A, cs, sl, Q⟩ := k
  intro H locs ls hl hP hS
  exact lv_imul g.1 g.2.1 d (h H locs ls hl hP hS)
theorem ew_iand (g : ew_G S w nL k cc own Ts ret rm) {x y : Int32} (d : decode cc pc = .ok (.iand, 1)) (h : ew_E S w nL k (pc + 1) lv (.inl (x &&& y) :: st) sg) : ew_E S w nL k pc lv (.inl y :: .inl x :: st) sg := by
  obtain ⟨p, l, e, R, s, m, args, below, meth, c, A, cs, sl, Q⟩ := k
  intro H locs ls hl hP hS
  exact lv_iand g.1 g.2.1 d (h H locs ls hl hP hS)
theorem ew_ior (g : ew_G S w nL k cc own Ts ret rm) {x y : Int32} (d : decode cc pc = .ok (.ior, 1)) (h : ew_E S w nL k (pc + 1) lv (.inl (x ||| y) :: st) sg) : ew_E S w nL k pc lv (.inl y :: .inl x :: st) sg := by
  obtain ⟨p, l, e, R, s, m, args, below, meth, c, A, cs, sl, Q⟩ := k
  intro H locs ls hl hP hS
  exact lv_ior g.1 g.2.1 d (h H locs ls hl hP hS)
theorem ew_ixor (g : ew_G S w nL k cc own Ts ret rm) {x y : Int32} (d : decode cc pc = .ok (.ixor, 1)) (h : ew_E S w nL k (pc + 1) lv (.inl (x ^^^ y) :: st) sg) : ew_E S w nL k pc lv (.inl y :: .inl x :: st) sg := by
  obtain ⟨p, l, e, R, s, m, args, below, meth, c, A, cs, sl, Q⟩ := k
  intro H locs ls hl hP hS
  exact lv_ixor g.1 g.2.1 d (h H locs ls hl hP hS)
theorem ew_ishl (g : ew_G S w nL k cc own Ts ret rm) {x y : Int32} (d : decode cc pc = .ok (.ishl, 1)) (h : ew_E S w nL k (pc + 1) lv (.inl (x <<< (y &&& 31)) :: st) sg) : ew_E S w nL k pc lv (.inl y :: .inl x :: st) sg := by
  obtain ⟨p, l, e, R, s, m, args, below, meth, c, A, cs, sl, Q⟩ := k
  intro H locs ls hl hP hS
  exact lv_ishl g.1 g.2.1 d (h H locs ls hl hP hS)
theorem ew_ishr (g : ew_G S w nL k cc own Ts ret rm) {x y : Int32} (d : decode cc pc = .ok (.ishr, 1)) (h : ew_E S w nL k (pc + 1) lv (.inl (x >>> (y &&& 31)) :: st) sg) : ew_E S w nL k pc lv (.inl y :: .inl x :: st) sg := by
  obtain ⟨p, l, e, R, s, m, args, below, meth, c, A, cs, sl, Q⟩ := k
  intro H locs ls hl hP hS
  exact lv_ishr g.1 g.2.1 d (h H locs ls hl hP hS)
theorem ew_iushr (g : ew_G S w nL k cc own Ts ret rm) {x y v : Int32} (d : decode cc pc = .ok (.iushr, 1)) (hv : (x.toUInt32 >>> (y.toUInt32 &&& Int32.toUInt32 31)).toInt32 = v) (h : ew_E S w nL k (pc + 1) lv (.inl v :: st) sg) : ew_E S w nL k pc lv (.inl y :: .inl x :: st) sg := by
  obtain ⟨p, l, e, R, s, m, args, below, meth, c, A, cs, sl, Q⟩ := k
  intro H locs ls hl hP hS
  exact lv_iushr g.1 g.2.1 d hv (h H locs ls hl hP hS)
theorem ew_idiv (g : ew_G S w nL k cc own Ts ret rm) {x y : Int32} (d : decode cc pc = .ok (.idiv, 1)) (hne : ¬ y = 0) (h : ew_E S w nL k (pc + 1) lv (.inl (x / y) :: st) sg) : ew_E S w nL k pc lv (.inl y :: .inl x :: st) sg := by
  obtain ⟨p, l, e, R, s, m, args, below, meth, c, A, cs, sl, Q⟩ := k
  intro H locs ls hl hP hS
  exact lv_idiv g.1 g.2.1 d hne (h H locs ls hl hP hS)
theorem ew_irem (g : ew_G S w nL k cc own Ts ret rm) {x y : Int32} (d : decode cc pc = .ok (.irem, 1)) (hne : ¬ y = 0) (h : ew_E S w nL k (pc + 1) lv (.inl (x - x / y * y) :: st) sg) : ew_E S w nL k pc lv (.inl y :: .inl x :: st) sg := by
  obtain ⟨p, l, e, R, s, m, args, below, meth, c, A, cs, sl, Q⟩ := k
  intro H locs ls hl hP hS
  exact lv_irem g.1 g.2.1 d hne (h H locs ls hl hP hS)
theorem ew_ineg (g : ew_G S w nL k cc own Ts ret rm) {x : Int32} (d : decode cc pc = .ok (.ineg, 1)) (h : ew_E S w nL k (pc + 1) lv (.inl (-x) :: st) sg) : ew_E S w nL k pc lv (.inl x :: st) sg := by
  obtain ⟨p, l, e, R, s, m, args, below, meth, c, A, cs, sl, Q⟩ := k
  intro H locs ls hl hP hS
  exact lv_ineg g.1 g.2.1 d (h H locs ls hl hP hS)
theorem ew_dup (g : ew_G S w nL k cc own Ts ret rm) {a : MV} (d : decode cc pc = .ok (.dup, 1)) (h : ew_E S w nL k (pc + 1) lv (a :: a :: st) sg) : ew_E S w nL k pc lv (a :: st) sg := by
  obtain ⟨p, l, e, R, s, m, args, below, meth, c, A, cs, sl, Q⟩ := k
  intro H locs ls hl hP hS
  exact lv_dup g.1 g.2.1 d (mv_cat _ a) (h H locs ls hl hP hS)
theorem ew_pop (g : ew_G S w nL k cc own Ts ret rm) {a : MV} (d : decode cc pc = .ok (.pop, 1)) (h : ew_E S w nL k (pc + 1) lv st sg) : ew_E S w nL k pc lv (a :: st) sg := by
  obtain ⟨p, l, e, R, s, m, args, below, meth, c, A, cs, sl, Q⟩ := k
  intro H locs ls hl hP hS
  exact lv_pop g.1 g.2.1 d (mv_cat _ a) (h H locs ls hl hP hS)
theorem ew_dup_x1 (g : ew_G S w nL k cc own Ts ret rm) {a b : MV} (d : decode cc pc = .ok (.dup_x1, 1)) (h : ew_E S w nL k (pc + 1) lv (a :: b :: a :: st) sg) : ew_E S w nL k pc lv (a :: b :: st) sg := by
  obtain ⟨p, l, e, R, s, m, args, below, meth, c, A, cs, sl, Q⟩ := k
  intro H locs ls hl hP hS
  exact lv_dup_x1 g.1 g.2.1 d (mv_cat _ a) (mv_cat _ b) (h H locs ls hl hP hS)
theorem ew_dup_x2 (g : ew_G S w nL k cc own Ts ret rm) {a b f : MV} (d : decode cc pc = .ok (.dup_x2, 1)) (h : ew_E S w nL k (pc + 1) lv (a :: b :: f :: a :: st) sg) : ew_E S w nL k pc lv (a :: b :: f :: st) sg := by
  obtain ⟨p, l, e, R, s, m, args, below, meth, c, A, cs, sl, Q⟩ := k
  intro H locs ls hl hP hS
  exact lv_dup_x2 g.1 g.2.1 d (mv_cat _ a) (mv_cat _ b) (mv_cat _ f) (h H locs ls hl hP hS)
theorem ew_dup2 (g : ew_G S w nL k cc own Ts ret rm) {a b : MV} (d : decode cc pc = .ok (.dup2, 1)) (h : ew_E S w nL k (pc + 1) lv (a :: b :: a :: b :: st) sg) : ew_E S w nL k pc lv (a :: b :: st) sg := by
  obtain ⟨p, l, e, R, s, m, args, below, meth, c, A, cs, sl, Q⟩ := k
  intro H locs ls hl hP hS
  exact lv_dup2_11 g.1 g.2.1 d (mv_cat _ a) (mv_cat _ b) (h H locs ls hl hP hS)
theorem ew_if_eq (g : ew_G S w nL k cc own Ts ret rm) {x : Int32} {off : Int} {tgt : Nat} (d : decode cc pc = .ok (.ifCond .eq off, 3)) (ht : (pc : Int) + off = (tgt : Int)) (h1 : x = 0 → ew_E S w nL k tgt lv st sg) (h2 : ¬ x = 0 → ew_E S w nL k (pc + 3) lv st sg) : ew_E S w nL k pc lv (.inl x :: st) sg := by
  obtain ⟨p, l, e, R, s, m, args, below, meth, c, A, cs, sl, Q⟩ := k
  intro H locs ls hl hP hS
  exact lv_if_eq g.1 g.2.1 d ht (fun q => h1 q H locs ls hl hP hS) (fun q => h2 q H locs ls hl hP hS)
theorem ew_if_ne (g : ew_G S w nL k cc own Ts ret rm) {x : Int32} {off : Int} {tgt : Nat} (d : decode cc pc = .ok (.ifCond .ne off, 3)) (ht : (pc : Int) + off = (tgt : Int)) (h1 : x ≠ 0 → ew_E S w nL k tgt lv st sg) (h2 : x = 0 → ew_E S w nL k (pc + 3) lv st sg) : ew_E S w nL k pc lv (.inl x :: st) sg := by
  obtain ⟨p, l, e, R, s, m, args, below, meth, c, A, cs, sl, Q⟩ := k
  intro H locs ls hl hP hS
  exact lv_if_ne g.1 g.2.1 d ht (fun q => h1 q H locs ls hl hP hS) (fun q => h2 q H locs ls hl hP hS)
theorem ew_if_lt (g : ew_G S w nL k cc own Ts ret rm) {x : Int32} {off : Int} {tgt : Nat} (d : decode cc pc = .ok (.ifCond .lt off, 3)) (ht : (pc : Int) + off = (tgt : Int)) (h1 : x < 0 → ew_E S w nL k tgt lv st sg) (h2 : ¬ x < 0 → ew_E S w nL k (pc + 3) lv st sg) : ew_E S w nL k pc lv (.inl x :: st) sg := by
  obtain ⟨p, l, e, R, s, m, args, below, meth, c, A, cs, sl, Q⟩ := k
  intro H locs ls hl hP hS
  exact lv_if_lt g.1 g.2.1 d ht (fun q => h1 q H locs ls hl hP hS) (fun q => h2 q H locs ls hl hP hS)
theorem ew_if_ge (g : ew_G S w nL k cc own Ts ret rm) {x : Int32} {off : Int} {tgt : Nat} (d : decode cc pc = .ok (.ifCond .ge off, 3)) (ht : (pc : Int) + off = (tgt : Int)) (h1 : 0 ≤ x → ew_E S w nL k tgt lv st sg) (h2 : ¬ 0 ≤ x → ew_E S w nL k (pc + 3) lv st sg) : ew_E S w nL k pc lv (.inl x :: st) sg := by
  obtain ⟨p, l, e, R, s, m, args, below, meth, c, A, cs, sl, Q⟩ := k
  intro H locs ls hl hP hS
  exact lv_if_ge g.1 g.2.1 d ht (fun q => h1 q H locs ls hl hP hS) (fun q => h2 q H locs ls hl hP hS)
theorem ew_if_gt (g : ew_G S w nL k cc own Ts ret rm) {x : Int32} {off : Int} {tgt : Nat} (d : decode cc pc = .ok (.ifCond .gt off, 3)) (ht : (pc : Int) + off = (tgt : Int)) (h1 : 0 < x → ew_E S w nL k tgt lv st sg) (h2 : ¬ 0 < x → ew_E S w nL k (pc + 3) lv st sg) : ew_E S w nL k pc lv (.inl x :: st) sg := by
  obtain ⟨p, l, e, R, s, m, args, below, meth, c, A, cs, sl, Q⟩ := k
  intro H locs ls hl hP hS
  exact lv_if_gt g.1 g.2.1 d ht (fun q => h1 q H locs ls hl hP hS) (fun q => h2 q H locs ls hl hP hS)
theorem ew_if_le (g : ew_G S w nL k cc own Ts ret rm) {x : Int32} {off : Int} {tgt : Nat} (d : decode cc pc = .ok (.ifCond .le off, 3)) (ht : (pc : Int) + off = (tgt : Int)) (h1 : x ≤ 0 → ew_E S w nL k tgt lv st sg) (h2 : ¬ x ≤ 0 → ew_E S w nL k (pc + 3) lv st sg) : ew_E S w nL k pc lv (.inl x :: st) sg := by
  obtain ⟨p, l, e, R, s, m, args, below, meth, c, A, cs, sl, Q⟩ := k
  intro H locs ls hl hP hS
  exact lv_if_le g.1 g.2.1 d ht (fun q => h1 q H locs ls hl hP hS) (fun q => h2 q H locs ls hl hP hS)
theorem ew_icmp_eq (g : ew_G S w nL k cc own Ts ret rm) {x y : Int32} {off : Int} {tgt : Nat} (d : decode cc pc = .ok (.if_icmp .eq off, 3)) (ht : (pc : Int) + off = (tgt : Int)) (h1 : x = y → ew_E S w nL k tgt lv st sg) (h2 : ¬ x = y → ew_E S w nL k (pc + 3) lv st sg) : ew_E S w nL k pc lv (.inl y :: .inl x :: st) sg := by
  obtain ⟨p, l, e, R, s, m, args, below, meth, c, A, cs, sl, Q⟩ := k
  intro H locs ls hl hP hS
  exact lv_icmp_eq g.1 g.2.1 d ht (fun q => h1 q H locs ls hl hP hS) (fun q => h2 q H locs ls hl hP hS)
theorem ew_icmp_ne (g : ew_G S w nL k cc own Ts ret rm) {x y : Int32} {off : Int} {tgt : Nat} (d : decode cc pc = .ok (.if_icmp .ne off, 3)) (ht : (pc : Int) + off = (tgt : Int)) (h1 : x ≠ y → ew_E S w nL k tgt lv st sg) (h2 : x = y → ew_E S w nL k (pc + 3) lv st sg) : ew_E S w nL k pc lv (.inl y :: .inl x :: st) sg := by
  obtain ⟨p, l, e, R, s, m, args, below, meth, c, A, cs, sl, Q⟩ := k
  intro H locs ls hl hP hS
  exact lv_icmp_ne g.1 g.2.1 d ht (fun q => h1 q H locs ls hl hP hS) (fun q => h2 q H locs ls hl hP hS)
theorem ew_icmp_lt (g : ew_G S w nL k cc own Ts ret rm) {x y : Int32} {off : Int} {tgt : Nat} (d : decode cc pc = .ok (.if_icmp .lt off, 3)) (ht : (pc : Int) + off = (tgt : Int)) (h1 : x < y → ew_E S w nL k tgt lv st sg) (h2 : ¬ x < y → ew_E S w nL k (pc + 3) lv st sg) : ew_E S w nL k pc lv (.inl y :: .inl x :: st) sg := by
  obtain ⟨p, l, e, R, s, m, args, below, meth, c, A, cs, sl, Q⟩ := k
  intro H locs ls hl hP hS
  exact lv_icmp_lt g.1 g.2.1 d ht (fun q => h1 q H locs ls hl hP hS) (fun q => h2 q H locs ls hl hP hS)
theorem ew_icmp_ge (g : ew_G S w nL k cc own Ts ret rm) {x y : Int32} {off : Int} {tgt : Nat} (d : decode cc pc = .ok (.if_icmp .ge off, 3)) (ht : (pc : Int) + off = (tgt : Int)) (h1 : y ≤ x → ew_E S w nL k tgt lv st sg) (h2 : ¬ y ≤ x → ew_E S w nL k (pc + 3) lv st sg) : ew_E S w nL k pc lv (.inl y :: .inl x :: st) sg := by
  obtain ⟨p, l, e, R, s, m, args, below, meth, c, A, cs, sl, Q⟩ := k
  intro H locs ls hl hP hS
  exact lv_icmp_ge g.1 g.2.1 d ht (fun q => h1 q H locs ls hl hP hS) (fun q => h2 q H locs ls hl hP hS)
theorem ew_icmp_gt (g : ew_G S w nL k cc own Ts ret rm) {x y : Int32} {off : Int} {tgt : Nat} (d : decode cc pc = .ok (.if_icmp .gt off, 3)) (ht : (pc : Int) + off = (tgt : Int)) (h1 : y < x → ew_E S w nL k tgt lv st sg) (h2 : ¬ y < x → ew_E S w nL k (pc + 3) lv st sg) : ew_E S w nL k pc lv (.inl y :: .inl x :: st) sg := by
  obtain ⟨p, l, e, R, s, m, args, below, meth, c, A, cs, sl, Q⟩ := k
  intro H locs ls hl hP hS
  exact lv_icmp_gt g.1 g.2.1 d ht (fun q => h1 q H locs ls hl hP hS) (fun q => h2 q H locs ls hl hP hS)
theorem ew_icmp_le (g : ew_G S w nL k cc own Ts ret rm) {x y : Int32} {off : Int} {tgt : Nat} (d : decode cc pc = .ok (.if_icmp .le off, 3)) (ht : (pc : Int) + off = (tgt : Int)) (h1 : x ≤ y → ew_E S w nL k tgt lv st sg) (h2 : ¬ x ≤ y → ew_E S w nL k (pc + 3) lv st sg) : ew_E S w nL k pc lv (.inl y :: .inl x :: st) sg := by
  obtain ⟨p, l, e, R, s, m, args, below, meth, c, A, cs, sl, Q⟩ := k
  intro H locs ls hl hP hS
  exact lv_icmp_le g.1 g.2.1 d ht (fun q => h1 q H locs ls hl hP hS) (fun q => h2 q H locs ls hl hP hS)
theorem ew_goto (g : ew_G S w nL k cc own Ts ret rm) {off : Int} {tgt : Nat} (d : decode cc pc = .ok (.goto off, 3)) (ht : (pc : Int) + off = (tgt : Int)) (h : ew_E S w nL k tgt lv st sg) : ew_E S w nL k pc lv st sg := by
  obtain ⟨p, l, e, R, s, m, args, below, meth, c, A, cs, sl, Q⟩ := k
  intro H locs ls hl hP hS
  exact lv_goto g.1 g.2.1 d ht (h H locs ls hl hP hS)
theorem ew_lsw (g : ew_G S w nL k cc own Ts ret rm) {dflt : Int} {ps : Array (Int × Int)} {len : Nat} {x : Int32} {off : Int} {tgt : Nat} (d : decode cc pc = .ok (.lookupswitch dflt ps, len)) (hp : (ps.toList.zip (ps.toList.drop 1)).all (fun (a, next) => a.1 < next.1) = true) (ho : Op.lookupswitch.offset ps.toList dflt x.toInt = off) (ht : (pc : Int) + off = (tgt : Int)) (h : ew_E S w nL k tgt lv st sg) : ew_E S w nL k pc lv (.inl x :: st) sg := by
  obtain ⟨p, l, e, R, s, m, args, below, meth, c, A, cs, sl, Q⟩ := k
  intro H locs ls hl hP hS
  exact lv_lookup g.1 g.2.1 d hp ho ht (h H locs ls hl hP hS)
theorem ew_tswO (g : ew_G S w nL k cc own Ts ret rm) {dflt lo hi : Int} {offs : Array Int} {len : Nat} {x : Int32} {tgt : Nat} (d : decode cc pc = .ok (.tableswitch dflt lo hi offs, len)) (hr : x.toInt < lo ∨ hi < x.toInt) (ht : (pc : Int) + dflt = (tgt : Int)) (h : ew_E S w nL k tgt lv st sg) : ew_E S w nL k pc lv (.inl x :: st) sg := by
  obtain ⟨p, l, e, R, s, m, args, below, meth, c, A, cs, sl, Q⟩ := k
  intro H locs ls hl hP hS
  exact lv_tableOut g.1 g.2.1 d hr ht (h H locs ls hl hP hS)
theorem ew_tswI (g : ew_G S w nL k cc own Ts ret rm) {dflt lo hi : Int} {offs : Array Int} {len : Nat} {x : Int32} {off : Int} {tgt : Nat} (d : decode cc pc = .ok (.tableswitch dflt lo hi offs, len)) (h1 : ¬ x.toInt < lo) (h2 : ¬ hi < x.toInt) (ho : offs[(x.toInt - lo).toNat]? = some off) (ht : (pc : Int) + off = (tgt : Int)) (h : ew_E S w nL k tgt lv st sg) : ew_E S w nL k pc lv (.inl x :: st) sg := by
  obtain ⟨p, l, e, R, s, m, args, below, meth, c, A, cs, sl, Q⟩ := k
  intro H locs ls hl hP hS
  exact lv_tableIn g.1 g.2.1 d h1 h2 ho ht (h H locs ls hl hP hS)
/-- what an instruction that names a field needs: its class's place, the field's place, the words -/
def ew_F (S : SD) (own : String) (Ts : List Cond) (index ci kf : Nat) : Prop := ∃ (C : String) (T : u_T) (N : Nat) (ty0 : Nat → FieldType), S.1[ci]? = some (C, T, N) ∧ kf < N ∧ (∀ x ∈ u_ws C T N, x ∈ Ts) ∧ (Cond.fieldLink own index (T kf).1 (T kf).2.1 (T kf).2.2.1 ∈ Ts ∨ ∃ host, Cond.fieldLinkNest own index (T kf).1 (T kf).2.1 (T kf).2.2.1 host ∈ S.2.2.2.1) ∧ (∀ j, j < N → parseFieldDescriptor (T j).2.2.1 = some (ty0 j)) ∧ (∀ a, a < N → ∀ b, b < N → a ≠ b → (T a).2.1 ≠ (T b).2.1)
/-- and one that writes it: it isn't final, its type holds the number -/
def ew_FP (S : SD) (ci kf : Nat) (x : Int32) : Prop := ∀ (C : String) (T : u_T) (N : Nat), S.1[ci]? = some (C, T, N) → (T kf).2.2.2 = false ∧ ∃ ty, parseFieldDescriptor (T kf).2.2.1 = some ty ∧ narrow ty (.int x) = .int x ∧ fits ty (.int x) = true
theorem ew_getV (g : ew_G S w nL k cc own Ts ret rm) {index ci kf o : Nat} {fl : List (Option Nat)} {f : Option Nat} {v : MV} (d : decode cc pc = .ok (.getfield index, 3)) (hF : ew_F S own Ts index ci kf) (ho : o < S.2.2.1) (hL : S.2.1 o = .inr (ci, fl)) (hf : fl[kf]? = some f) (hv : ew_fv w.2.2.2 sg o kf f = mvV w.2.2.2 v) (h : ew_E S w nL k (pc + 3) lv (v :: st) sg) : ew_E S w nL k pc lv (.inr o :: st) sg := by
  obtain ⟨p, l, e, R, s, m, args, below, meth, c, A, cs, sl, Q⟩ := k
  obtain ⟨gx, gb, gm, go, gt, gK, gi, gn, gs, gr, gl, gR, gk, gA, gh, gc, gd⟩ := g
  obtain ⟨C, T, N, ty0, hc, hk, hin, hlk, -, -⟩ := hF
  intro H locs ls hl hP hS
  have he := ew_ws_at S w sg ho
  rw [ew_c_obj hL] at he
  have hg : (fl.mapIdx (ew_fv w.2.2.2 sg o))[kf]? = some (mvV w.2.2.2 v) := by rw [List.getElem?_mapIdx, hf, ← hv]; rfl
  rcases hlk with hlk | ⟨host, hlk⟩
  · exact va_get gx gb gt hin go gK hP o he hc kf hk (gt _ hlk) (fun _ q => q) hg d (h H locs ls hl hP hS)
  · exact va_getN gx gb gt hin go gK hP o he hc kf hk (va_Nw.use rfl (gn _ hlk)) (fun _ q => q) hg d (h H locs ls hl hP hS)
theorem ew_get (g : ew_G S w nL k cc own Ts ret rm) {index ci kf o : Nat} {fl : List (Option Nat)} (d : decode cc pc = .ok (.getfield index, 3)) (hF : ew_F S own Ts index ci kf) (ho : o < S.2.2.1) (hL : S.2.1 o = .inr (ci, fl)) (hf : fl[kf]? = some none) (h : ew_E S w nL k (pc + 3) lv (.inl (sg o kf) :: st) sg) : ew_E S w nL k pc lv (.inr o :: st) sg := ew_getV g d hF ho hL hf rfl h
theorem ew_getR (g : ew_G S w nL k cc own Ts ret rm) {index ci kf o q : Nat} {fl : List (Option Nat)} (d : decode cc pc = .ok (.getfield index, 3)) (hF : ew_F S own Ts index ci kf) (ho : o < S.2.2.1) (hL : S.2.1 o = .inr (ci, fl)) (hf : fl[kf]? = some (some q)) (h : ew_E S w nL k (pc + 3) lv (.inr q :: st) sg) : ew_E S w nL k pc lv (.inr o :: st) sg := ew_getV g d hF ho hL hf rfl h
theorem ew_mapIdx_set {ad : Nat → Nat} {sg : SG} {o kf : Nat} {x : Int32} {fl : List (Option Nat)} (hf : fl[kf]? = some none) : (fl.mapIdx (ew_fv ad sg o)).set kf (.int x) = fl.mapIdx (ew_fv ad (sup sg o kf x) o) := by
  refine List.ext_getElem? (fun j => ?_)
  rw [List.getElem?_set, List.getElem?_mapIdx, List.getElem?_mapIdx]
  by_cases e : kf = j
  · subst e
    rw [if_pos rfl, hf, if_pos (by rw [List.length_mapIdx]; exact (List.getElem?_eq_some_iff.mp hf).1)]
    simp [ew_fv, sup, upd]
  · rw [if_neg e]
    cases hj : fl[j]? with
    | none => rfl
    | some f => cases f <;> simp [ew_fv, sup, upd, Ne.symm e]
theorem ew_put (g : ew_G S w nL k cc own Ts ret rm) {index ci kf o : Nat} {x : Int32} {fl : List (Option Nat)} (d : decode cc pc = .ok (.putfield index, 3)) (hF : ew_F S own Ts index ci kf) (hp : ew_FP S ci kf x) (ho : o < S.2.2.1) (hL : S.2.1 o = .inr (ci, fl)) (hf : fl[kf]? = some none) (h : ew_E S w nL k (pc + 3) lv st (sup sg o kf x)) : ew_E S w nL k pc lv (.inl x :: .inr o :: st) sg := by
  obtain ⟨p, l, e, R, s, m, args, below, meth, c, A, cs, sl, Q⟩ := k
  obtain ⟨gx, gb, gm, go, gt, gK, gi, gn, gs, gr, gl, gR, gk, gA, gh, gc, gd⟩ := g
  obtain ⟨C, T, N, ty0, hc, hk, hin, hlk, hty, hnm⟩ := hF
  obtain ⟨hfin, ty, hd, hna, hfit⟩ := hp C T N hc
  intro H locs ls hl hP hS
  have he := ew_ws_at S w sg ho
  rw [ew_c_obj hL] at he
  have hD := ew_D gi gA sg
  have hlen : kf < (fl.mapIdx (ew_fv w.2.2.2 sg o)).length := by rw [List.length_mapIdx]; exact (List.getElem?_eq_some_iff.mp hf).1
  have hset : (ew_ws S w sg).set o (w.2.2.2 o, .inr (ci, (fl.mapIdx (ew_fv w.2.2.2 sg o)).set kf (.int x))) = ew_ws S w (sup sg o kf x) := by
    rw [ew_mapIdx_set hf, ← ew_c_obj (w := w) hL]
    exact ew_ws_set ho
  rcases hlk with hlk | ⟨host, hlk⟩
  · exact va_put gx gb gt hin ty0 hty hnm go gK hP hD hS o he hc kf hk (gt _ hlk) (fun _ q => q) hfin hd hna hfit hlen d (fun H1 locs1 h1 _ h3 => h H1 locs1 ls hl (by rw [← hset]; exact h1) h3)
  · exact va_putN gx gb gt hin ty0 hty hnm go gK hP hD hS o he hc kf hk (va_Nw.use rfl (gn _ hlk)) (fun _ q => q) hfin hd hna hfit hlen d (fun H1 locs1 h1 _ h3 => h H1 locs1 ls hl (by rw [← hset]; exact h1) h3)
theorem ew_iald (g : ew_G S w nL k cc own Ts ret rm) {o n : Nat} {i : Int32} (d : decode cc pc = .ok (.iaload, 1)) (ho : o < S.2.2.1) (hL : S.2.1 o = .inl (false, n)) (hi : vp_in i n) (h : ew_E S w nL k (pc + 1) lv (.inl (sg o i.toNatClampNeg) :: st) sg) : ew_E S w nL k pc lv (.inl i :: .inr o :: st) sg := by
  obtain ⟨p, l, e, R, s, m, args, below, meth, c, A, cs, sl, Q⟩ := k
  obtain ⟨gx, gb, gm, go, gt, gK, gi, gn, gs, gr, gl, gR, gk, gA, gh, gc, gd⟩ := g
  intro H locs ls hl hP hS
  have he := ew_ws_at S w sg ho
  rw [ew_c_arr hL] at he
  exact va_iald gx gb gK hP o 0 he rfl hi d (h H locs ls hl hP hS)
theorem ew_iast (g : ew_G S w nL k cc own Ts ret rm) {o n : Nat} {i x : Int32} (d : decode cc pc = .ok (.iastore, 1)) (ho : o < S.2.2.1) (hL : S.2.1 o = .inl (false, n)) (hi : vp_in i n) (h : ew_E S w nL k (pc + 1) lv st (sup sg o i.toNatClampNeg x)) : ew_E S w nL k pc lv (.inl x :: .inl i :: .inr o :: st) sg := by
  obtain ⟨p, l, e, R, s, m, args, below, meth, c, A, cs, sl, Q⟩ := k
  obtain ⟨gx, gb, gm, go, gt, gK, gi, gn, gs, gr, gl, gR, gk, gA, gh, gc, gd⟩ := g
  intro H locs ls hl hP hS
  have he := ew_ws_at S w sg ho
  rw [ew_c_arr hL] at he
  have hset : (ew_ws S w sg).set o (w.2.2.2 o, .inl (if (false : Bool) = true then w.2.2.1 else w.2.1, n, .inl (upd (sg o) i.toNatClampNeg x))) = ew_ws S w (sup sg o i.toNatClampNeg x) := by
    rw [← sup_s (sg := sg) (o := o), ← ew_c_arr (w := w) hL]
    exact ew_ws_set ho
  exact va_iast gx gb gK hP (ew_D gi gA sg) hS o 0 he rfl hi d (fun H1 locs1 h1 _ h3 => h H1 locs1 ls hl (by rw [← hset]; exact h1) h3)
theorem ew_zald (g : ew_G S w nL k cc own Ts ret rm) {o n : Nat} {i : Int32} (d : decode cc pc = .ok (.baload, 1)) (ho : o < S.2.2.1) (hL : S.2.1 o = .inl (true, n)) (hi : vp_in i n) (h : ew_E S w nL k (pc + 1) lv (.inl (sg o i.toNatClampNeg) :: st) sg) : ew_E S w nL k pc lv (.inl i :: .inr o :: st) sg := by
  obtain ⟨p, l, e, R, s, m, args, below, meth, c, A, cs, sl, Q⟩ := k
  obtain ⟨gx, gb, gm, go, gt, gK, gi, gn, gs, gr, gl, gR, gk, gA, gh, gc, gd⟩ := g
  intro H locs ls hl hP hS
  have he := ew_ws_at S w sg ho
  rw [ew_c_arr hL] at he
  exact va_zald gx gb gK hP o 1 he rfl hi d (h H locs ls hl hP hS)
theorem ew_zast (g : ew_G S w nL k cc own Ts ret rm) {o n : Nat} {i x : Int32} (d : decode cc pc = .ok (.bastore, 1)) (ho : o < S.2.2.1) (hL : S.2.1 o = .inl (true, n)) (hi : vp_in i n) (hx : vp_nar .boolean x = x) (h : ew_E S w nL k (pc + 1) lv st (sup sg o i.toNatClampNeg x)) : ew_E S w nL k pc lv (.inl x :: .inl i :: .inr o :: st) sg := by
  obtain ⟨p, l, e, R, s, m, args, below, meth, c, A, cs, sl, Q⟩ := k
  obtain ⟨gx, gb, gm, go, gt, gK, gi, gn, gs, gr, gl, gR, gk, gA, gh, gc, gd⟩ := g
  intro H locs ls hl hP hS
  have he := ew_ws_at S w sg ho
  rw [ew_c_arr hL] at he
  have hset : (ew_ws S w sg).set o (w.2.2.2 o, .inl (if (true : Bool) = true then w.2.2.1 else w.2.1, n, .inl (upd (sg o) i.toNatClampNeg x))) = ew_ws S w (sup sg o i.toNatClampNeg x) := by
    rw [← sup_s (sg := sg) (o := o), ← ew_c_arr (w := w) hL]
    exact ew_ws_set ho
  exact va_zast gx gb gK hP (ew_D gi gA sg) hS o 1 he rfl hi d (fun H1 locs1 h1 _ h3 => h H1 locs1 ls hl (by rw [← hset]; rw [hx] at h1; exact h1) h3)
theorem ew_alen (g : ew_G S w nL k cc own Ts ret rm) {o n : Nat} {z : Bool} {v : Int32} (d : decode cc pc = .ok (.arraylength, 1)) (ho : o < S.2.2.1) (hL : S.2.1 o = .inl (z, n)) (hv : Int32.ofNat n = v) (h : ew_E S w nL k (pc + 1) lv (.inl v :: st) sg) : ew_E S w nL k pc lv (.inr o :: st) sg := by
  obtain ⟨p, l, e, R, s, m, args, below, meth, c, A, cs, sl, Q⟩ := k
  obtain ⟨gx, gb, gm, go, gt, gK, gi, gn, gs, gr, gl, gR, gk, gA, gh, gc, gd⟩ := g
  intro H locs ls hl hP hS
  have he := ew_ws_at S w sg ho
  rw [ew_c_arr hL] at he
  cases z with
  | false => exact va_alen gx gb gK hP o 0 he rfl hv d (h H locs ls hl hP hS)
  | true => exact va_alen gx gb gK hP o 1 he rfl hv d (h H locs ls hl hP hS)
/-- a static table: its number is 1000 and its place -/
theorem ew_gets (g : ew_G S w nL k cc own Ts ret rm) {index j : Nat} {C n dd : String} {N : Nat} {f : Nat → Int32} (d : decode cc pc = .ok (.getstatic index, 3)) (hj : S.2.2.2.2[j]? = some (C, n, dd, N, f)) (hlk : Cond.fieldLink own index C n dd ∈ Ts ∨ ∃ host, Cond.fieldLinkNest own index C n dd host ∈ S.2.2.2.1) (h : ew_E S w nL k (pc + 3) lv (.inr (1000 + j) :: st) sg) : ew_E S w nL k pc lv st sg := by
  obtain ⟨p, l, e, R, s, m, args, below, meth, c, A, cs, sl, Q⟩ := k
  obtain ⟨gx, gb, gm, go, gt, gK, gi, gn, gs, gr, gl, gR, gk, gA, gh, gc, gd⟩ := g
  intro H locs ls hl hP hS
  obtain ⟨hZ, -⟩ := gs j _ hj
  rcases hlk with hlk | ⟨host, hlk⟩
  · exact va_gets gx gb hZ hS go (gt _ hlk) (fun _ q => q) d (h H locs ls hl hP hS)
  · exact va_getsN gx gb hZ hS go (va_Nw.use rfl (gn _ hlk)) (fun _ q => q) d (h H locs ls hl hP hS)
theorem ew_tald (g : ew_G S w nL k cc own Ts ret rm) {j : Nat} {C n dd : String} {N : Nat} {f : Nat → Int32} {i : Int32} (d : decode cc pc = .ok (.iaload, 1)) (hj : S.2.2.2.2[j]? = some (C, n, dd, N, f)) (hi : vp_in i N) (h : ew_E S w nL k (pc + 1) lv (.inl (f i.toNatClampNeg) :: st) sg) : ew_E S w nL k pc lv (.inl i :: .inr (1000 + j) :: st) sg := by
  obtain ⟨p, l, e, R, s, m, args, below, meth, c, A, cs, sl, Q⟩ := k
  obtain ⟨gx, gb, gm, go, gt, gK, gi, gn, gs, gr, gl, gR, gk, gA, gh, gc, gd⟩ := g
  intro H locs ls hl hP hS
  obtain ⟨-, hT⟩ := gs j _ hj
  exact va_ti gx gb hT hS hi rfl d (h H locs ls hl hP hS)
theorem ew_iret (g : ew_G S w nL k cc own Ts (some .int) rm) {v : Int32} (d : decode cc pc = .ok (.ireturn, 1)) (hp : ew_P S w k post) (h : post (some (.inl v)) sg) : ew_E S w nL k pc lv [.inl v] sg := by
  obtain ⟨p, l, e, R, s, m, args, below, meth, c, A, cs, sl, Q⟩ := k
  obtain ⟨gx, gb, gm, go, gt, gK, gi, gn, gs, gr, gl, gR, gk, gA, gh, gc, gd⟩ := g
  obtain ⟨hp1, hp2, hp3, hp4⟩ := hp
  subst hp1; subst hp2; subst hp3; subst hp4
  intro H locs ls hl hP hS
  exact W.iret gx gb gr (fun t ht hW => ⟨⟨some (.inl v), sg, rfl, h, ew_W_of gk gA gh hP gK gi gn gs hS ht hW⟩, hS.F ht⟩) hS.2.2 d gl
theorem ew_zret (g : ew_G S w nL k cc own Ts (some .boolean) rm) {v : Int32} (d : decode cc pc = .ok (.ireturn, 1)) (hp : ew_P S w k post) (hv : narrow .boolean (.int v) = .int v) (h : post (some (.inl v)) sg) : ew_E S w nL k pc lv [.inl v] sg := by
  obtain ⟨p, l, e, R, s, m, args, below, meth, c, A, cs, sl, Q⟩ := k
  obtain ⟨gx, gb, gm, go, gt, gK, gi, gn, gs, gr, gl, gR, gk, gA, gh, gc, gd⟩ := g
  obtain ⟨hp1, hp2, hp3, hp4⟩ := hp
  subst hp1; subst hp2; subst hp3; subst hp4
  intro H locs ls hl hP hS
  exact W.zret gx gb gr hv (fun t ht hW => ⟨⟨some (.inl v), sg, rfl, h, ew_W_of gk gA gh hP gK gi gn gs hS ht hW⟩, hS.F ht⟩) hS.2.2 d gl
theorem ew_vret (g : ew_G S w nL k cc own Ts none rm) (d : decode cc pc = .ok (.return_, 1)) (hp : ew_P S w k post) (h : post none sg) : ew_E S w nL k pc lv [] sg := by
  obtain ⟨p, l, e, R, s, m, args, below, meth, c, A, cs, sl, Q⟩ := k
  obtain ⟨gx, gb, gm, go, gt, gK, gi, gn, gs, gr, gl, gR, gk, gA, gh, gc, gd⟩ := g
  obtain ⟨hp1, hp2, hp3, hp4⟩ := hp
  subst hp1; subst hp2; subst hp3; subst hp4
  intro H locs ls hl hP hS
  exact W.vret gx gb gr (fun t ht hW => ⟨⟨none, sg, rfl, h, ew_W_of gk gA gh hP gK gi gn gs hS ht hW⟩, hS.F ht⟩) hS.2.2 d gl
theorem ew_aret {nm : String} (g : ew_G S w nL k cc own Ts (some (.object nm)) rm) {o : Nat} (d : decode cc pc = .ok (.areturn, 1)) (hp : ew_P S w k post) (h : post (some (.inr o)) sg) : ew_E S w nL k pc lv [.inr o] sg := by
  obtain ⟨p, l, e, R, s, m, args, below, meth, c, A, cs, sl, Q⟩ := k
  obtain ⟨gx, gb, gm, go, gt, gK, gi, gn, gs, gr, gl, gR, gk, gA, gh, gc, gd⟩ := g
  obtain ⟨hp1, hp2, hp3, hp4⟩ := hp
  subst hp1; subst hp2; subst hp3; subst hp4
  intro H locs ls hl hP hS
  exact W.aret gx gb gr (Or.inl ⟨nm, rfl⟩) (Or.inr ⟨_, rfl⟩) (fun t ht hW => ⟨⟨some (.inr o), sg, rfl, h, ew_W_of gk gA gh hP gK gi gn gs hS ht hW⟩, hS.F ht⟩) hS.2.2 d gl
end EW
/-- entry: the locals are the arguments, the rest unset -/
theorem ew_entry {S : SD} {w : WC} {l : Launch} {y : MethodName} {cc : ByteArray} {own : String} {ws ws' : List Cond} {ret : Option FieldType} {rm : Room} {nL : Nat} {args : List MV} {sg : SG} {post : Option MV → SG → Prop} (hk : ew_nk S) (hy : plainName y.cls = true) (hc : y.cls = own) (hw : ws = Cond.code y cc nL ret :: ws') (hn : args.length ≤ nL) (h : ∀ k : KX, ew_G S w nL k cc own ws' ret rm → ew_P S w k post → ew_E S w nL k 0 (args.map some ++ List.replicate (nL - args.length) none) [] sg) : ew_M S w l y ws rm args sg post := by
  intro sz
  refine Met.ofW (cc := cc) (maxL := nL) (ret := ret) hy hw ?_
  intro p e s m av below meth c s₁ B hml hv
  obtain ⟨rfl, hsz, hP, hK, hi, hnw, hst⟩ := hv
  subst hsz
  have hx := B.exec
  have hb := B.bytes
  have hr := B.returns
  have hts := atoms_spec (ws := ws) B.pre
  have hown : s.vm.findClass own = some m.cls := by rw [← hc]; exact findClass_of_methodNamed B.named
  have hlk := B.notSynchronized
  have hsl : ∀ vs : List MV, lg_sl (vs.map (mvV w.2.2.2)) = vs.map (fun v => Slot.val (mvV w.2.2.2 v)) := by
    intro vs
    induction vs with
    | nil => rfl
    | cons a vs ih => 
      show (if (mvV w.2.2.2 a).category = 2 then _ else _) ++ lg_sl (vs.map (mvV w.2.2.2)) = _
      rw [ih, mv_cat]
      rfl
  have hlen : (lg_sl (args.map (mvV w.2.2.2))).length ≤ nL := by rw [hsl, List.length_map]; exact hn
  have hl := lv_entry (args.map (mvV w.2.2.2)) (n := nL) hlen
  rw [lg_entry_eq]
  have hL : ew_L w.2.2.2 ((lg_sl (args.map (mvV w.2.2.2)) ++ List.replicate (nL - (lg_sl (args.map (mvV w.2.2.2))).length) Slot.unset).toArray) nL (args.map some ++ List.replicate (nL - args.length) none) := by
    refine ⟨hl.1, by simp; omega, hl.2.1, fun i v hv => ?_⟩
    rw [hsl, List.getElem?_toArray]
    by_cases hi : i < args.length
    · rw [List.getElem?_append_left (by rw [List.length_map]; exact hi), List.getElem?_map] at hv
      rw [List.getElem?_append_left (by rw [List.length_map]; exact hi), List.getElem?_map]
      cases ha : args[i]? with
      | none => rw [ha] at hv; cases hv
      | some a => 
        rw [ha] at hv
        cases hv
        rfl
    · rw [List.getElem?_append_right (by rw [List.length_map]; omega)] at hv
      have := List.mem_of_getElem? hv
      rw [List.mem_replicate] at this
      cases this.2
  exact h (p, l, e, rm, s, m, _, below, meth, c, ew_A S w s.heap.size, 0, 0, _) ⟨hx, hb, hml, hown, fun x hx => hts x (by rw [hw]; exact List.mem_cons_of_mem _ hx), hK, hi, hnw, hst, hr, hlk, rfl, hk, fun o ho => Or.inl ⟨o, ho, rfl⟩, fun q hq => Or.inr hq, Nat.zero_le _, Nat.zero_le _⟩ ⟨rfl, rfl, rfl, rfl⟩ s.heap [] _ hL hP va_S.rf

