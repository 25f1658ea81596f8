theorem k_A_fillS (S : SD) (hnk : ew_nk S) (w : WC) (l : Launch) (sg : SG) {o n : Nat} (x : Int32) (ho : o < S.2.2.1) (hL : S.2.1 o = .inl (false, n)) (hn : n < 2 ^ 31) : ew_M S w l qy_A_fill qw_A_fill qr_A_fill [.inr o, .inl x] sg (fun v sg' => v = none ∧ sg' = sfil sg o n x) := by
  refine ew_entry (ws' := qwg) (own := qR_A) (cc := qc_A_fill) (nL := 4) (ret := none) hnk (by decide) rfl rfl (Nat.le_of_ble_eq_true rfl) ?_
  intro k g hp
  have key : ∀ (d i : Nat), i + d = n → ew_E S w 4 k 5 [some (.inr o), some (.inl x), some (.inl (nI i)), some (.inl (nI n))] [] (sfil sg o i x) := by
    intro d
    induction d with
    | zero =>
      intro i hi
      refine ew_iload_n g qd_A_fill_5 rfl ?_
      refine ew_iload_n g qd_A_fill_6 rfl ?_
      refine en_ge g qd_A_fill_7 (tgt := 20) (by decide) (by omega) (by omega) (fun h => ?_) (fun h => ?_)
      · refine ew_vret g qd_A_fill_20 hp ?_
        have e : i = n := by omega
        rw [e]
        exact ⟨rfl, rfl⟩
      · omega
    | succ d ih =>
      intro i hi
      refine ew_iload_n g qd_A_fill_5 rfl ?_
      refine ew_iload_n g qd_A_fill_6 rfl ?_
      refine en_ge g qd_A_fill_7 (tgt := 20) (by decide) (by omega) (by omega) (fun h => ?_) (fun h => ?_)
      · omega
      · refine ew_aload_n g qd_A_fill_10 rfl ?_
        refine ew_iload_n g qd_A_fill_11 rfl ?_
        refine ew_iload_n g qd_A_fill_12 rfl ?_
        refine en_iast g qd_A_fill_13 ho hL (by omega) (by omega) ?_
        refine ew_iinc g qd_A_fill_14 (by decide) rfl (ii_1 _) ?_
        refine ew_goto g qd_A_fill_17 (tgt := 5) (by decide) ?_
        exact en_sg (sfil_s sg o i x) (ih (i + 1) (by omega))
  refine ew_iconst g qd_A_fill_0 ic_0 ?_
  refine ew_istore_n g qd_A_fill_1 (by decide) ?_
  refine ew_aload_n g qd_A_fill_2 rfl ?_
  refine ew_alen g qd_A_fill_3 ho hL rfl ?_
  refine ew_istore_n g qd_A_fill_4 (by decide) ?_
  exact en_sg (sfil_0 sg o x).symm (key n 0 (by omega))
theorem ew_after2 {S : SD} {w : WC} {p : Program} {l : Launch} {e : Env} {R : Room} {s : State} {m : MethodId} {args : Array Value} {below : List Frame} {meth : Method} {c : Code} {H : Heap} {locs : List Loc} {cs sl : Nat} {A : Nat → Prop} {Q : State → Prop} {pc : Nat} {ls : Array Slot} {rest st0 : List Value} {a : Array Value} {postC : Option MV → SG → Prop} (hr : va_Run p l e R s m args below meth c H locs cs sl 0 0 (F0 m pc ls st0) rest (ew_Q S w postC H.size a) (ew_A S w H.size)) (hS : va_S A s.heap H locs) (hmo : ∀ q, ew_A S w H.size q → A q) (kk : ∀ (v : Option MV) (sg : SG) (H1 : Heap) (locs1 : List Loc), postC v sg → va_P w.1 S.1 (ew_ws S w sg) H1 → va_S A s.heap H1 locs1 → H.size ≤ H1.size → (∀ q, q < H.size → ¬ ew_A S w H.size q → H1[q]? = H[q]?) → W p l e R s m args below meth c H1 locs1 cs sl Q (F0 m (pc + 3) ls ((v.map (mvV w.2.2.2)).toList ++ rest))) : W p l e R s m args below meth c H locs cs sl Q (F0 m pc ls st0) := by
  intro T hT X
  obtain ⟨v, st₀, t, T', L, h0, X', hL, e1, e2, ⟨⟨v', sg, hv, hp, hw⟩, hz, hk⟩, st⟩ := hr T hT X
  have hv : v = v'.map (mvV w.2.2.2) := by injection hv
  subst hv
  rw [h0] at hz hk
  obtain ⟨t2, a1, b1⟩ := kk v' sg T'.heap (locs ++ L) hp (by rw [e1]; exact hw.1) ⟨Nat.le_trans hS.1 (by rw [e1]; exact hz), fun q h1 h2 => by rw [e1, hk q (Nat.lt_of_lt_of_le h1 hS.1) (fun z => h2 (hmo q z))]; exact hS.2.1 q h1 h2, fun q hq => by
      rcases List.mem_append.mp hq with h | h
      · exact hS.2.2 q h
      · exact hmo _ (hL q h)⟩ (by rw [e1]; exact hz) (fun q h1 h2 => by rw [e1]; exact hk q h1 h2) T' rfl X'
  exact ⟨t2, st t2 a1, b1⟩
def S1 (n : Nat) : SD := (qcl, fun _ => .inl (false, n), 1, [], [])
theorem S1_nk (n : Nat) : ew_nk (S1 n) := fun x hx => by cases hx
def cn_P (D : va_G) (k : CX) (h0 : Nat) (e0 : va_E) (post : Nat → (Nat → Nat) → va_W) (mc ms : Nat) : Prop := match k with
  | (_, _, _, _, s, _, args, below, _, _, _, A, Q) => A = va_A [(h0, e0)] s.heap.size ∧ Q = MQ below (cn_Q D h0 e0 post s.heap.size) args s mc ms (va_A [(h0, e0)] s.heap.size)
section CN2
variable {D : va_G} {cI cZ : ClassId} {k : CX} {cc : ByteArray} {own : String} {h0 : Nat} {rm : Room} {pc cs sl : Nat} {st : List Value} {ws : va_W}
theorem cn_fill (g : cn_G D cI cZ k cc own h0 rm) {index q0 a n : Nat} {x : Int32} {f : Nat → Int32} (d : decode cc pc = .ok (.invokestatic index, 3)) (hC : ew_CS qS own qwg index qy_A_fill qc_A_fill 4 none qw_A_fill 2) (he : ws[q0]? = some (a, .inl (cI, n, .inl f))) (hn : n < 2 ^ 31) (hR : 1 ≤ rm.frames ∧ 23 ≤ rm.locals) (hf : cs ≤ rm.cells ∧ sl ≤ rm.slots) (hq : (st.map fun v => v.category).sum ≤ 8) (h : cn_E D k (pc + 3) st (ws.set q0 (a, .inl (cI, n, .inl (sfil (fun _ => f) 0 n x 0)))) cs sl) : cn_E D k pc (.int x :: .ref a :: st) ws cs sl := by
  obtain ⟨p, l, e, R, s, m, args, below, meth, c, ls, A, Q⟩ := k
  obtain ⟨gx, gb, gm, go, gt, gK, gn, gr, gl, gi, gR, hll, gA⟩ := g
  intro H locs hP hD hS
  subst gR
  obtain ⟨⟨⟨ws', hw⟩, hG, hini, hlk, hy1, hy2, hpar⟩, hstt⟩ := hC
  have hM := k_A_fillS (S1 n) (S1_nk n) (D, cI, cZ, fun _ => a) l (fun _ => f) (o := 0) (n := n) x (by show 0 < 1; decide) rfl hn H.size
  have hPc : va_P D qcl (ew_ws (S1 n) (D, cI, cZ, fun _ => a) (fun _ => f)) H := fun i y hy => by
    obtain ⟨i1, rfl⟩ := ew_ws_inv hy
    exact hP q0 _ he
  have hAa : A a := hD.2 q0 _ he
  have hone : ∀ y, ew_A (S1 n) (D, cI, cZ, fun _ => a) H.size y → y = a ∨ H.size ≤ y := fun y hy => by
    rcases hy with ⟨o, _, rfl⟩ | hy
    · exact Or.inl rfl
    · exact Or.inr hy
  have hFc : ∀ y, ew_A (S1 n) (D, cI, cZ, fun _ => a) H.size y → A y := fun y hy => by
    rcases hone y hy with rfl | hy
    · exact hAa
    · exact gA _ (Nat.le_trans hS.1 hy)
  have hpre : PreS s H (va_Pc ([.inr 0, .inl x].map (mvV (fun _ => a))) (fun U => U.heap.size = H.size ∧ ew_W (S1 n) (D, cI, cZ, fun _ => a) (fun _ => f) U)) ([.inr 0, .inl x].map (mvV (fun _ => a))) := by
    have hinj : ew_inj (S1 n) (D, cI, cZ, fun _ => a) := fun i j hi hj _ => by
      have hi : i < 1 := hi
      have hj : j < 1 := hj
      omega
    have hnw : ∀ U : State, ew_nw (S1 n) U := fun U x hx => by cases hx
    have hst : ∀ U : State, ew_st (S1 n) (D, cI, cZ, fun _ => a) (ew_A (S1 n) (D, cI, cZ, fun _ => a) U.heap.size) U U.heap := fun U j q hj => by cases hj
    exact ⟨fun a U g mk q => ⟨q.1, q.2.1, ew_blind (S1_nk n) g mk a q.2.2⟩, fun U hU hW => ⟨rfl, by rw [hU], ⟨by rw [hU]; exact hPc, va_K.moved hW.alike gK, hinj, hnw U, hst U⟩⟩⟩
  refine W.eq (g2 := F0 m pc ls (([.inr 0, .inl x].map (mvV (fun _ => a))).reverse ++ st)) rfl ?_
  have hfin : ∀ (v : Option MV) (sg : SG) (H1 : Heap) (locs1 : List Loc), (v = none ∧ sg = sfil (fun _ => f) 0 n x) → va_P D qcl (ew_ws (S1 n) (D, cI, cZ, fun _ => a) sg) H1 → va_S A s.heap H1 locs1 → H.size ≤ H1.size → (∀ q, q < H.size → ¬ ew_A (S1 n) (D, cI, cZ, fun _ => a) H.size q → H1[q]? = H[q]?) → W p l e R s m args below meth c H1 locs1 cs sl Q (F0 m (pc + 3) ls ((v.map (mvV (fun _ => a))).toList ++ st)) := by
    intro v sg H1 locs1 hv hP1 hS1 hz hk
    obtain ⟨rfl, rfl⟩ := hv
    refine h H1 locs1 (fun i y hy => ?_) (va_D.set hD he) hS1
    by_cases hi : i = q0
    · subst hi
      have hlen : i < ws.length := (List.getElem?_eq_some_iff.mp he).1
      rw [List.getElem?_set_self hlen] at hy
      cases hy
      exact hP1 0 _ rfl
    · rw [List.getElem?_set_ne (fun z => hi z.symm)] at hy
      refine (hP i y hy).kept (hk _ (hP i y hy).lt (fun z => ?_))
      rcases hone _ z with z | z
      · exact hi (hD.1 i q0 y _ hy he z)
      · exact absurd (hP i y hy).lt (by omega)
  rcases hlk with hlk | ⟨host, hlk⟩
  · exact ew_after2 (va_runS ⟨gx, gb, gm, go, gt⟩ hM ⟨callB_of 2 gt hG hw rfl rfl (gt _ hini) (gt _ hlk) ⟨hy1, hy2, hpar⟩ ⟨hR.1, hR.2⟩, gt _ hstt⟩ hpre rfl rfl hll.1 rfl (lv_room hq) d hf) hS hFc hfin
  · exact ew_after2 (va_runSN ⟨gx, gb, gm, go, gt⟩ hM ⟨va_cnB 2 gt hG hw rfl rfl (gn _ hlk) (gt _ hini) ⟨hy1, hy2, hpar⟩ ⟨hR.1, hR.2⟩, gt _ hstt, trivial⟩ hpre rfl rfl hll.1 rfl (lv_room hq) d hf) hS hFc hfin
theorem cn_ret (g : cn_G D cI cZ k cc own h0 rm) {e0 : va_E} {post : Nat → (Nat → Nat) → va_W} (d : decode cc pc = .ok (.return_, 1)) (hp : cn_P D k h0 e0 post cs sl) (ad : Nat → Nat) (hw : ws = post h0 ad) : cn_E D k pc [] ws cs sl := by
  obtain ⟨p, l, e, R, s, m, args, below, meth, c, ls, A, Q⟩ := k
  obtain ⟨gx, gb, gm, go, gt, gK, gn, gr, gl, gi, gR, hll, gA⟩ := g
  obtain ⟨hA, hQ⟩ := hp
  subst hA
  subst hQ
  intro H locs hP hD hS
  rw [hw] at hP hD
  exact W.vret gx gb gr (fun t ht hW => ⟨⟨ad, rfl, trivial, by rw [ht]; exact hP, hD⟩, hS.F ht⟩) hS.2.2 d gl
theorem cn_at {ws' : va_W} {cs' sl' : Nat} (e : ws = ws') (e1 : cs = cs') (e2 : sl = sl') (h : cn_E D k pc st ws' cs' sl') : cn_E D k pc st ws cs sl := by rw [e, e1, e2]; exact h
end CN2
theorem cn_entry {D : va_G} {cI cZ : ClassId} {l : Launch} {y : MethodName} {cc : ByteArray} {own : String} {ws : List Cond} {rm : Room} {e0 : va_E} {mc ms : Nat} {post : Nat → (Nat → Nat) → va_W} (hy : plainName y.cls = true) (hc : y.cls = own) (hnm : y.name = "<init>") (hw : ws = Cond.code y cc 1 none :: qwg) (h : ∀ (k : CX) (h0 : Nat), cn_G D cI cZ k cc own h0 rm → cn_P D k h0 e0 post mc ms → cn_E D k 0 [] [(h0, e0)] 0 0) : cn_M D cI cZ l y ws rm e0 mc ms post := by
  intro h0 sz
  refine Met.ofW (cc := cc) (maxL := 1) (ret := none) hy hw ?_
  intro p e s m av below meth c s₁ B hml hv
  obtain ⟨rfl, hsz, hP, hK, hnw⟩ := hv
  subst hsz
  have hx := B.exec
  have hb := B.bytes
  have hr := B.returns
  have hts := atoms_spec (ws := ws) B.pre
  have hown : s.vm.findClass own = some m.cls := by rw [← hc]; exact findClass_of_methodNamed B.named
  have hlk := B.notSynchronized
  have hin : meth.name = "<init>" := (name_of_methodNamed B.named B.method).1.trans hnm
  have hl := lv_entry ([.ref h0]) (n := 1) (Nat.le_of_ble_eq_true rfl)
  rw [lg_entry_eq]
  have hl : lv_has ((lg_sl ([.ref h0]) ++ List.replicate (1 - (lg_sl ([.ref h0])).length) Slot.unset).toArray) 1 [(0, .ref h0)] := hl
  refine h (p, l, e, rm, s, m, _, below, meth, c, _, va_A [(h0, e0)] s.heap.size, _) h0 ⟨hx, hb, hml, hown, fun x hx => hts x (by rw [hw]; exact List.mem_cons_of_mem _ hx), hK, hnw, hr, hlk, hin, rfl, hl, fun q hq => Or.inr hq⟩ ⟨rfl, rfl⟩ s.heap [] hP ⟨fun i j x y hx hy _ => ?_, fun i x hx => ?_⟩ va_S.rf
  · have z1 : i < 1 := (List.getElem?_eq_some_iff.mp hx).1
    have z2 : j < 1 := (List.getElem?_eq_some_iff.mp hy).1
    omega
  · have z1 : i < 1 := (List.getElem?_eq_some_iff.mp hx).1
    rw [show i = 0 by omega] at hx
    cases hx
    exact A_hd
