/-! the first world, and the law from its entry -/
def sgl : List (Nat → Int32) := [(fun k => [0, 0, 0, (nI 0), (nI 0), (nI 24)].getD k 0), (fun k => [0, 0, (nI 0), (nI 0), (nI 0), (nI 0), (nI 0), (nI 0), (nI 0), (nI 0), 0, (nI 0), (nI 0), 0].getD k 0), (fun k => [0, 0, 0, (nI 0)].getD k 0), (fun _ => 0), (fun _ => 0), (sfil (fun _ => fun _ => 0) 0 16 (-1) 0), (fun _ => 0), (fun _ => 0), (fun _ => 0), (fun k => [0, 0, 0, 0, (nI 0)].getD k 0), (fun k => [0, 0, 0, 0].getD k 0), (fun k => [0, 0, 0, 0, (nI 0)].getD k 0), (fun _ => 0), (fun _ => 0), (fun _ => 0), (fun _ => 0), (fun _ => 0), (fun _ => 0), (fun _ => 0), (fun k => [0, 0, 0, 0].getD k 0), (fun k => [0, 0, 0, 0, (nI 0)].getD k 0), (fun _ => 0), (fun _ => 0), (fun _ => 0), (fun _ => 0), (fun _ => 0), (fun _ => 0), (fun _ => 0), (fun k => [0, 0, 0, 0, 0, 0, 0, 0, (nI 0)].getD k 0), (fun _ => 0), (fun _ => 0), (fun _ => 0), (fun _ => 0), (fun _ => 0), (fun _ => 0), (fun _ => 0), (fun _ => 0), (fun k => [0, 0].getD k 0), (sfil (fun _ => fun _ => 0) 0 160 (-1) 0), (fun _ => 0), (fun _ => 0), (fun k => [0, 0, 0, 0, (nI 24), 0, 0, 0, 0, 0, 0, 0, 0, 0, 0, 0, 0, 0, 0, 0, 0, 0, 0, 0, 0, 0, 0, 0, 0, 0, 0, 0].getD k 0), (fun _ => 0), (fun _ => 0), (fun _ => 0), (fun _ => 0), (fun _ => 0), (fun _ => 0), (fun _ => 0), (fun _ => 0), (fun _ => 0), (fun _ => 0), (fun _ => 0), (fun _ => 0), (fun _ => 0), (fun _ => 0), (fun _ => 0), (fun _ => 0), (fun _ => 0), (fun _ => 0), (fun _ => 0)]
def sg0 : SG := fun o => sgl.getD o (fun _ => 0)
def adl (q0 : Nat) (a1 : Nat → Nat) (qM : Nat) (a2 : Nat → Nat) : List Nat := [q0, a1 0, a1 1, a1 2, a1 3, a1 4, a1 5, a1 6, a1 7, a1 8, a1 9, a1 10, a1 11, a1 12, a1 13, a1 14, a1 15, a1 16, a1 17, a1 18, a1 19, a1 20, a1 21, a1 22, a1 23, a1 24, a1 25, a1 26, a1 27, a1 28, a1 29, a1 30, a1 31, a1 32, a1 33, a1 34, a1 35, a1 36, a1 37, a1 38, a1 39, qM, a2 0, a2 1, a2 2, a2 3, a2 4, a2 5, a2 6, a2 7, a2 8, a2 9, a2 10, a2 11, a2 12, a2 13, a2 14, a2 15, a2 16, a2 17, a2 18]
def ad0 (q0 : Nat) (a1 : Nat → Nat) (qM : Nat) (a2 : Nat → Nat) (tC tT tP b : Nat) : Nat → Nat := fun o => (adl q0 a1 qM a2).getD o (if o = 1000 then tC else if o = 1001 then tT else if o = 1002 then tP else b)
set_option maxRecDepth 100000 in
set_option maxHeartbeats 4000000 in
theorem ws0_eq (D : va_G) (cI cZ : ClassId) (q0 : Nat) (a1 : Nat → Nat) (qM : Nat) (a2 : Nat → Nat) (tC tT tP b : Nat) : pw_X cI cZ q0 a1 ++ pw_M cI cZ qM a2 = ew_ws qS (D, cI, cZ, ad0 q0 a1 qM a2 tC tT tP b) sg0 := rfl
theorem xS0 : xS sg0 (cd0, 0, 24, none, none) := by
  refine ⟨⟨⟨Nat.zero_le _, fun i hi => absurd hi (Nat.not_lt_zero i)⟩, rfl, fun i hi => absurd hi (Nat.not_lt_zero i), fun a ha => ?_⟩, ⟨rfl, by decide⟩, ⟨rfl, by decide, by decide⟩, ⟨rfl, fun x hx => ?_⟩, rfl⟩
  · show sfil (fun _ => fun _ => 0) 0 16 (-1) 0 a = -1
    exact sfil_at ha
  · show sfil (fun _ => fun _ => 0) 0 160 (-1) 0 x = -1
    exact sfil_at hx
theorem mS0 : mS sg0 (cd0, 0, 24, none, none) := by
  refine ⟨⟨⟨Nat.zero_le _, fun i hi => absurd hi (Nat.not_lt_zero i)⟩, by decide +kernel, fun i hi => absurd hi (Nat.not_lt_zero i)⟩, ⟨by decide +kernel, by decide⟩, ⟨rfl, by decide, by decide⟩, ⟨by decide +kernel, by decide +kernel⟩, by show sg0 41 30 = bI false; decide +kernel⟩
theorem wg_in {x : Cond} (h : x ∈ qwg) : x ∈ lw_tbl := (List.mem_filter.mp h).1
theorem nw_of {s : State} {args : Array Value} (h : ∀ x ∈ lw_tbl, x.before args s = true) : ∀ x ∈ qnw, va_Nw x s := fun x hx => by
  rcases qnk x hx with ⟨a, i, b, n, d, hh, rfl⟩ | ⟨a, i, y, hh, rfl⟩
  · exact va_Nw.of rfl (h _ (List.mem_filter.mp hx).1)
  · exact va_Nw.of rfl (h _ (List.mem_filter.mp hx).1)
set_option maxRecDepth 100000 in
theorem el_COSTS : ∀ j, j < 25 → Cond.eq (.elem (.static "ContractProbe" "COSTS" "[I") (.int (Int32.ofNat j))) (.int (nI (oCost j))) ∈ flatC (Jvm.Cond.and given_1 narrow_1) := by decide +kernel
set_option maxRecDepth 100000 in
theorem el_TAKES : ∀ j, j < 25 → Cond.eq (.elem (.static "ContractProbe" "TAKES" "[I") (.int (Int32.ofNat j))) (.int (nI (oTake j))) ∈ flatC (Jvm.Cond.and given_1 narrow_1) := by decide +kernel
set_option maxRecDepth 100000 in
theorem el_PUTS : ∀ j, j < 25 → Cond.eq (.elem (.static "ContractProbe" "PUTS" "[I") (.int (Int32.ofNat j))) (.int (nI (oPuts j))) ∈ flatC (Jvm.Cond.and given_1 narrow_1) := by decide +kernel
theorem st_COSTS {s : State} {args : Array Value} {A : Nat → Prop} (h : ∀ x ∈ lw_tbl, x.before args s = true) (hg : (Jvm.Cond.and given_1 narrow_1).before args s = true) (hA : ∀ a : Nat, a < s.heap.size → ¬ A a) : ∃ t : Nat, va_Z "ContractProbe" "COSTS" "[I" (.ref t) A s s.heap ∧ va_T .int t 25 (fun i => .int (nI (oCost i))) A s s.heap := by
  have hs := flat_of_before _ hg
  obtain ⟨t, ht, hT⟩ := va_Tof (A := A) (tm := .static "ContractProbe" "COSTS" "[I") (ty := .int) (N := 25) (f := fun i => .int (nI (oCost i))) (by decide) (hs _ (by decide +kernel)) (va_eqt (hs (Cond.eq (.length (.static "ContractProbe" "COSTS" "[I")) (.int (Int32.ofNat 25))) (by decide +kernel))) (fun j hj => va_eqt (hs _ (el_COSTS j hj))) hA
  exact ⟨t, va_Zof (h (Cond.laysStatic "ContractProbe" "COSTS" "[I") (wg_in (wg_t 337 rfl rfl))) (h (Cond.initialized "ContractProbe") (wg_in (wg_t 1 rfl rfl))) ht hA, hT⟩
theorem st_TAKES {s : State} {args : Array Value} {A : Nat → Prop} (h : ∀ x ∈ lw_tbl, x.before args s = true) (hg : (Jvm.Cond.and given_1 narrow_1).before args s = true) (hA : ∀ a : Nat, a < s.heap.size → ¬ A a) : ∃ t : Nat, va_Z "ContractProbe" "TAKES" "[I" (.ref t) A s s.heap ∧ va_T .int t 25 (fun i => .int (nI (oTake i))) A s s.heap := by
  have hs := flat_of_before _ hg
  obtain ⟨t, ht, hT⟩ := va_Tof (A := A) (tm := .static "ContractProbe" "TAKES" "[I") (ty := .int) (N := 25) (f := fun i => .int (nI (oTake i))) (by decide) (hs _ (by decide +kernel)) (va_eqt (hs (Cond.eq (.length (.static "ContractProbe" "TAKES" "[I")) (.int (Int32.ofNat 25))) (by decide +kernel))) (fun j hj => va_eqt (hs _ (el_TAKES j hj))) hA
  exact ⟨t, va_Zof (h (Cond.laysStatic "ContractProbe" "TAKES" "[I") (wg_in (wg_t 335 rfl rfl))) (h (Cond.initialized "ContractProbe") (wg_in (wg_t 1 rfl rfl))) ht hA, hT⟩
theorem st_PUTS {s : State} {args : Array Value} {A : Nat → Prop} (h : ∀ x ∈ lw_tbl, x.before args s = true) (hg : (Jvm.Cond.and given_1 narrow_1).before args s = true) (hA : ∀ a : Nat, a < s.heap.size → ¬ A a) : ∃ t : Nat, va_Z "ContractProbe" "PUTS" "[I" (.ref t) A s s.heap ∧ va_T .int t 25 (fun i => .int (nI (oPuts i))) A s s.heap := by
  have hs := flat_of_before _ hg
  obtain ⟨t, ht, hT⟩ := va_Tof (A := A) (tm := .static "ContractProbe" "PUTS" "[I") (ty := .int) (N := 25) (f := fun i => .int (nI (oPuts i))) (by decide) (hs _ (by decide +kernel)) (va_eqt (hs (Cond.eq (.length (.static "ContractProbe" "PUTS" "[I")) (.int (Int32.ofNat 25))) (by decide +kernel))) (fun j hj => va_eqt (hs _ (el_PUTS j hj))) hA
  exact ⟨t, va_Zof (h (Cond.laysStatic "ContractProbe" "PUTS" "[I") (wg_in (wg_t 339 rfl rfl))) (h (Cond.initialized "ContractProbe") (wg_in (wg_t 1 rfl rfl))) ht hA, hT⟩
theorem arr_of {s : State} {args : Array Value} {ty : FieldType} (h : (Cond.arrayClass ty).before args s = true) : ∃ cA : ClassId, ArrOfT s cA ty ∧ s.vm.findClass ("[" ++ ty.toString) = some cA := by
  obtain ⟨cA, kA, comp, h1, h2, h3⟩ := Cond.arrayClass_spec h
  exact ⟨cA, fun n z => ⟨fun k h => (by cases h), kA, h2, comp, h3⟩, h1⟩
set_option maxRecDepth 100000 in
theorem K_of {s : State} {args : Array Value} (h : ∀ x ∈ lw_tbl, x.before args s = true) : ∃ (D : va_G) (cI cZ : ClassId), va_K D qcl (cn_ty cI cZ) s := by
  have hg : ∀ x ∈ qwg, x.before args s = true := fun x hx => h x (wg_in hx)
  obtain ⟨c0, i0, k0⟩ := u_known hg qu_X (hg (Cond.instantiable qR_X 6) (wg_t 12 rfl rfl))
  obtain ⟨c1, i1, k1⟩ := u_known hg qu_K (hg (Cond.instantiable qR_K 14) (wg_t 20 rfl rfl))
  obtain ⟨c2, i2, k2⟩ := u_known hg qu_C (hg (Cond.instantiable qR_C 4) (wg_t 26 rfl rfl))
  obtain ⟨c3, i3, k3⟩ := u_known hg qu_E (hg (Cond.instantiable qR_E 5) (wg_t 107 rfl rfl))
  obtain ⟨c4, i4, k4⟩ := u_known hg qu_B (hg (Cond.instantiable qR_B 4) (wg_t 113 rfl rfl))
  obtain ⟨c5, i5, k5⟩ := u_known hg qu_Y (hg (Cond.instantiable qR_Y 5) (wg_t 119 rfl rfl))
  obtain ⟨c6, i6, k6⟩ := u_known hg qu_P (hg (Cond.instantiable qR_P 9) (wg_t 160 rfl rfl))
  obtain ⟨c7, i7, k7⟩ := u_known hg qu_T (hg (Cond.instantiable qR_T 2) (wg_t 201 rfl rfl))
  obtain ⟨c8, i8, k8⟩ := u_known hg qu_M (hg (Cond.instantiable qR_M 32) (wg_t 502 rfl rfl))
  obtain ⟨cI, hI1, hI2⟩ := arr_of (hg (Cond.arrayClass .int) (wg_t 51 rfl rfl))
  obtain ⟨cZ, hZ1, hZ2⟩ := arr_of (hg (Cond.arrayClass .boolean) (wg_t 604 rfl rfl))
  refine ⟨(fun c => [c0, c1, c2, c3, c4, c5, c6, c7, c8].getD c 0, fun c => [i0, i1, i2, i3, i4, i5, i6, i7, i8].getD c (fun _ => 0)), cI, cZ, fun c q hq => ?_, fun k q hq => ?_⟩
  · have hc : c < 9 := (List.getElem?_eq_some_iff.mp hq).1
    rcases (by omega : c = 0 ∨ c = 1 ∨ c = 2 ∨ c = 3 ∨ c = 4 ∨ c = 5 ∨ c = 6 ∨ c = 7 ∨ c = 8) with rfl | rfl | rfl | rfl | rfl | rfl | rfl | rfl | rfl
    · cases hq; exact k0
    · cases hq; exact k1
    · cases hq; exact k2
    · cases hq; exact k3
    · cases hq; exact k4
    · cases hq; exact k5
    · cases hq; exact k6
    · cases hq; exact k7
    · cases hq; exact k8
  · have hk : k < 2 := (List.getElem?_eq_some_iff.mp hq).1
    rcases (by omega : k = 0 ∨ k = 1) with rfl | rfl
    · cases hq; exact ⟨hI1, hI2⟩
    · cases hq; exact ⟨hZ1, hZ2⟩
