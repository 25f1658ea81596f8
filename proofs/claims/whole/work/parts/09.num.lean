/-! ===== Int32 by its bits: bt x i ===== -/
def bt (x : Int32) (i : Nat) : Bool := x.toBitVec.getLsbD i
theorem b_ext {x y : Int32} (h : ∀ i, i < 32 → bt x i = bt y i) : x = y := Int32.toBitVec_inj.mp (BitVec.eq_of_getLsbD_eq (fun i hi => h i hi))
theorem b_or (x y : Int32) (i : Nat) : bt (x ||| y) i = (bt x i || bt y i) := by unfold bt; rw [Int32.toBitVec_or, BitVec.getLsbD_or]
theorem b_and (x y : Int32) (i : Nat) : bt (x &&& y) i = (bt x i && bt y i) := by unfold bt; rw [Int32.toBitVec_and, BitVec.getLsbD_and]
theorem b_xor (x y : Int32) (i : Nat) : bt (x ^^^ y) i = (bt x i ^^ bt y i) := by unfold bt; rw [Int32.toBitVec_xor, BitVec.getLsbD_xor]
theorem b_big {x : Int32} {i : Nat} (h : 32 ≤ i) : bt x i = false := BitVec.getLsbD_of_ge _ _ h
theorem b_m1 : ∀ i, i < 32 → bt (-1) i = true := by decide +kernel
theorem b_0 (i : Nat) : bt 0 i = false := BitVec.getLsbD_zero
theorem s_l : ∀ n, n < 32 → ((nI n &&& 31).toBitVec.smod 32).toNat = n := by decide +kernel
theorem s_u : ∀ n, n < 32 → (((nI n).toUInt32 &&& Int32.toUInt32 31).toBitVec % 32).toNat = n := by decide +kernel
theorem b_shl (n : Nat) (hn : n < 32) (x : Int32) {i : Nat} (hi : i < 32) : bt (x <<< (nI n &&& 31)) i = (decide (n ≤ i) && bt x (i - n)) := by
  unfold bt
  rw [Int32.toBitVec_shiftLeft]
  show (x.toBitVec <<< ((nI n &&& 31).toBitVec.smod 32).toNat).getLsbD i = _
  rw [s_l n hn, BitVec.getLsbD_shiftLeft]
  rcases Nat.lt_or_ge i n with h | h
  · simp [h, Nat.not_le.mpr h]
  · simp [hi, h, Nat.not_lt.mpr h]
theorem b_ushr (n : Nat) (hn : n < 32) (x : Int32) (i : Nat) : bt ((x.toUInt32 >>> ((nI n).toUInt32 &&& Int32.toUInt32 31)).toInt32) i = bt x (n + i) := by
  show (x.toUInt32 >>> ((nI n).toUInt32 &&& Int32.toUInt32 31)).toBitVec.getLsbD i = x.toUInt32.toBitVec.getLsbD (n + i)
  rw [UInt32.toBitVec_shiftRight]
  show (x.toUInt32.toBitVec >>> (((nI n).toUInt32 &&& Int32.toUInt32 31).toBitVec % 32).toNat).getLsbD i = _
  rw [s_u n hn, BitVec.getLsbD_ushiftRight]
theorem b_sshr (n : Nat) (hn : n < 32) (x : Int32) {i : Nat} (hi : i < 32) : bt (x >>> (nI n &&& 31)) i = if n + i < 32 then bt x (n + i) else bt x 31 := by
  unfold bt
  rw [Int32.toBitVec_shiftRight]
  show (x.toBitVec.sshiftRight ((nI n &&& 31).toBitVec.smod 32).toNat).getLsbD i = _
  rw [s_l n hn, BitVec.getLsbD_sshiftRight, BitVec.msb_eq_getLsbD_last]
  simp [hi]
theorem nx_and (a b : Nat) : nI a &&& nI b = nI (a &&& b) := by
  apply Int32.toBitVec_inj.1
  show BitVec.ofNat 32 a &&& BitVec.ofNat 32 b = BitVec.ofNat 32 (a &&& b)
  apply BitVec.eq_of_getLsbD_eq
  intro i hi
  simp [hi]
theorem nx_xor (a b : Nat) : nI a ^^^ nI b = nI (a ^^^ b) := by
  apply Int32.toBitVec_inj.1
  show BitVec.ofNat 32 a ^^^ BitVec.ofNat 32 b = BitVec.ofNat 32 (a ^^^ b)
  apply BitVec.eq_of_getLsbD_eq
  intro i hi
  simp [hi]
/-! numbers of this claim -/
def bI (b : Bool) : Int32 := if b = true then nI 1 else nI 0
theorem bI_t : bI true = nI 1 := rfl
theorem bI_f : bI false = nI 0 := rfl
theorem bI_nar (b : Bool) : narrow .boolean (.int (bI b)) = .int (bI b) := by cases b <;> decide +kernel
theorem bI_vn (b : Bool) : vp_nar .boolean (bI b) = bI b := by cases b <;> decide +kernel
theorem w_add : ∀ y, y < 16 → ∀ x, x < 16 → (nI y + nI x) &&& nI 15 = nI ((y + x) % 16) := by decide +kernel
theorem w_sub : ∀ y, y < 16 → ∀ x, x < 16 → (nI y - nI x) &&& nI 15 = nI ((y + 16 - x) % 16) := by decide +kernel
theorem w_mul : ∀ y, y < 16 → ∀ x, x < 16 → (nI y * nI x) &&& nI 15 = nI ((y * x) % 16) := by decide +kernel
theorem w_and16 {y x : Nat} (hy : y < 16) : y &&& x < 16 := Nat.lt_of_le_of_lt Nat.and_le_left hy
theorem w_xor16 {y x : Nat} (hy : y < 16) (hx : x < 16) : y ^^^ x < 16 := Nat.xor_lt_two_pow (n := 4) hy hx
theorem nI_m1 {a : Nat} (h : a < 2 ^ 31) : nI a ≠ -1 := by
  intro e
  have := congrArg Int32.toInt e
  rw [nI_toInt h] at this
  have h2 : (-1 : Int32).toInt = -1 := by decide +kernel
  omega
def pk5 (c : Nat → Nat) : Nat := c 0 + 16 * c 1 + 256 * c 2 + 4096 * c 3 + 65536 * c 4
def c16 (c : Nat → Nat) : Prop := ∀ i, i < 5 → c i < 16
theorem c16.lt {c : Nat → Nat} (h : c16 c) : pk5 c < 1048576 := by
  have h0 := h 0 (by omega)
  have h1 := h 1 (by omega)
  have h2 := h 2 (by omega)
  have h3 := h 3 (by omega)
  have h4 := h 4 (by omega)
  unfold pk5
  omega
theorem pk5_nib {c : Nat → Nat} (h : c16 c) {i : Nat} (hi : i < 5) : pk5 c / 2 ^ (4 * i) % 16 = c i := by
  have h0 := h 0 (by omega)
  have h1 := h 1 (by omega)
  have h2 := h 2 (by omega)
  have h3 := h 3 (by omega)
  have h4 := h 4 (by omega)
  unfold pk5
  rcases (by omega : i = 0 ∨ i = 1 ∨ i = 2 ∨ i = 3 ∨ i = 4) with rfl | rfl | rfl | rfl | rfl <;> simp only [Nat.reduceMul, Nat.reducePow] <;> omega
theorem pk5_of {c : Nat → Nat} {n : Nat} (hn : n < 1048576) (h : ∀ i, i < 5 → n / 2 ^ (4 * i) % 16 = c i) : n = pk5 c := by
  have h0 := h 0 (by omega)
  have h1 := h 1 (by omega)
  have h2 := h 2 (by omega)
  have h3 := h 3 (by omega)
  have h4 := h 4 (by omega)
  simp only [Nat.reduceMul, Nat.reducePow] at h0 h1 h2 h3 h4
  unfold pk5
  omega
theorem pk5_inj {c c' : Nat → Nat} (h : c16 c) (h' : c16 c') : pk5 c = pk5 c' ↔ ∀ i, i < 5 → c i = c' i := by
  constructor
  · intro e i hi
    rw [← pk5_nib h hi, ← pk5_nib h' hi, e]
  · intro e
    unfold pk5
    rw [e 0 (by omega), e 1 (by omega), e 2 (by omega), e 3 (by omega), e 4 (by omega)]
def wOf (st i : Int32) : Int32 := (st >>> ((nI 4 * i) &&& 31)) &&& nI 15
def wWith (st i x : Int32) : Int32 := (st &&& ((nI 15 <<< ((nI 4 * i) &&& 31)) ^^^ (-1))) ||| (x <<< ((nI 4 * i) &&& 31))
theorem wOf_n {n i : Nat} (hn : n < 2 ^ 31) (hi : i < 5) : wOf (nI n) (nI i) = nI (n / 2 ^ (4 * i) % 16) := by
  unfold wOf
  rw [pk_mul, pk_shrN hn _ (4 * i) (s_l (4 * i) (by omega)), pk_andN (Nat.lt_of_le_of_lt (Nat.div_le_self _ _) (by omega)) 4 (by decide +kernel)]
theorem wOf_c {c : Nat → Nat} (h : c16 c) {i : Nat} (hi : i < 5) : wOf (nI (pk5 c)) (nI i) = nI (c i) := by
  rw [wOf_n (by have := h.lt; omega) hi, pk5_nib h hi]
theorem bal_c {c : Nat → Nat} (h : c16 c) : nI (pk5 c) >>> (nI 16 &&& 31) = nI (c 4) := by
  rw [pk_shrN (by have := h.lt; omega) _ 16 (s_l 16 (by omega))]
  congr 1
  have h0 := h 0 (by omega)
  have h1 := h 1 (by omega)
  have h2 := h 2 (by omega)
  have h3 := h 3 (by omega)
  unfold pk5
  omega
theorem nx_or (a b : Nat) : nI a ||| nI b = nI (a ||| b) := by
  apply Int32.toBitVec_inj.mp
  rw [Int32.toBitVec_or]
  apply BitVec.eq_of_toNat_eq
  rw [BitVec.toNat_or]
  show a % 2 ^ 32 ||| b % 2 ^ 32 = (a ||| b) % 2 ^ 32
  rw [Nat.or_mod_two_pow]
theorem w_mask : ∀ i, i < 4 → ((nI 15 <<< (nI (4 * i) &&& 31)) ^^^ (-1)) = nI (4294967295 - 15 * 2 ^ (4 * i)) := by decide +kernel
theorem nup_c16 {c : Nat → Nat} (h : c16 c) {i x : Nat} (hx : x < 16) : c16 (nup c i x) := by
  intro j hj
  unfold nup
  split
  · exact hx
  · exact h j hj
theorem wWith_c {c : Nat → Nat} (h : c16 c) {i x : Nat} (hi : i < 4) (hx : x < 16) : wWith (nI (pk5 c)) (nI i) (nI x) = nI (pk5 (nup c i x)) := by
  unfold wWith
  rw [pk_mul, w_mask i hi, nx_and, pk_shlN _ (4 * i) (s_l (4 * i) (by omega)) (by
    rcases (by omega : i = 0 ∨ i = 1 ∨ i = 2 ∨ i = 3) with rfl | rfl | rfl | rfl <;> simp only [Nat.reduceMul, Nat.reducePow] <;> omega), nx_or]
  congr 1
  have hl := h.lt
  have hb : pk5 c &&& (4294967295 - 15 * 2 ^ (4 * i)) < 2 ^ 20 := Nat.lt_of_le_of_lt Nat.and_le_left hl
  have hs : x * 2 ^ (4 * i) < 2 ^ 20 := by
    rcases (by omega : i = 0 ∨ i = 1 ∨ i = 2 ∨ i = 3) with rfl | rfl | rfl | rfl <;> simp only [Nat.reduceMul, Nat.reducePow] <;> omega
  refine pk5_of (Nat.or_lt_two_pow hb hs) (fun j hj => ?_)
  have e16 : (16 : Nat) = 2 ^ 4 := rfl
  rw [Nat.or_div_two_pow, e16, Nat.or_mod_two_pow, Nat.and_div_two_pow, Nat.and_mod_two_pow, ← e16, pk5_nib h hj]
  have hcj := h j hj
  have key : ∀ i, i < 4 → ∀ j, j < 5 → ((4294967295 - 15 * 2 ^ (4 * i)) / 2 ^ (4 * j)) % 16 = if j = i then 0 else 15 := by decide +kernel
  have key2 : ∀ i, i < 4 → ∀ j, j < 5 → ∀ x, x < 16 → (x * 2 ^ (4 * i)) / 2 ^ (4 * j) % 16 = if j = i then x else 0 := by decide +kernel
  have key3 : ∀ y, y < 16 → y &&& 15 = y := by decide +kernel
  rw [key i hi j hj, key2 i hi j hj x hx]
  unfold nup
  by_cases e : j = i
  · simp [e]
  · simp [e, key3 _ hcj]
/-- in range: the number, if it is below n -/
def inR (x : Int32) (n : Nat) : Option Nat := if 0 ≤ x ∧ x < nI n then some x.toNatClampNeg else none
theorem inR_cases (x : Int32) {n : Nat} (hn : n < 2 ^ 31) : (inR x n = none ∧ ¬ (0 ≤ x ∧ x < nI n)) ∨ ∃ j, j < n ∧ x = nI j ∧ inR x n = some j := by
  by_cases h : 0 ≤ x ∧ x < nI n
  · right
    obtain ⟨j, hj, rfl⟩ := nI_of (x := x) (Int32.not_lt.mpr h.1)
    refine ⟨j, (nI_ltI hj hn).mp h.2, rfl, ?_⟩
    unfold inR
    rw [if_pos h, nI_clamp hj]
  · left
    exact ⟨if_neg h, h⟩
theorem inR_n {j n : Nat} (h : j < n) (hn : n < 2 ^ 31) : inR (nI j) n = some j := by
  unfold inR
  rw [if_pos ⟨nI_pos' (by omega), nI_lt h hn⟩, nI_clamp (by omega)]
