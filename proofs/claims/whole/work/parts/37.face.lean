/-! the abstract machine: code, balance, limit, what was explored, what was replayed -/
abbrev AS : Type := CDE × Nat × Nat × Option XP × Option (Nat → Nat)
def cdAdd (cd : CDE) (o b : Nat) : CDE := (cd.1 + 1, nup cd.2.1 cd.1 o, nup cd.2.2 cd.1 b)
def cd0 : CDE := (0, fun _ => 0, fun _ => 0)
def aAdd (a : AS) (x y : Int32) : Int32 × AS := match inR x 25, inR y 16 with
  | some o, some b => if a.1.1 < 32 then (nI a.1.1, (cdAdd a.1 o b, a.2)) else (-1, a)
  | _, _ => (-1, a)
def aClear (a : AS) : AS := (cd0, a.2)
def aStart (a : AS) (x y : Int32) : Bool × AS := match inR x 16, inR y 41 with
  | some b, some n => if 1 ≤ n then (true, (a.1, b, n, a.2.2.2)) else (false, a)
  | _, _ => (false, a)
def aXp (a : AS) (n : Nat) : XP := (a.1, a.2.1, a.2.2.1, n)
def aExp (a : AS) (n : Nat) : Int32 × AS := if xCount (aXp a n) ≤ 40 then (nI (xCount (aXp a n)), (a.1, a.2.1, a.2.2.1, some (aXp a n), a.2.2.2.2)) else (-2, (a.1, a.2.1, a.2.2.1, none, a.2.2.2.2))
def aExplore (a : AS) (x : Int32) : Int32 × AS := if x = nI 1 then aExp a 1 else if x = nI 2 then aExp a 2 else (-1, a)
def eN (e : Option XP) : Nat := match e with
  | none => 0
  | some q => xCount q
def aPath (e : Option XP) (x : Int32) (f : XP → Nat → Int32) : Int32 := match e with
  | none => -1
  | some q => match inR x (xCount q) with
    | none => -1
    | some p => f q (xwit q p)
def aInputs (e : Option XP) (x : Int32) : Int32 := aPath e x (fun q w => nI (xIn q w))
def aWitness (e : Option XP) (x : Int32) : Int32 := aPath e x (fun _ w => nI w)
def aEnd (e : Option XP) (x t : Int32) : Int32 := aPath e x (fun q w => match inR t q.2.2.2 with
  | none => -1
  | some u => nI (kOf q w u).2)
def aStep (e : Option XP) (x t kk : Int32) : Int32 := aPath e x (fun q w => match inR t q.2.2.2 with
  | none => -1
  | some u => match inR kk (kOf q w u).1.length with
    | some i => nI ((kOf q w u).1.getD i 0)
    | none => -1)
def aLeft (e : Option XP) (x y : Int32) : Int32 := aPath e x (fun q w => match inR y 5 with
  | none => -1
  | some i => nI (xCel q w i + (if xAll q w i = true then 16 else 0)))
def aFinding (e : Option XP) (x y : Int32) : Int32 := match e, inR x 5, inR y 32 with
  | some q, some kd, some i => xLst q kd i
  | _, _, _ => -1
def aRisk (e : Option XP) (x y z : Int32) : Int32 := aPath e x (fun q w => match inR y 5, inR z 32 with
  | some kd, some i => nI (xRisk q w kd i)
  | _, _ => -1)
def rpOf (r : PM) : Nat → Nat := fun i => if i < 5 then pCe r i else if i = 5 then pGa r else pDe r
def aRep (a : AS) (n m : Nat) : Int32 × AS := (nI (pHo (xL (aXp a n) m)), (a.1, a.2.1, a.2.2.1, a.2.2.2.1, some (rpOf (xL (aXp a n) m))))
def aReplay (a : AS) (x y : Int32) : Int32 × AS := if x = nI 1 then (match inR y 64 with | some m => aRep a 1 m | none => (-1, a)) else if x = nI 2 then (match inR y 4096 with | some m => aRep a 2 m | none => (-1, a)) else (-1, a)
def aReplayed (a : AS) (x : Int32) : Int32 := match a.2.2.2.2, inR x 7 with
  | some f, some i => nI (f i)
  | _, _ => -1
def xRp (sg : SG) (rp : Option (Nat → Nat)) : Prop := match rp with
  | none => sg 0 3 = bI false
  | some f => sg 0 3 = bI true ∧ ∀ i, i < 7 → sg 40 i = nI (f i)
/-- the object under test stands for the abstract machine -/
def xS (sg : SG) (a : AS) : Prop := xCode sg a.1 ∧ (sg 0 4 = nI a.2.1 ∧ a.2.1 < 16) ∧ (sg 0 5 = nI a.2.2.1 ∧ 1 ≤ a.2.2.1 ∧ a.2.2.1 ≤ 40) ∧ xEx sg a.2.2.2.1 ∧ xRp sg a.2.2.2.2
def xFo (sg sg' : SG) : Prop := ∀ o, 41 ≤ o → sg' o = sg o
theorem find_cg {α : Type} {p q : α → Bool} : ∀ (l : List α), (∀ x, x ∈ l → p x = q x) → l.find? p = l.find? q := by
  intro l
  induction l with
  | nil => intro _; rfl
  | cons a l ih =>
    intro h
    rw [List.find?_cons, List.find?_cons, h a List.mem_cons_self, ih (fun x hx => h x (List.mem_cons_of_mem _ hx))]
theorem mkAt_add (cd : CDE) (o b a : Nat) : mkAt (cdAdd cd o b) a = match mkAt cd a with
    | some k => some k
    | none => if o = 16 ∧ b = a then some cd.1 else none := by
  have e1 : (List.range cd.1).find? (fun k => decide ((cdAdd cd o b).2.1 k = 16 ∧ (cdAdd cd o b).2.2 k = a)) = mkAt cd a := find_cg _ (fun k hk => by
    have hk := List.mem_range.mp hk
    have h1 : (cdAdd cd o b).2.1 k = cd.2.1 k := if_neg (by omega)
    have h2 : (cdAdd cd o b).2.2 k = cd.2.2 k := if_neg (by omega)
    rw [h1, h2])
  have h1 : (cdAdd cd o b).2.1 cd.1 = o := if_pos rfl
  have h2 : (cdAdd cd o b).2.2 cd.1 = b := if_pos rfl
  have e0 : mkAt (cdAdd cd o b) a = (List.range (cd.1 + 1)).find? (fun k => decide ((cdAdd cd o b).2.1 k = 16 ∧ (cdAdd cd o b).2.2 k = a)) := rfl
  rw [e0, List.range_succ, List.find?_append, e1]
  cases hm : mkAt cd a with
  | some k => rfl
  | none =>
    simp only [List.find?_cons, h1, h2, Option.none_or, List.find?_nil]
    by_cases c : o = 16 ∧ b = a
    · simp [c]
    · rw [if_neg c, decide_eq_false c]
theorem cdAdd_ok {cd : CDE} {o b : Nat} (h : cdOK cd) (hn : cd.1 < 32) (ho : o < 25) (hb : b < 16) : cdOK (cdAdd cd o b) := by
  refine ⟨hn, fun i hi => ?_⟩
  have hi : i < cd.1 + 1 := hi
  show nup cd.2.1 cd.1 o i < 25 ∧ nup cd.2.2 cd.1 b i < 16
  unfold nup
  by_cases e : i = cd.1
  · rw [if_pos e, if_pos e]; exact ⟨ho, hb⟩
  · rw [if_neg e, if_neg e]; exact h.2 i (by omega)
theorem k_C_append (w : WC) (l : Launch) (sg : SG) {cd : CDE} {o b : Nat} (h : xCode sg cd) (ho : o < 25) (hb : b < 16) : ew_M qS w l qy_C_append qw_C_append qr_C_append [.inr 2, .inl (nI o), .inl (nI b)] sg (fun v sg' => ((cd.1 < 32 ∧ v = some (.inl (nI cd.1)) ∧ xCode sg' (cdAdd cd o b)) ∨ (¬ cd.1 < 32 ∧ v = some (.inl (-1)) ∧ sg' = sg)) ∧ ∀ q, q < 2 ∨ 5 < q → sg' q = sg q) := by
  obtain ⟨h1, h2, h3, h4⟩ := id h
  have h32 := h1.1
  refine ew_entry (ws' := qwg) (own := qR_C) (cc := qc_C_append) (nL := 3) (ret := some .int) qnk (by decide) rfl rfl (Nat.le_of_ble_eq_true rfl) ?_
  intro k g hp
  refine ew_aload_n g qd_C_append_0 rfl ?_
  refine ew_get g qd_C_append_1 qf_C_21 (by decide) rfl rfl ?_
  refine en_top h2 ?_
  refine ew_bipush g qd_C_append_4 bp_32 ?_
  refine en_lt g qd_C_append_6 (tgt := 11) (by decide) (by omega) (by omega) (fun hlt => ?_) (fun hlt => ?_)
  · have hfin : ∀ (sg1 : SG), sg1 2 3 = nI cd.1 → sg1 3 = upd (sg 3) cd.1 (nI o) → sg1 4 = upd (sg 4) cd.1 (nI b) → (∀ a, a < 16 → sg1 5 a = mkI (cdAdd cd o b) a) → (∀ q, q < 2 ∨ 5 < q → sg1 q = sg q) → ew_E qS w 3 k 57 [some (.inr 2), some (.inl (nI o)), some (.inl (nI b))] [] sg1 := by
      intro sg1 s1 s2 s3 s4 s5
      refine ew_aload_n g qd_C_append_57 rfl ?_
      refine ew_dup g qd_C_append_58 ?_
      refine ew_get g qd_C_append_59 qf_C_21 (by decide) rfl rfl ?_
      refine en_top s1 ?_
      refine ew_iconst g qd_C_append_62 ic_1 ?_
      refine ew_iadd g qd_C_append_63 ?_
      refine en_top (nI_add _ _) ?_
      refine ew_put g qd_C_append_64 qf_C_21 (qp_C_size _) (by decide) rfl rfl ?_
      refine ew_aload_n g qd_C_append_67 rfl ?_
      refine ew_get g qd_C_append_68 qf_C_21 (by decide) rfl rfl ?_
      refine en_top (show sup sg1 2 3 (nI (cd.1 + 1)) 2 3 = nI (cd.1 + 1) by rw [sup_s, pk_us]) ?_
      refine ew_iconst g qd_C_append_71 ic_1 ?_
      refine ew_isub g qd_C_append_72 ?_
      refine en_top (pk_sub (by omega)) ?_
      refine ew_iret g qd_C_append_73 hp ?_
      refine ⟨Or.inl ⟨hlt, rfl, cdAdd_ok h1 hlt ho hb, by rw [sup_s, pk_us]; rfl, fun i hi => ?_, fun a ha => by rw [sup_n (by decide)]; exact s4 a ha⟩, fun q hq => by rw [sup_n (by omega)]; exact s5 q hq⟩
      have hi : i < cd.1 + 1 := hi
      rw [sup_n (by decide), sup_n (by decide), s2, s3]
      show upd (sg 3) cd.1 (nI o) i = nI (nup cd.2.1 cd.1 o i) ∧ upd (sg 4) cd.1 (nI b) i = nI (nup cd.2.2 cd.1 b i)
      unfold upd nup
      by_cases e : i = cd.1
      · rw [if_pos e, if_pos e, if_pos e, if_pos e]; exact ⟨rfl, rfl⟩
      · rw [if_neg e, if_neg e, if_neg e, if_neg e]; exact h3 i (by omega)
    have hmk : ∀ a, mkI (cdAdd cd o b) a = match mkAt cd a with | some k => nI k | none => if o = 16 ∧ b = a then nI cd.1 else -1 := fun a => by
      unfold mkI
      rw [mkAt_add]
      cases mkAt cd a with
      | some k => rfl
      | none =>
        by_cases c : o = 16 ∧ b = a
        · simp only [if_pos c]
        · simp only [if_neg c]
    have hold : ∀ a, a < 16 → ¬ (o = 16 ∧ b = a ∧ mkAt cd a = none) → sg 5 a = mkI (cdAdd cd o b) a := fun a ha hno => by
      rw [h4 a ha, hmk a]
      unfold mkI
      cases hm : mkAt cd a with
      | some k => rfl
      | none => simp only []; rw [if_neg (fun z => hno ⟨z.1, z.2, hm⟩)]
    refine ew_aload_n g qd_C_append_11 rfl ?_
    refine ew_getR g qd_C_append_12 qf_C_9 (by decide) rfl rfl ?_
    refine ew_aload_n g qd_C_append_15 rfl ?_
    refine ew_get g qd_C_append_16 qf_C_21 (by decide) rfl rfl ?_
    refine en_top h2 ?_
    refine ew_iload_n g qd_C_append_19 rfl ?_
    refine en_iast g qd_C_append_20 (by decide) rfl (by omega) (by omega) ?_
    refine ew_aload_n g qd_C_append_21 rfl ?_
    refine ew_getR g qd_C_append_22 qf_C_15 (by decide) rfl rfl ?_
    refine ew_aload_n g qd_C_append_25 rfl ?_
    refine ew_get g qd_C_append_26 qf_C_21 (by decide) rfl rfl ?_
    refine en_top (show sup sg 3 cd.1 (nI o) 2 3 = nI cd.1 by rw [sup_n (by decide)]; exact h2) ?_
    refine ew_iload_n g qd_C_append_29 rfl ?_
    refine en_iast g qd_C_append_30 (by decide) rfl (by omega) (by omega) ?_
    refine ew_iload_n g qd_C_append_31 rfl ?_
    refine ew_bipush g qd_C_append_32 bp_16 ?_
    have s1 : sup (sup sg 3 cd.1 (nI o)) 4 cd.1 (nI b) 2 3 = nI cd.1 := by rw [sup_n (by decide), sup_n (by decide)]; exact h2
    have s2 : sup (sup sg 3 cd.1 (nI o)) 4 cd.1 (nI b) 3 = upd (sg 3) cd.1 (nI o) := by rw [sup_n (by decide), sup_s]
    have s3 : sup (sup sg 3 cd.1 (nI o)) 4 cd.1 (nI b) 4 = upd (sg 4) cd.1 (nI b) := by rw [sup_s, sup_n (by decide)]
    have s5 : sup (sup sg 3 cd.1 (nI o)) 4 cd.1 (nI b) 5 = sg 5 := by rw [sup_n (by decide), sup_n (by decide)]
    have s6 : ∀ q, q < 2 ∨ 5 < q → sup (sup sg 3 cd.1 (nI o)) 4 cd.1 (nI b) q = sg q := fun q hq => by rw [sup_n (by omega), sup_n (by omega)]
    refine en_ne g qd_C_append_34 (tgt := 57) (by decide) (by omega) (by omega) (fun ho16 => ?_) (fun ho16 => ?_)
    · exact hfin _ s1 s2 s3 (fun a ha => by rw [s5]; exact hold a ha (fun z => ho16 z.1)) s6
    · refine ew_aload_n g qd_C_append_37 rfl ?_
      refine ew_getR g qd_C_append_38 qf_C_18 (by decide) rfl rfl ?_
      refine ew_iload_n g qd_C_append_41 rfl ?_
      refine en_iald g qd_C_append_42 (by decide) rfl (by omega) (by omega) (show sup (sup sg 3 cd.1 (nI o)) 4 cd.1 (nI b) 5 b = mkI cd b by rw [s5]; exact h4 b hb) ?_
      refine ew_iconst g qd_C_append_43 ic_m1 ?_
      refine ew_icmp_ne g qd_C_append_44 (tgt := 57) (by decide) (fun hm => ?_) (fun hm => ?_)
      · exact hfin _ s1 s2 s3 (fun a ha => by rw [s5]; exact hold a ha (fun z => hm ((mkI_m h32 b).mpr (z.2.1 ▸ z.2.2)))) s6
      · have hmn := (mkI_m h32 b).mp hm
        refine ew_aload_n g qd_C_append_47 rfl ?_
        refine ew_getR g qd_C_append_48 qf_C_18 (by decide) rfl rfl ?_
        refine ew_iload_n g qd_C_append_51 rfl ?_
        refine ew_aload_n g qd_C_append_52 rfl ?_
        refine ew_get g qd_C_append_53 qf_C_21 (by decide) rfl rfl ?_
        refine en_top s1 ?_
        refine en_iast g qd_C_append_56 (by decide) rfl (by omega) (by omega) ?_
        refine hfin _ (by rw [sup_n (by decide)]; exact s1) (by rw [sup_n (by decide)]; exact s2) (by rw [sup_n (by decide)]; exact s3) (fun a ha => ?_) (fun q hq => by rw [sup_n (by omega)]; exact s6 q hq)
        rw [sup_s]
        by_cases e : a = b
        · subst e
          rw [pk_us, hmk, hmn]
          exact (if_pos ⟨ho16, rfl⟩).symm
        · rw [pk_un e, s5]
          exact hold a ha (fun z => e z.2.1.symm)
  · refine ew_iconst g qd_C_append_9 ic_m1 ?_
    refine ew_iret g qd_C_append_10 hp ?_
    exact ⟨Or.inr ⟨by omega, rfl, rfl⟩, fun _ _ => rfl⟩
theorem k_C_wipe (w : WC) (l : Launch) (sg : SG) : ew_M qS w l qy_C_wipe qw_C_wipe qr_C_wipe [.inr 2] sg (fun v sg' => v = none ∧ xCode sg' cd0 ∧ ∀ q, q < 2 ∨ 5 < q → sg' q = sg q) := by
  refine ew_entry (ws' := qwg) (own := qR_C) (cc := qc_C_wipe) (nL := 1) (ret := none) qnk (by decide) rfl rfl (Nat.le_of_ble_eq_true rfl) ?_
  intro k g hp
  refine ew_aload_n g qd_C_wipe_0 rfl ?_
  refine ew_iconst g qd_C_wipe_1 ic_0 ?_
  refine ew_put g qd_C_wipe_2 qf_C_21 (qp_C_size _) (by decide) rfl rfl ?_
  refine ew_aload_n g qd_C_wipe_5 rfl ?_
  refine ew_getR g qd_C_wipe_6 qf_C_18 (by decide) rfl rfl ?_
  refine ew_iconst g qd_C_wipe_9 ic_m1 ?_
  refine ew_callS g qd_C_wipe_10 (k_A_fill w k.2.1 _ (-1) (o := 5) (n := 16) (by decide) rfl (by decide)) qs_C_25 rfl rfl (Nat.le_of_ble_eq_true rfl) ⟨rfl, rfl, by decide, by decide⟩ (fun v sg1 hv => ?_)
  obtain ⟨rfl, rfl⟩ := hv
  refine ew_vret g qd_C_wipe_13 hp ?_
  refine ⟨rfl, ⟨⟨by decide, fun i hi => absurd hi (Nat.not_lt_zero i)⟩, ?_, fun i hi => absurd hi (Nat.not_lt_zero i), fun a ha => ?_⟩, fun q hq => ?_⟩
  · rw [sfil_n (by decide), sup_s, pk_us]; rfl
  · rw [sfil_at ha]; rfl
  · rw [sfil_n (by omega), sup_n (by omega)]
theorem xQ_fr {sg sg' : SG} {q : XP} (h : xQ sg q) (hf : ∀ o, 9 ≤ o → o ≤ 39 → sg' o = sg o) : xQ sg' q := by
  obtain ⟨h1, h2, h3, h4, ⟨ka, kb, y1, y2, y3⟩, h6⟩ := h
  refine ⟨h1, h2, by rw [hf 28 (by decide) (by decide)]; exact h3, by rw [hf 9 (by decide) (by decide)]; exact h4, ⟨ka, kb, yW_fr y1 (fun o a b => hf o (by omega) (by omega)), fun z => yW_fr (y2 z) (fun o a b => hf o (by omega) (by omega)), fun p hp => ?_⟩, by rw [hf 38 (by decide) (by decide)]; exact h6⟩
  obtain ⟨r, hr⟩ := y3 p hp
  refine ⟨r, ?_⟩
  unfold xRow
  rw [hf 36 (by decide) (by decide), hf 30 (by decide) (by decide), hf 31 (by decide) (by decide), hf 32 (by decide) (by decide), hf 33 (by decide) (by decide), hf 34 (by decide) (by decide), hf 35 (by decide) (by decide), hf 39 (by decide) (by decide)]
  exact hr
theorem xEx_fr {sg sg' : SG} {e : Option XP} (h : xEx sg e) (hf : ∀ o, 9 ≤ o → o ≤ 39 → sg' o = sg o) : xEx sg' e := by
  cases e with
  | none =>
    have h : sg 28 8 = nI 0 ∧ ∀ p, p < 160 → sg 38 p = -1 := h
    show sg' 28 8 = nI 0 ∧ ∀ p, p < 160 → sg' 38 p = -1
    rw [hf 28 (by decide) (by decide), hf 38 (by decide) (by decide)]
    exact h
  | some q => exact xQ_fr h hf
theorem xRp_fr {sg sg' : SG} {e : Option (Nat → Nat)} (h : xRp sg e) (h0 : sg' 0 3 = sg 0 3) (h40 : sg' 40 = sg 40) : xRp sg' e := by
  cases e with
  | none =>
    have h : sg 0 3 = bI false := h
    show sg' 0 3 = bI false
    rw [h0]; exact h
  | some f =>
    have h : sg 0 3 = bI true ∧ ∀ i, i < 7 → sg 40 i = nI (f i) := h
    show sg' 0 3 = bI true ∧ ∀ i, i < 7 → sg' 40 i = nI (f i)
    rw [h0, h40]; exact h
theorem inR_b {x : Int32} {n : Nat} (hn : n < 2 ^ 31) : bI (decide (0 ≤ x ∧ x < nI n)) = match inR x n with | some _ => nI 1 | none => nI 0 := by
  rcases inR_cases x hn with ⟨h1, h2⟩ | ⟨j, h1, rfl, h3⟩
  · rw [h1, decide_eq_false h2]; rfl
  · rw [h3, decide_eq_true ⟨nI_pos' (by omega), nI_lt h1 hn⟩]; rfl
theorem inR_s {x : Int32} {n j : Nat} (hn : n < 2 ^ 31) (h : inR x n = some j) : j < n ∧ x = nI j := by
  rcases inR_cases x hn with ⟨h1, -⟩ | ⟨i, h1, h2, h3⟩
  · rw [h] at h1; cases h1
  · rw [h] at h3; cases h3; exact ⟨h1, h2⟩
theorem k_X_add (w : WC) (l : Launch) (sg : SG) {a : AS} (h : xS sg a) (x y : Int32) : ew_M qS w l qy_X_add qw_X_add qr_X_add [.inr 0, .inl x, .inl y] sg (fun v sg' => v = some (.inl (aAdd a x y).1) ∧ xS sg' (aAdd a x y).2 ∧ xFo sg sg') := by
  refine ew_entry (ws' := qwg) (own := qR_X) (cc := qc_X_add) (nL := 3) (ret := some .int) qnk (by decide) rfl rfl (Nat.le_of_ble_eq_true rfl) ?_
  intro k g hp
  have hno : aAdd a x y = (-1, a) → ew_E qS w 3 k 18 [some (.inr 0), some (.inl x), some (.inl y)] [] sg := by
    intro e
    refine ew_iconst g qd_X_add_18 ic_m1 ?_
    refine ew_iret g qd_X_add_19 hp ?_
    rw [e]
    exact ⟨rfl, h, fun _ _ => rfl⟩
  refine ew_iload_n g qd_X_add_0 rfl ?_
  refine ew_bipush g qd_X_add_1 bp_25 ?_
  refine ew_callS g qd_X_add_3 (k_X_isBelow w k.2.1 sg _ _) qs_X_38 rfl rfl (Nat.le_of_ble_eq_true rfl) ⟨rfl, rfl, by decide, by decide⟩ (fun v sg1 hv => ?_)
  obtain ⟨rfl, rfl⟩ := hv
  cases hx : inR x 25 with
  | none =>
    refine en_top (show _ = nI 0 by rw [inR_b (by decide), hx]) ?_
    refine en_if_eq g qd_X_add_6 (tgt := 18) (by decide) (by omega) (fun hz => ?_) (fun hz => ?_)
    · exact hno (by unfold aAdd; rw [hx])
    · exact absurd rfl hz
  | some o =>
    refine en_top (show _ = nI 1 by rw [inR_b (by decide), hx]) ?_
    refine en_if_eq g qd_X_add_6 (tgt := 18) (by decide) (by omega) (fun hz => ?_) (fun hz => ?_)
    · exact absurd hz (by decide)
    · refine ew_iload_n g qd_X_add_9 rfl ?_
      refine ew_bipush g qd_X_add_10 bp_16 ?_
      refine ew_callS g qd_X_add_12 (k_X_isBelow w k.2.1 sg1 _ _) qs_X_38 rfl rfl (Nat.le_of_ble_eq_true rfl) ⟨rfl, rfl, by decide, by decide⟩ (fun v sg2 hv => ?_)
      obtain ⟨rfl, rfl⟩ := hv
      cases hy : inR y 16 with
      | none =>
        refine en_top (show _ = nI 0 by rw [inR_b (by decide), hy]) ?_
        refine en_if_ne g qd_X_add_15 (tgt := 20) (by decide) (by omega) (fun hz => ?_) (fun hz => ?_)
        · exact absurd rfl hz
        · exact hno (by unfold aAdd; rw [hx, hy])
      | some b =>
        obtain ⟨o1, rfl⟩ := inR_s (by decide) hx
        obtain ⟨b1, rfl⟩ := inR_s (by decide) hy
        refine en_top (show _ = nI 1 by rw [inR_b (by decide), hy]) ?_
        refine en_if_ne g qd_X_add_15 (tgt := 20) (by decide) (by omega) (fun hz => ?_) (fun hz => ?_)
        · refine ew_aload_n g qd_X_add_20 rfl ?_
          refine ew_getR g qd_X_add_21 qf_X_12 (by decide) rfl rfl ?_
          refine ew_getR g qd_X_add_24 qf_X_42 (by decide) rfl rfl ?_
          refine ew_iload_n g qd_X_add_27 rfl ?_
          refine ew_iload_n g qd_X_add_28 rfl ?_
          refine ew_callV g qd_X_add_29 (k_C_append w k.2.1 sg2 h.1 o1 b1) qv_X_46 (by decide) rfl ⟨_, _, rfl⟩ rfl rfl (Nat.le_of_ble_eq_true rfl) ⟨rfl, rfl, by decide, by decide⟩ (fun v sg3 hv => ?_)
          obtain ⟨hv, hfr⟩ := hv
          have e : aAdd a (nI o) (nI b) = if a.1.1 < 32 then (nI a.1.1, (cdAdd a.1 o b, a.2)) else (-1, a) := by unfold aAdd; rw [hx, hy]
          rcases hv with ⟨c1, rfl, c3⟩ | ⟨c1, rfl, rfl⟩
          · refine ew_iret g qd_X_add_32 hp ?_
            rw [e, if_pos c1]
            obtain ⟨h1, h2, h3, h4, h5⟩ := h
            refine ⟨rfl, ⟨c3, by rw [hfr 0 (by omega)]; exact h2, by rw [hfr 0 (by omega)]; exact h3, xEx_fr h4 (fun o a b => hfr o (by omega)), xRp_fr h5 (by rw [hfr 0 (by omega)]) (hfr 40 (by omega))⟩, fun o ho => hfr o (by omega)⟩
          · refine ew_iret g qd_X_add_32 hp ?_
            rw [e, if_neg c1]
            exact ⟨rfl, h, fun _ _ => rfl⟩
        · exact absurd hz (by decide)
theorem k_X_clear (w : WC) (l : Launch) (sg : SG) {a : AS} (h : xS sg a) : ew_M qS w l qy_X_clear qw_X_clear qr_X_clear [.inr 0] sg (fun v sg' => v = none ∧ xS sg' (aClear a) ∧ xFo sg sg') := by
  obtain ⟨h1, h2, h3, h4, h5⟩ := h
  refine ew_entry (ws' := qwg) (own := qR_X) (cc := qc_X_clear) (nL := 1) (ret := none) qnk (by decide) rfl rfl (Nat.le_of_ble_eq_true rfl) ?_
  intro k g hp
  refine ew_aload_n g qd_X_clear_0 rfl ?_
  refine ew_getR g qd_X_clear_1 qf_X_12 (by decide) rfl rfl ?_
  refine ew_getR g qd_X_clear_4 qf_X_42 (by decide) rfl rfl ?_
  refine ew_callV g qd_X_clear_7 (k_C_wipe w k.2.1 sg) qv_X_52 (by decide) rfl ⟨_, _, rfl⟩ rfl rfl (Nat.le_of_ble_eq_true rfl) ⟨rfl, rfl, by decide, by decide⟩ (fun v sg1 hv => ?_)
  obtain ⟨rfl, c3, hfr⟩ := hv
  refine ew_vret g qd_X_clear_10 hp ?_
  exact ⟨rfl, ⟨c3, by rw [hfr 0 (by omega)]; exact h2, by rw [hfr 0 (by omega)]; exact h3, xEx_fr h4 (fun o a b => hfr o (by omega)), xRp_fr h5 (by rw [hfr 0 (by omega)]) (hfr 40 (by omega))⟩, fun o ho => hfr o (by omega)⟩
theorem lim_c {y : Int32} {n : Nat} (h : inR y 41 = some n) : (y < nI 1 ↔ n < 1) ∧ y ≤ nI 40 := by
  obtain ⟨h1, rfl⟩ := inR_s (by decide) h
  exact ⟨nI_ltI (by omega) (by decide), (nI_leI (by omega) (by decide)).mpr (by omega)⟩
theorem lim_n {y : Int32} (h : inR y 41 = none) : y < nI 1 ∨ ¬ y ≤ nI 40 := by
  rcases inR_cases y (n := 41) (by decide) with ⟨-, h2⟩ | ⟨j, -, -, h3⟩
  · have e0 : (0 : Int32).toInt = 0 := by decide +kernel
    have e1 : (nI 1).toInt = 1 := by decide +kernel
    have e40 : (nI 40).toInt = 40 := by decide +kernel
    have e41 : (nI 41).toInt = 41 := by decide +kernel
    rw [Int32.le_iff_toInt_le, Int32.lt_iff_toInt_lt, e0, e41] at h2
    rw [Int32.lt_iff_toInt_lt, Int32.le_iff_toInt_le, e1, e40]
    omega
  · rw [h] at h3; cases h3
theorem k_X_start (w : WC) (l : Launch) (sg : SG) {a : AS} (h : xS sg a) (x y : Int32) : ew_M qS w l qy_X_start qw_X_start qr_X_start [.inr 0, .inl x, .inl y] sg (fun v sg' => v = some (.inl (bI (aStart a x y).1)) ∧ xS sg' (aStart a x y).2 ∧ xFo sg sg') := by
  refine ew_entry (ws' := qwg) (own := qR_X) (cc := qc_X_start) (nL := 3) (ret := some .boolean) qnk (by decide) rfl rfl (Nat.le_of_ble_eq_true rfl) ?_
  intro k g hp
  have hno : aStart a x y = (false, a) → ew_E qS w 3 k 20 [some (.inr 0), some (.inl x), some (.inl y)] [] sg := by
    intro e
    refine ew_iconst g qd_X_start_20 ic_0 ?_
    refine ew_zret g qd_X_start_21 hp (by first | exact bI_nar _ | decide +kernel) ?_
    rw [e]
    exact ⟨rfl, h, fun _ _ => rfl⟩
  refine ew_iload_n g qd_X_start_0 rfl ?_
  refine ew_bipush g qd_X_start_1 bp_16 ?_
  refine ew_callS g qd_X_start_3 (k_X_isBelow w k.2.1 sg _ _) qs_X_38 rfl rfl (Nat.le_of_ble_eq_true rfl) ⟨rfl, rfl, by decide, by decide⟩ (fun v sg1 hv => ?_)
  obtain ⟨rfl, rfl⟩ := hv
  cases hx : inR x 16 with
  | none =>
    refine en_top (show _ = nI 0 by rw [inR_b (by decide), hx]) ?_
    refine en_if_eq g qd_X_start_6 (tgt := 20) (by decide) (by omega) (fun hz => ?_) (fun hz => ?_)
    · exact hno (by unfold aStart; rw [hx])
    · exact absurd rfl hz
  | some b =>
    refine en_top (show _ = nI 1 by rw [inR_b (by decide), hx]) ?_
    refine en_if_eq g qd_X_start_6 (tgt := 20) (by decide) (by omega) (fun hz => ?_) (fun hz => ?_)
    · exact absurd hz (by decide)
    · refine ew_iload_n g qd_X_start_9 rfl ?_
      refine ew_iconst g qd_X_start_10 ic_1 ?_
      cases hy : inR y 41 with
      | none =>
        have hno := hno (by unfold aStart; rw [hx, hy])
        refine ew_icmp_lt g qd_X_start_11 (tgt := 20) (by decide) (fun hl => ?_) (fun hl => ?_)
        · exact hno
        · refine ew_iload_n g qd_X_start_14 rfl ?_
          refine ew_bipush g qd_X_start_15 bp_40 ?_
          refine ew_icmp_le g qd_X_start_17 (tgt := 22) (by decide) (fun hg => ?_) (fun hg => ?_)
          · rcases lim_n hy with z | z
            · exact absurd z hl
            · exact absurd hg z
          · exact hno
      | some n =>
        obtain ⟨c1, c2⟩ := lim_c hy
        have e : aStart a x y = if 1 ≤ n then (true, (a.1, b, n, a.2.2.2)) else (false, a) := by unfold aStart; rw [hx, hy]
        refine ew_icmp_lt g qd_X_start_11 (tgt := 20) (by decide) (fun hl => ?_) (fun hl => ?_)
        · exact hno (by rw [e, if_neg (by have := c1.mp hl; omega)])
        · have hn1 : 1 ≤ n := by
            have : ¬ n < 1 := fun z => hl (c1.mpr z)
            omega
          obtain ⟨b1, rfl⟩ := inR_s (by decide) hx
          obtain ⟨n1, rfl⟩ := inR_s (by decide) hy
          refine ew_iload_n g qd_X_start_14 rfl ?_
          refine ew_bipush g qd_X_start_15 bp_40 ?_
          refine ew_icmp_le g qd_X_start_17 (tgt := 22) (by decide) (fun hg => ?_) (fun hg => ?_)
          · refine ew_aload_n g qd_X_start_22 rfl ?_
            refine ew_iload_n g qd_X_start_23 rfl ?_
            refine ew_put g qd_X_start_24 qf_X_31 (qp_X_balance _) (by decide) rfl rfl ?_
            refine ew_aload_n g qd_X_start_27 rfl ?_
            refine ew_iload_n g qd_X_start_28 rfl ?_
            refine ew_put g qd_X_start_29 qf_X_35 (qp_X_limit _) (by decide) rfl rfl ?_
            refine ew_iconst g qd_X_start_32 ic_1 ?_
            refine ew_zret g qd_X_start_33 hp (by first | exact bI_nar _ | decide +kernel) ?_
            rw [e, if_pos hn1]
            obtain ⟨h1, h2, h3, h4, h5⟩ := h
            refine ⟨rfl, ⟨?_, ⟨?_, b1⟩, ⟨?_, hn1, show n ≤ 40 by omega⟩, xEx_fr h4 (fun o a b => by rw [sup_n (by omega), sup_n (by omega)]), xRp_fr h5 ?_ ?_⟩, fun o ho => by rw [sup_n (by omega), sup_n (by omega)]⟩
            · unfold xCode at h1 ⊢
              simp only [sup_n (show (2 : Nat) ≠ 0 by decide), sup_n (show (3 : Nat) ≠ 0 by decide), sup_n (show (4 : Nat) ≠ 0 by decide), sup_n (show (5 : Nat) ≠ 0 by decide)]
              exact h1
            · rw [sup_s, pk_un (by decide), sup_s, pk_us]
            · rw [sup_s, pk_us]
            · rw [sup_s, pk_un (by decide), sup_s, pk_un (by decide)]
            · rw [sup_n (by decide), sup_n (by decide)]
          · exact absurd c2 hg
