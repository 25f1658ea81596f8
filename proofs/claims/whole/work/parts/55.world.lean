/-! the first world, and the law from its entry -/
def sgl : List (Nat → Int32) := [(fun k => [0, 0, 0, (nI 0), (nI 0), (nI 24)].getD k 0), (fun k => [0, 0, (nI 0), (nI 0), (nI 0), (nI 0), (nI 0), (nI 0), (nI 0), (nI 0), 0, (nI 0), (nI 0), 0].getD k 0), (fun k => [0, 0, 0, (nI 0)].getD k 0), (fun _ => 0), (fun _ => 0), (sfil (fun _ => fun _ => 0) 0 16 (-1) 0), (fun _ => 0), (fun _ => 0), (fun _ => 0), (fun k => [0, 0, 0, 0, (nI 0)].getD k 0), (fun k => [0, 0, 0, 0].getD k 0), (fun k => [0, 0, 0, 0, (nI 0)].getD k 0), (fun _ => 0), (fun _ => 0), (fun _ => 0), (fun _ => 0), (fun _ => 0), (fun _ => 0), (fun _ => 0), (fun k => [0, 0, 0, 0].getD k 0), (fun k => [0, 0, 0, 0, (nI 0)].getD k 0), (fun _ => 0), (fun _ => 0), (fun _ => 0), (fun _ => 0), (fun _ => 0), (fun _ => 0), (fun _ => 0), (fun k => [0, 0, 0, 0, 0, 0, 0, 0, (nI 0)].getD k 0), (fun _ => 0), (fun _ => 0), (fun _ => 0), (fun _ => 0), (fun _ => 0), (fun _ => 0), (fun _ => 0), (fun _ => 0), (fun k => [0, 0].getD k 0), (sfil (fun _ => fun _ => 0) 0 160 (-1) 0), (fun _ => 0), (fun _ => 0), (fun k => [0, 0, 0, 0, (nI 24), 0, 0, 0, 0, 0, 0, 0, 0, 0, 0, 0, 0, 0, 0, 0, 0, 0, 0, 0, 0, 0, 0, 0, 0, 0, 0, 0].getD k 0), (fun _ => 0), (fun _ => 0), (fun _ => 0), (fun _ => 0), (fun _ => 0), (fun _ => 0), (fun _ => 0), (fun _ => 0), (fun _ => 0), (fun _ => 0), (fun _ => 0), (fun _ => 0), (fun _ => 0), (fun _ => 0), (fun _ => 0), (fun _ => 0), (fun _ => 0), (fun _ => 0), (fun _ => 0)]
def sg0 : SG := fun o => sgl.getD o (fun _ => 0)
def adl (q0 : Nat) (a1 : Nat → Nat) (qM : Nat) (a2 : Nat → Nat) : List Nat := [q0, a1 0, a1 1, a1 2, a1 3, a1 4, a1 5, a1 6, a1 7, a1 8, a1 9, a1 10, a1 11, a1 12, a1 13, a1 14, a1 15, a1 16, a1 17, a1 18, a1 19, a1 20, a1 21, a1 22, a1 23, a1 24, a1 25, a1 26, a1 27, a1 28, a1 29, a1 30, a1 31, a1 32, a1 33, a1 34, a1 35, a1 36, a1 37, a1 38, a1 39, qM, a2 0, a2 1, a2 2, a2 3, a2 4, a2 5, a2 6, a2 7, a2 8, a2 9, a2 10, a2 11, a2 12, a2 13, a2 14, a2 15, a2 16, a2 17, a2 18]
def ad0 (q0 : Nat) (a1 : Nat → Nat) (qM : Nat) (a2 : Nat → Nat) (tC tT tP b : Nat) : Nat → Nat := fun o => (adl q0 a1 qM a2).getD o (if o = 1000 then tC else if o = 1001 then tT else if o = 1002 then tP else b)
theorem ad_0 (q0 : Nat) (a1 : Nat → Nat) (qM : Nat) (a2 : Nat → Nat) (tC tT tP b : Nat) : ad0 q0 a1 qM a2 tC tT tP b 0 = q0 := rfl
theorem ad_1 (q0 : Nat) (a1 : Nat → Nat) (qM : Nat) (a2 : Nat → Nat) (tC tT tP b : Nat) : ad0 q0 a1 qM a2 tC tT tP b 1 = a1 0 := rfl
theorem ad_2 (q0 : Nat) (a1 : Nat → Nat) (qM : Nat) (a2 : Nat → Nat) (tC tT tP b : Nat) : ad0 q0 a1 qM a2 tC tT tP b 2 = a1 1 := rfl
theorem ad_3 (q0 : Nat) (a1 : Nat → Nat) (qM : Nat) (a2 : Nat → Nat) (tC tT tP b : Nat) : ad0 q0 a1 qM a2 tC tT tP b 3 = a1 2 := rfl
theorem ad_4 (q0 : Nat) (a1 : Nat → Nat) (qM : Nat) (a2 : Nat → Nat) (tC tT tP b : Nat) : ad0 q0 a1 qM a2 tC tT tP b 4 = a1 3 := rfl
theorem ad_5 (q0 : Nat) (a1 : Nat → Nat) (qM : Nat) (a2 : Nat → Nat) (tC tT tP b : Nat) : ad0 q0 a1 qM a2 tC tT tP b 5 = a1 4 := rfl
theorem ad_6 (q0 : Nat) (a1 : Nat → Nat) (qM : Nat) (a2 : Nat → Nat) (tC tT tP b : Nat) : ad0 q0 a1 qM a2 tC tT tP b 6 = a1 5 := rfl
theorem ad_7 (q0 : Nat) (a1 : Nat → Nat) (qM : Nat) (a2 : Nat → Nat) (tC tT tP b : Nat) : ad0 q0 a1 qM a2 tC tT tP b 7 = a1 6 := rfl
theorem ad_8 (q0 : Nat) (a1 : Nat → Nat) (qM : Nat) (a2 : Nat → Nat) (tC tT tP b : Nat) : ad0 q0 a1 qM a2 tC tT tP b 8 = a1 7 := rfl
theorem ad_9 (q0 : Nat) (a1 : Nat → Nat) (qM : Nat) (a2 : Nat → Nat) (tC tT tP b : Nat) : ad0 q0 a1 qM a2 tC tT tP b 9 = a1 8 := rfl
theorem ad_10 (q0 : Nat) (a1 : Nat → Nat) (qM : Nat) (a2 : Nat → Nat) (tC tT tP b : Nat) : ad0 q0 a1 qM a2 tC tT tP b 10 = a1 9 := rfl
theorem ad_11 (q0 : Nat) (a1 : Nat → Nat) (qM : Nat) (a2 : Nat → Nat) (tC tT tP b : Nat) : ad0 q0 a1 qM a2 tC tT tP b 11 = a1 10 := rfl
theorem ad_12 (q0 : Nat) (a1 : Nat → Nat) (qM : Nat) (a2 : Nat → Nat) (tC tT tP b : Nat) : ad0 q0 a1 qM a2 tC tT tP b 12 = a1 11 := rfl
theorem ad_13 (q0 : Nat) (a1 : Nat → Nat) (qM : Nat) (a2 : Nat → Nat) (tC tT tP b : Nat) : ad0 q0 a1 qM a2 tC tT tP b 13 = a1 12 := rfl
theorem ad_14 (q0 : Nat) (a1 : Nat → Nat) (qM : Nat) (a2 : Nat → Nat) (tC tT tP b : Nat) : ad0 q0 a1 qM a2 tC tT tP b 14 = a1 13 := rfl
theorem ad_15 (q0 : Nat) (a1 : Nat → Nat) (qM : Nat) (a2 : Nat → Nat) (tC tT tP b : Nat) : ad0 q0 a1 qM a2 tC tT tP b 15 = a1 14 := rfl
theorem ad_16 (q0 : Nat) (a1 : Nat → Nat) (qM : Nat) (a2 : Nat → Nat) (tC tT tP b : Nat) : ad0 q0 a1 qM a2 tC tT tP b 16 = a1 15 := rfl
theorem ad_17 (q0 : Nat) (a1 : Nat → Nat) (qM : Nat) (a2 : Nat → Nat) (tC tT tP b : Nat) : ad0 q0 a1 qM a2 tC tT tP b 17 = a1 16 := rfl
theorem ad_18 (q0 : Nat) (a1 : Nat → Nat) (qM : Nat) (a2 : Nat → Nat) (tC tT tP b : Nat) : ad0 q0 a1 qM a2 tC tT tP b 18 = a1 17 := rfl
theorem ad_19 (q0 : Nat) (a1 : Nat → Nat) (qM : Nat) (a2 : Nat → Nat) (tC tT tP b : Nat) : ad0 q0 a1 qM a2 tC tT tP b 19 = a1 18 := rfl
theorem ad_20 (q0 : Nat) (a1 : Nat → Nat) (qM : Nat) (a2 : Nat → Nat) (tC tT tP b : Nat) : ad0 q0 a1 qM a2 tC tT tP b 20 = a1 19 := rfl
theorem ad_21 (q0 : Nat) (a1 : Nat → Nat) (qM : Nat) (a2 : Nat → Nat) (tC tT tP b : Nat) : ad0 q0 a1 qM a2 tC tT tP b 21 = a1 20 := rfl
theorem ad_22 (q0 : Nat) (a1 : Nat → Nat) (qM : Nat) (a2 : Nat → Nat) (tC tT tP b : Nat) : ad0 q0 a1 qM a2 tC tT tP b 22 = a1 21 := rfl
theorem ad_23 (q0 : Nat) (a1 : Nat → Nat) (qM : Nat) (a2 : Nat → Nat) (tC tT tP b : Nat) : ad0 q0 a1 qM a2 tC tT tP b 23 = a1 22 := rfl
theorem ad_24 (q0 : Nat) (a1 : Nat → Nat) (qM : Nat) (a2 : Nat → Nat) (tC tT tP b : Nat) : ad0 q0 a1 qM a2 tC tT tP b 24 = a1 23 := rfl
theorem ad_25 (q0 : Nat) (a1 : Nat → Nat) (qM : Nat) (a2 : Nat → Nat) (tC tT tP b : Nat) : ad0 q0 a1 qM a2 tC tT tP b 25 = a1 24 := rfl
theorem ad_26 (q0 : Nat) (a1 : Nat → Nat) (qM : Nat) (a2 : Nat → Nat) (tC tT tP b : Nat) : ad0 q0 a1 qM a2 tC tT tP b 26 = a1 25 := rfl
theorem ad_27 (q0 : Nat) (a1 : Nat → Nat) (qM : Nat) (a2 : Nat → Nat) (tC tT tP b : Nat) : ad0 q0 a1 qM a2 tC tT tP b 27 = a1 26 := rfl
theorem ad_28 (q0 : Nat) (a1 : Nat → Nat) (qM : Nat) (a2 : Nat → Nat) (tC tT tP b : Nat) : ad0 q0 a1 qM a2 tC tT tP b 28 = a1 27 := rfl
theorem ad_29 (q0 : Nat) (a1 : Nat → Nat) (qM : Nat) (a2 : Nat → Nat) (tC tT tP b : Nat) : ad0 q0 a1 qM a2 tC tT tP b 29 = a1 28 := rfl
theorem ad_30 (q0 : Nat) (a1 : Nat → Nat) (qM : Nat) (a2 : Nat → Nat) (tC tT tP b : Nat) : ad0 q0 a1 qM a2 tC tT tP b 30 = a1 29 := rfl
theorem ad_31 (q0 : Nat) (a1 : Nat → Nat) (qM : Nat) (a2 : Nat → Nat) (tC tT tP b : Nat) : ad0 q0 a1 qM a2 tC tT tP b 31 = a1 30 := rfl
theorem ad_32 (q0 : Nat) (a1 : Nat → Nat) (qM : Nat) (a2 : Nat → Nat) (tC tT tP b : Nat) : ad0 q0 a1 qM a2 tC tT tP b 32 = a1 31 := rfl
theorem ad_33 (q0 : Nat) (a1 : Nat → Nat) (qM : Nat) (a2 : Nat → Nat) (tC tT tP b : Nat) : ad0 q0 a1 qM a2 tC tT tP b 33 = a1 32 := rfl
theorem ad_34 (q0 : Nat) (a1 : Nat → Nat) (qM : Nat) (a2 : Nat → Nat) (tC tT tP b : Nat) : ad0 q0 a1 qM a2 tC tT tP b 34 = a1 33 := rfl
theorem ad_35 (q0 : Nat) (a1 : Nat → Nat) (qM : Nat) (a2 : Nat → Nat) (tC tT tP b : Nat) : ad0 q0 a1 qM a2 tC tT tP b 35 = a1 34 := rfl
theorem ad_36 (q0 : Nat) (a1 : Nat → Nat) (qM : Nat) (a2 : Nat → Nat) (tC tT tP b : Nat) : ad0 q0 a1 qM a2 tC tT tP b 36 = a1 35 := rfl
theorem ad_37 (q0 : Nat) (a1 : Nat → Nat) (qM : Nat) (a2 : Nat → Nat) (tC tT tP b : Nat) : ad0 q0 a1 qM a2 tC tT tP b 37 = a1 36 := rfl
theorem ad_38 (q0 : Nat) (a1 : Nat → Nat) (qM : Nat) (a2 : Nat → Nat) (tC tT tP b : Nat) : ad0 q0 a1 qM a2 tC tT tP b 38 = a1 37 := rfl
theorem ad_39 (q0 : Nat) (a1 : Nat → Nat) (qM : Nat) (a2 : Nat → Nat) (tC tT tP b : Nat) : ad0 q0 a1 qM a2 tC tT tP b 39 = a1 38 := rfl
theorem ad_40 (q0 : Nat) (a1 : Nat → Nat) (qM : Nat) (a2 : Nat → Nat) (tC tT tP b : Nat) : ad0 q0 a1 qM a2 tC tT tP b 40 = a1 39 := rfl
theorem ad_41 (q0 : Nat) (a1 : Nat → Nat) (qM : Nat) (a2 : Nat → Nat) (tC tT tP b : Nat) : ad0 q0 a1 qM a2 tC tT tP b 41 = qM := rfl
theorem ad_42 (q0 : Nat) (a1 : Nat → Nat) (qM : Nat) (a2 : Nat → Nat) (tC tT tP b : Nat) : ad0 q0 a1 qM a2 tC tT tP b 42 = a2 0 := rfl
theorem ad_43 (q0 : Nat) (a1 : Nat → Nat) (qM : Nat) (a2 : Nat → Nat) (tC tT tP b : Nat) : ad0 q0 a1 qM a2 tC tT tP b 43 = a2 1 := rfl
theorem ad_44 (q0 : Nat) (a1 : Nat → Nat) (qM : Nat) (a2 : Nat → Nat) (tC tT tP b : Nat) : ad0 q0 a1 qM a2 tC tT tP b 44 = a2 2 := rfl
theorem ad_45 (q0 : Nat) (a1 : Nat → Nat) (qM : Nat) (a2 : Nat → Nat) (tC tT tP b : Nat) : ad0 q0 a1 qM a2 tC tT tP b 45 = a2 3 := rfl
theorem ad_46 (q0 : Nat) (a1 : Nat → Nat) (qM : Nat) (a2 : Nat → Nat) (tC tT tP b : Nat) : ad0 q0 a1 qM a2 tC tT tP b 46 = a2 4 := rfl
theorem ad_47 (q0 : Nat) (a1 : Nat → Nat) (qM : Nat) (a2 : Nat → Nat) (tC tT tP b : Nat) : ad0 q0 a1 qM a2 tC tT tP b 47 = a2 5 := rfl
theorem ad_48 (q0 : Nat) (a1 : Nat → Nat) (qM : Nat) (a2 : Nat → Nat) (tC tT tP b : Nat) : ad0 q0 a1 qM a2 tC tT tP b 48 = a2 6 := rfl
theorem ad_49 (q0 : Nat) (a1 : Nat → Nat) (qM : Nat) (a2 : Nat → Nat) (tC tT tP b : Nat) : ad0 q0 a1 qM a2 tC tT tP b 49 = a2 7 := rfl
theorem ad_50 (q0 : Nat) (a1 : Nat → Nat) (qM : Nat) (a2 : Nat → Nat) (tC tT tP b : Nat) : ad0 q0 a1 qM a2 tC tT tP b 50 = a2 8 := rfl
theorem ad_51 (q0 : Nat) (a1 : Nat → Nat) (qM : Nat) (a2 : Nat → Nat) (tC tT tP b : Nat) : ad0 q0 a1 qM a2 tC tT tP b 51 = a2 9 := rfl
theorem ad_52 (q0 : Nat) (a1 : Nat → Nat) (qM : Nat) (a2 : Nat → Nat) (tC tT tP b : Nat) : ad0 q0 a1 qM a2 tC tT tP b 52 = a2 10 := rfl
theorem ad_53 (q0 : Nat) (a1 : Nat → Nat) (qM : Nat) (a2 : Nat → Nat) (tC tT tP b : Nat) : ad0 q0 a1 qM a2 tC tT tP b 53 = a2 11 := rfl
theorem ad_54 (q0 : Nat) (a1 : Nat → Nat) (qM : Nat) (a2 : Nat → Nat) (tC tT tP b : Nat) : ad0 q0 a1 qM a2 tC tT tP b 54 = a2 12 := rfl
theorem ad_55 (q0 : Nat) (a1 : Nat → Nat) (qM : Nat) (a2 : Nat → Nat) (tC tT tP b : Nat) : ad0 q0 a1 qM a2 tC tT tP b 55 = a2 13 := rfl
theorem ad_56 (q0 : Nat) (a1 : Nat → Nat) (qM : Nat) (a2 : Nat → Nat) (tC tT tP b : Nat) : ad0 q0 a1 qM a2 tC tT tP b 56 = a2 14 := rfl
theorem ad_57 (q0 : Nat) (a1 : Nat → Nat) (qM : Nat) (a2 : Nat → Nat) (tC tT tP b : Nat) : ad0 q0 a1 qM a2 tC tT tP b 57 = a2 15 := rfl
theorem ad_58 (q0 : Nat) (a1 : Nat → Nat) (qM : Nat) (a2 : Nat → Nat) (tC tT tP b : Nat) : ad0 q0 a1 qM a2 tC tT tP b 58 = a2 16 := rfl
theorem ad_59 (q0 : Nat) (a1 : Nat → Nat) (qM : Nat) (a2 : Nat → Nat) (tC tT tP b : Nat) : ad0 q0 a1 qM a2 tC tT tP b 59 = a2 17 := rfl
theorem ad_60 (q0 : Nat) (a1 : Nat → Nat) (qM : Nat) (a2 : Nat → Nat) (tC tT tP b : Nat) : ad0 q0 a1 qM a2 tC tT tP b 60 = a2 18 := rfl
theorem we_0 (D : va_G) (cI cZ : ClassId) (ad : Nat → Nat) : ew_c qS (D, cI, cZ, ad) sg0 0 = .inr (0, [.ref (ad 1), .ref (ad 9), .ref (ad 40), .int (nI 0), .int (nI 0), .int (nI 24)]) := rfl
theorem we_1 (D : va_G) (cI cZ : ClassId) (ad : Nat → Nat) : ew_c qS (D, cI, cZ, ad) sg0 1 = .inr (1, [.ref (ad 2), .ref (ad 6), .int (nI 0), .int (nI 0), .int (nI 0), .int (nI 0), .int (nI 0), .int (nI 0), .int (nI 0), .int (nI 0), .ref (ad 7), .int (nI 0), .int (nI 0), .ref (ad 8)]) := rfl
theorem we_2 (D : va_G) (cI cZ : ClassId) (ad : Nat → Nat) : ew_c qS (D, cI, cZ, ad) sg0 2 = .inr (2, [.ref (ad 3), .ref (ad 4), .ref (ad 5), .int (nI 0)]) := rfl
theorem we_3 (D : va_G) (cI cZ : ClassId) (ad : Nat → Nat) : ew_c qS (D, cI, cZ, ad) sg0 3 = .inl (cI, 32, .inl fun _ => 0) := rfl
theorem we_4 (D : va_G) (cI cZ : ClassId) (ad : Nat → Nat) : ew_c qS (D, cI, cZ, ad) sg0 4 = .inl (cI, 32, .inl fun _ => 0) := rfl
theorem we_5 (D : va_G) (cI cZ : ClassId) (ad : Nat → Nat) : ew_c qS (D, cI, cZ, ad) sg0 5 = .inl (cI, 16, .inl (sfil (fun _ => fun _ => 0) 0 16 (-1) 0)) := rfl
theorem we_6 (D : va_G) (cI cZ : ClassId) (ad : Nat → Nat) : ew_c qS (D, cI, cZ, ad) sg0 6 = .inl (cI, 6, .inl fun _ => 0) := rfl
theorem we_7 (D : va_G) (cI cZ : ClassId) (ad : Nat → Nat) : ew_c qS (D, cI, cZ, ad) sg0 7 = .inl (cI, 41, .inl fun _ => 0) := rfl
theorem we_8 (D : va_G) (cI cZ : ClassId) (ad : Nat → Nat) : ew_c qS (D, cI, cZ, ad) sg0 8 = .inl (cI, 5, .inl fun _ => 0) := rfl
theorem we_9 (D : va_G) (cI cZ : ClassId) (ad : Nat → Nat) : ew_c qS (D, cI, cZ, ad) sg0 9 = .inr (3, [.ref (ad 10), .ref (ad 19), .ref (ad 28), .ref (ad 37), .int (nI 0)]) := rfl
theorem we_10 (D : va_G) (cI cZ : ClassId) (ad : Nat → Nat) : ew_c qS (D, cI, cZ, ad) sg0 10 = .inr (4, [.ref (ad 11), .ref (ad 16), .ref (ad 17), .ref (ad 18)]) := rfl
theorem we_11 (D : va_G) (cI cZ : ClassId) (ad : Nat → Nat) : ew_c qS (D, cI, cZ, ad) sg0 11 = .inr (5, [.ref (ad 12), .ref (ad 13), .ref (ad 14), .ref (ad 15), .int (nI 0)]) := rfl
theorem we_12 (D : va_G) (cI cZ : ClassId) (ad : Nat → Nat) : ew_c qS (D, cI, cZ, ad) sg0 12 = .inl (cI, 1640, .inl fun _ => 0) := rfl
theorem we_13 (D : va_G) (cI cZ : ClassId) (ad : Nat → Nat) : ew_c qS (D, cI, cZ, ad) sg0 13 = .inl (cI, 40, .inl fun _ => 0) := rfl
theorem we_14 (D : va_G) (cI cZ : ClassId) (ad : Nat → Nat) : ew_c qS (D, cI, cZ, ad) sg0 14 = .inl (cI, 40, .inl fun _ => 0) := rfl
theorem we_15 (D : va_G) (cI cZ : ClassId) (ad : Nat → Nat) : ew_c qS (D, cI, cZ, ad) sg0 15 = .inl (cI, 40, .inl fun _ => 0) := rfl
theorem we_16 (D : va_G) (cI cZ : ClassId) (ad : Nat → Nat) : ew_c qS (D, cI, cZ, ad) sg0 16 = .inl (cI, 64, .inl fun _ => 0) := rfl
theorem we_17 (D : va_G) (cI cZ : ClassId) (ad : Nat → Nat) : ew_c qS (D, cI, cZ, ad) sg0 17 = .inl (cI, 64, .inl fun _ => 0) := rfl
theorem we_18 (D : va_G) (cI cZ : ClassId) (ad : Nat → Nat) : ew_c qS (D, cI, cZ, ad) sg0 18 = .inl (cI, 320, .inl fun _ => 0) := rfl
theorem we_19 (D : va_G) (cI cZ : ClassId) (ad : Nat → Nat) : ew_c qS (D, cI, cZ, ad) sg0 19 = .inr (4, [.ref (ad 20), .ref (ad 25), .ref (ad 26), .ref (ad 27)]) := rfl
theorem we_20 (D : va_G) (cI cZ : ClassId) (ad : Nat → Nat) : ew_c qS (D, cI, cZ, ad) sg0 20 = .inr (5, [.ref (ad 21), .ref (ad 22), .ref (ad 23), .ref (ad 24), .int (nI 0)]) := rfl
theorem we_21 (D : va_G) (cI cZ : ClassId) (ad : Nat → Nat) : ew_c qS (D, cI, cZ, ad) sg0 21 = .inl (cI, 1640, .inl fun _ => 0) := rfl
theorem we_22 (D : va_G) (cI cZ : ClassId) (ad : Nat → Nat) : ew_c qS (D, cI, cZ, ad) sg0 22 = .inl (cI, 40, .inl fun _ => 0) := rfl
theorem we_23 (D : va_G) (cI cZ : ClassId) (ad : Nat → Nat) : ew_c qS (D, cI, cZ, ad) sg0 23 = .inl (cI, 40, .inl fun _ => 0) := rfl
theorem we_24 (D : va_G) (cI cZ : ClassId) (ad : Nat → Nat) : ew_c qS (D, cI, cZ, ad) sg0 24 = .inl (cI, 40, .inl fun _ => 0) := rfl
theorem we_25 (D : va_G) (cI cZ : ClassId) (ad : Nat → Nat) : ew_c qS (D, cI, cZ, ad) sg0 25 = .inl (cI, 64, .inl fun _ => 0) := rfl
theorem we_26 (D : va_G) (cI cZ : ClassId) (ad : Nat → Nat) : ew_c qS (D, cI, cZ, ad) sg0 26 = .inl (cI, 64, .inl fun _ => 0) := rfl
theorem we_27 (D : va_G) (cI cZ : ClassId) (ad : Nat → Nat) : ew_c qS (D, cI, cZ, ad) sg0 27 = .inl (cI, 320, .inl fun _ => 0) := rfl
theorem we_28 (D : va_G) (cI cZ : ClassId) (ad : Nat → Nat) : ew_c qS (D, cI, cZ, ad) sg0 28 = .inr (6, [.ref (ad 29), .ref (ad 30), .ref (ad 31), .ref (ad 32), .ref (ad 33), .ref (ad 34), .ref (ad 35), .ref (ad 36), .int (nI 0)]) := rfl
theorem we_29 (D : va_G) (cI cZ : ClassId) (ad : Nat → Nat) : ew_c qS (D, cI, cZ, ad) sg0 29 = .inl (cI, 1600, .inl fun _ => 0) := rfl
theorem we_30 (D : va_G) (cI cZ : ClassId) (ad : Nat → Nat) : ew_c qS (D, cI, cZ, ad) sg0 30 = .inl (cI, 40, .inl fun _ => 0) := rfl
theorem we_31 (D : va_G) (cI cZ : ClassId) (ad : Nat → Nat) : ew_c qS (D, cI, cZ, ad) sg0 31 = .inl (cI, 40, .inl fun _ => 0) := rfl
theorem we_32 (D : va_G) (cI cZ : ClassId) (ad : Nat → Nat) : ew_c qS (D, cI, cZ, ad) sg0 32 = .inl (cI, 40, .inl fun _ => 0) := rfl
theorem we_33 (D : va_G) (cI cZ : ClassId) (ad : Nat → Nat) : ew_c qS (D, cI, cZ, ad) sg0 33 = .inl (cI, 40, .inl fun _ => 0) := rfl
theorem we_34 (D : va_G) (cI cZ : ClassId) (ad : Nat → Nat) : ew_c qS (D, cI, cZ, ad) sg0 34 = .inl (cI, 40, .inl fun _ => 0) := rfl
theorem we_35 (D : va_G) (cI cZ : ClassId) (ad : Nat → Nat) : ew_c qS (D, cI, cZ, ad) sg0 35 = .inl (cI, 40, .inl fun _ => 0) := rfl
theorem we_36 (D : va_G) (cI cZ : ClassId) (ad : Nat → Nat) : ew_c qS (D, cI, cZ, ad) sg0 36 = .inl (cI, 40, .inl fun _ => 0) := rfl
theorem we_37 (D : va_G) (cI cZ : ClassId) (ad : Nat → Nat) : ew_c qS (D, cI, cZ, ad) sg0 37 = .inr (7, [.ref (ad 38), .ref (ad 39)]) := rfl
theorem we_38 (D : va_G) (cI cZ : ClassId) (ad : Nat → Nat) : ew_c qS (D, cI, cZ, ad) sg0 38 = .inl (cI, 160, .inl (sfil (fun _ => fun _ => 0) 0 160 (-1) 0)) := rfl
theorem we_39 (D : va_G) (cI cZ : ClassId) (ad : Nat → Nat) : ew_c qS (D, cI, cZ, ad) sg0 39 = .inl (cI, 6400, .inl fun _ => 0) := rfl
theorem we_40 (D : va_G) (cI cZ : ClassId) (ad : Nat → Nat) : ew_c qS (D, cI, cZ, ad) sg0 40 = .inl (cI, 7, .inl fun _ => 0) := rfl
theorem we_41 (D : va_G) (cI cZ : ClassId) (ad : Nat → Nat) : ew_c qS (D, cI, cZ, ad) sg0 41 = .inr (8, [.int 0, .ref (ad 42), .ref (ad 43), .int 0, .int (nI 24), .ref (ad 44), .ref (ad 45), .ref (ad 46), .int 0, .int 0, .int 0, .int 0, .int 0, .int 0, .int 0, .ref (ad 47), .ref (ad 48), .ref (ad 49), .ref (ad 50), .int 0, .int 0, .ref (ad 51), .ref (ad 52), .ref (ad 53), .ref (ad 54), .ref (ad 55), .ref (ad 56), .ref (ad 57), .ref (ad 58), .ref (ad 59), .int 0, .ref (ad 60)]) := by
  rw [ew_c_obj (show qS.2.1 41 = .inr (8, [none, some 42, some 43, none, none, some 44, some 45, some 46, none, none, none, none, none, none, none, some 47, some 48, some 49, some 50, none, none, some 51, some 52, some 53, some 54, some 55, some 56, some 57, some 58, some 59, none, some 60]) from rfl)]
  refine congrArg (fun z => Sum.inr (8, z)) ?_
  simp only [List.mapIdx_cons, List.mapIdx_nil]
  rfl
theorem we_42 (D : va_G) (cI cZ : ClassId) (ad : Nat → Nat) : ew_c qS (D, cI, cZ, ad) sg0 42 = .inl (cI, 32, .inl fun _ => 0) := rfl
theorem we_43 (D : va_G) (cI cZ : ClassId) (ad : Nat → Nat) : ew_c qS (D, cI, cZ, ad) sg0 43 = .inl (cI, 32, .inl fun _ => 0) := rfl
theorem we_44 (D : va_G) (cI cZ : ClassId) (ad : Nat → Nat) : ew_c qS (D, cI, cZ, ad) sg0 44 = .inl (cI, 5, .inl fun _ => 0) := rfl
theorem we_45 (D : va_G) (cI cZ : ClassId) (ad : Nat → Nat) : ew_c qS (D, cI, cZ, ad) sg0 45 = .inl (cI, 5, .inl fun _ => 0) := rfl
theorem we_46 (D : va_G) (cI cZ : ClassId) (ad : Nat → Nat) : ew_c qS (D, cI, cZ, ad) sg0 46 = .inl (cI, 7, .inl fun _ => 0) := rfl
theorem we_47 (D : va_G) (cI cZ : ClassId) (ad : Nat → Nat) : ew_c qS (D, cI, cZ, ad) sg0 47 = .inl (cI, 82, .inl fun _ => 0) := rfl
theorem we_48 (D : va_G) (cI cZ : ClassId) (ad : Nat → Nat) : ew_c qS (D, cI, cZ, ad) sg0 48 = .inl (cI, 2, .inl fun _ => 0) := rfl
theorem we_49 (D : va_G) (cI cZ : ClassId) (ad : Nat → Nat) : ew_c qS (D, cI, cZ, ad) sg0 49 = .inl (cI, 2, .inl fun _ => 0) := rfl
theorem we_50 (D : va_G) (cI cZ : ClassId) (ad : Nat → Nat) : ew_c qS (D, cI, cZ, ad) sg0 50 = .inl (cI, 5, .inl fun _ => 0) := rfl
theorem we_51 (D : va_G) (cI cZ : ClassId) (ad : Nat → Nat) : ew_c qS (D, cI, cZ, ad) sg0 51 = .inl (cI, 3280, .inl fun _ => 0) := rfl
theorem we_52 (D : va_G) (cI cZ : ClassId) (ad : Nat → Nat) : ew_c qS (D, cI, cZ, ad) sg0 52 = .inl (cI, 80, .inl fun _ => 0) := rfl
theorem we_53 (D : va_G) (cI cZ : ClassId) (ad : Nat → Nat) : ew_c qS (D, cI, cZ, ad) sg0 53 = .inl (cI, 80, .inl fun _ => 0) := rfl
theorem we_54 (D : va_G) (cI cZ : ClassId) (ad : Nat → Nat) : ew_c qS (D, cI, cZ, ad) sg0 54 = .inl (cI, 40, .inl fun _ => 0) := rfl
theorem we_55 (D : va_G) (cI cZ : ClassId) (ad : Nat → Nat) : ew_c qS (D, cI, cZ, ad) sg0 55 = .inl (cI, 40, .inl fun _ => 0) := rfl
theorem we_56 (D : va_G) (cI cZ : ClassId) (ad : Nat → Nat) : ew_c qS (D, cI, cZ, ad) sg0 56 = .inl (cI, 200, .inl fun _ => 0) := rfl
theorem we_57 (D : va_G) (cI cZ : ClassId) (ad : Nat → Nat) : ew_c qS (D, cI, cZ, ad) sg0 57 = .inl (cZ, 200, .inl fun _ => 0) := rfl
theorem we_58 (D : va_G) (cI cZ : ClassId) (ad : Nat → Nat) : ew_c qS (D, cI, cZ, ad) sg0 58 = .inl (cI, 6400, .inl fun _ => 0) := rfl
theorem we_59 (D : va_G) (cI cZ : ClassId) (ad : Nat → Nat) : ew_c qS (D, cI, cZ, ad) sg0 59 = .inl (cI, 160, .inl fun _ => 0) := rfl
theorem we_60 (D : va_G) (cI cZ : ClassId) (ad : Nat → Nat) : ew_c qS (D, cI, cZ, ad) sg0 60 = .inl (cI, 7, .inl fun _ => 0) := rfl
theorem rng61 : List.range 61 = [0, 1, 2, 3, 4, 5, 6, 7, 8, 9, 10, 11, 12, 13, 14, 15, 16, 17, 18, 19, 20, 21, 22, 23, 24, 25, 26, 27, 28, 29, 30, 31, 32, 33, 34, 35, 36, 37, 38, 39, 40, 41, 42, 43, 44, 45, 46, 47, 48, 49, 50, 51, 52, 53, 54, 55, 56, 57, 58, 59, 60] := by decide +kernel
theorem ws61 (D : va_G) (cI cZ : ClassId) (ad : Nat → Nat) : ew_ws qS (D, cI, cZ, ad) sg0 = [(ad 0, .inr (0, [.ref (ad 1), .ref (ad 9), .ref (ad 40), .int (nI 0), .int (nI 0), .int (nI 24)])), (ad 1, .inr (1, [.ref (ad 2), .ref (ad 6), .int (nI 0), .int (nI 0), .int (nI 0), .int (nI 0), .int (nI 0), .int (nI 0), .int (nI 0), .int (nI 0), .ref (ad 7), .int (nI 0), .int (nI 0), .ref (ad 8)])), (ad 2, .inr (2, [.ref (ad 3), .ref (ad 4), .ref (ad 5), .int (nI 0)])), (ad 3, .inl (cI, 32, .inl fun _ => 0)), (ad 4, .inl (cI, 32, .inl fun _ => 0)), (ad 5, .inl (cI, 16, .inl (sfil (fun _ => fun _ => 0) 0 16 (-1) 0))), (ad 6, .inl (cI, 6, .inl fun _ => 0)), (ad 7, .inl (cI, 41, .inl fun _ => 0)), (ad 8, .inl (cI, 5, .inl fun _ => 0)), (ad 9, .inr (3, [.ref (ad 10), .ref (ad 19), .ref (ad 28), .ref (ad 37), .int (nI 0)])), (ad 10, .inr (4, [.ref (ad 11), .ref (ad 16), .ref (ad 17), .ref (ad 18)])), (ad 11, .inr (5, [.ref (ad 12), .ref (ad 13), .ref (ad 14), .ref (ad 15), .int (nI 0)])), (ad 12, .inl (cI, 1640, .inl fun _ => 0)), (ad 13, .inl (cI, 40, .inl fun _ => 0)), (ad 14, .inl (cI, 40, .inl fun _ => 0)), (ad 15, .inl (cI, 40, .inl fun _ => 0)), (ad 16, .inl (cI, 64, .inl fun _ => 0)), (ad 17, .inl (cI, 64, .inl fun _ => 0)), (ad 18, .inl (cI, 320, .inl fun _ => 0)), (ad 19, .inr (4, [.ref (ad 20), .ref (ad 25), .ref (ad 26), .ref (ad 27)])), (ad 20, .inr (5, [.ref (ad 21), .ref (ad 22), .ref (ad 23), .ref (ad 24), .int (nI 0)])), (ad 21, .inl (cI, 1640, .inl fun _ => 0)), (ad 22, .inl (cI, 40, .inl fun _ => 0)), (ad 23, .inl (cI, 40, .inl fun _ => 0)), (ad 24, .inl (cI, 40, .inl fun _ => 0)), (ad 25, .inl (cI, 64, .inl fun _ => 0)), (ad 26, .inl (cI, 64, .inl fun _ => 0)), (ad 27, .inl (cI, 320, .inl fun _ => 0)), (ad 28, .inr (6, [.ref (ad 29), .ref (ad 30), .ref (ad 31), .ref (ad 32), .ref (ad 33), .ref (ad 34), .ref (ad 35), .ref (ad 36), .int (nI 0)])), (ad 29, .inl (cI, 1600, .inl fun _ => 0)), (ad 30, .inl (cI, 40, .inl fun _ => 0)), (ad 31, .inl (cI, 40, .inl fun _ => 0)), (ad 32, .inl (cI, 40, .inl fun _ => 0)), (ad 33, .inl (cI, 40, .inl fun _ => 0)), (ad 34, .inl (cI, 40, .inl fun _ => 0)), (ad 35, .inl (cI, 40, .inl fun _ => 0)), (ad 36, .inl (cI, 40, .inl fun _ => 0)), (ad 37, .inr (7, [.ref (ad 38), .ref (ad 39)])), (ad 38, .inl (cI, 160, .inl (sfil (fun _ => fun _ => 0) 0 160 (-1) 0))), (ad 39, .inl (cI, 6400, .inl fun _ => 0)), (ad 40, .inl (cI, 7, .inl fun _ => 0)), (ad 41, .inr (8, [.int 0, .ref (ad 42), .ref (ad 43), .int 0, .int (nI 24), .ref (ad 44), .ref (ad 45), .ref (ad 46), .int 0, .int 0, .int 0, .int 0, .int 0, .int 0, .int 0, .ref (ad 47), .ref (ad 48), .ref (ad 49), .ref (ad 50), .int 0, .int 0, .ref (ad 51), .ref (ad 52), .ref (ad 53), .ref (ad 54), .ref (ad 55), .ref (ad 56), .ref (ad 57), .ref (ad 58), .ref (ad 59), .int 0, .ref (ad 60)])), (ad 42, .inl (cI, 32, .inl fun _ => 0)), (ad 43, .inl (cI, 32, .inl fun _ => 0)), (ad 44, .inl (cI, 5, .inl fun _ => 0)), (ad 45, .inl (cI, 5, .inl fun _ => 0)), (ad 46, .inl (cI, 7, .inl fun _ => 0)), (ad 47, .inl (cI, 82, .inl fun _ => 0)), (ad 48, .inl (cI, 2, .inl fun _ => 0)), (ad 49, .inl (cI, 2, .inl fun _ => 0)), (ad 50, .inl (cI, 5, .inl fun _ => 0)), (ad 51, .inl (cI, 3280, .inl fun _ => 0)), (ad 52, .inl (cI, 80, .inl fun _ => 0)), (ad 53, .inl (cI, 80, .inl fun _ => 0)), (ad 54, .inl (cI, 40, .inl fun _ => 0)), (ad 55, .inl (cI, 40, .inl fun _ => 0)), (ad 56, .inl (cI, 200, .inl fun _ => 0)), (ad 57, .inl (cZ, 200, .inl fun _ => 0)), (ad 58, .inl (cI, 6400, .inl fun _ => 0)), (ad 59, .inl (cI, 160, .inl fun _ => 0)), (ad 60, .inl (cI, 7, .inl fun _ => 0))] := by
  show (List.range 61).map (fun o => (ad o, ew_c qS (D, cI, cZ, ad) sg0 o)) = _
  rw [rng61]
  simp only [List.map_cons, List.map_nil, we_0, we_1, we_2, we_3, we_4, we_5, we_6, we_7, we_8, we_9, we_10, we_11, we_12, we_13, we_14, we_15, we_16, we_17, we_18, we_19, we_20, we_21, we_22, we_23, we_24, we_25, we_26, we_27, we_28, we_29, we_30, we_31, we_32, we_33, we_34, we_35, we_36, we_37, we_38, we_39, we_40, we_41, we_42, we_43, we_44, we_45, we_46, we_47, we_48, we_49, we_50, we_51, we_52, we_53, we_54, we_55, we_56, we_57, we_58, we_59, we_60]
theorem ws0_eq (D : va_G) (cI cZ : ClassId) (q0 : Nat) (a1 : Nat → Nat) (qM : Nat) (a2 : Nat → Nat) (tC tT tP b : Nat) : pw_X cI cZ q0 a1 ++ pw_M cI cZ qM a2 = ew_ws qS (D, cI, cZ, ad0 q0 a1 qM a2 tC tT tP b) sg0 := by
  rw [ws61]
  simp only [ad_0, ad_1, ad_2, ad_3, ad_4, ad_5, ad_6, ad_7, ad_8, ad_9, ad_10, ad_11, ad_12, ad_13, ad_14, ad_15, ad_16, ad_17, ad_18, ad_19, ad_20, ad_21, ad_22, ad_23, ad_24, ad_25, ad_26, ad_27, ad_28, ad_29, ad_30, ad_31, ad_32, ad_33, ad_34, ad_35, ad_36, ad_37, ad_38, ad_39, ad_40, ad_41, ad_42, ad_43, ad_44, ad_45, ad_46, ad_47, ad_48, ad_49, ad_50, ad_51, ad_52, ad_53, ad_54, ad_55, ad_56, ad_57, ad_58, ad_59, ad_60]
  rfl
theorem xS0 : xS sg0 (cd0, 0, 24, none, none) := by
  refine ⟨⟨⟨Nat.zero_le _, fun i hi => absurd hi (Nat.not_lt_zero i)⟩, rfl, fun i hi => absurd hi (Nat.not_lt_zero i), fun a ha => ?_⟩, ⟨rfl, by decide⟩, ⟨rfl, by decide, by decide⟩, ⟨rfl, fun x hx => ?_⟩, rfl⟩
  · show sfil (fun _ => fun _ => 0) 0 16 (-1) 0 a = -1
    exact sfil_at ha
  · show sfil (fun _ => fun _ => 0) 0 160 (-1) 0 x = -1
    exact sfil_at hx
theorem mS0 : mS sg0 (cd0, 0, 24, none, none) := by
  refine ⟨⟨⟨Nat.zero_le _, fun i hi => absurd hi (Nat.not_lt_zero i)⟩, by decide +kernel, fun i hi => absurd hi (Nat.not_lt_zero i)⟩, ⟨by decide +kernel, by decide⟩, ⟨rfl, by decide, by decide⟩, ⟨by decide +kernel, by decide +kernel⟩, by show sg0 41 30 = bI false; decide +kernel⟩
theorem tt_t {x : Cond} (i : Nat) (h : tables_1[i]? = some x) : x ∈ lw_tbl := List.mem_append_right _ (List.mem_of_getElem? h)
theorem wg_in {x : Cond} (h : x ∈ qwg) : x ∈ lw_tbl := (List.mem_filter.mp h).1
theorem nw_of {s : State} {args : Array Value} (h : ∀ x ∈ lw_tbl, x.before args s = true) : ∀ x ∈ qnw, va_Nw x s := fun x hx => by
  rcases qnk x hx with ⟨a, i, b, n, d, hh, rfl⟩ | ⟨a, i, y, hh, rfl⟩
  · exact va_Nw.of rfl (h _ (List.mem_filter.mp hx).1)
  · exact va_Nw.of rfl (h _ (List.mem_filter.mp hx).1)
set_option maxRecDepth 100000 in
theorem el_COSTS : ∀ j, j < 25 → Cond.eq (.elem (.static "ContractProbe" "COSTS" "[I") (.int (Int32.ofNat j))) (.int (nI (oCost j))) ∈ flatC (Jvm.Cond.and given_1 narrow_1) := by decide +kernel
set_option maxRecDepth 100000 in
theorem el_TAKES : ∀ j, j < 25 → Cond.eq (.elem (.static "ContractProbe" "TAKES" "[I") (.int (Int32.ofNat j))) (.int (nI (oTake j))) ∈ flatC (Jvm.Cond.and given_1 narrow_1) := by decide +kernel
set_option maxRecDepth 100000 in
theorem el_PUTS : ∀ j, j < 25 → Cond.eq (.elem (.static "ContractProbe" "PUTS" "[I") (.int (Int32.ofNat j))) (.int (nI (oPuts j))) ∈ flatC (Jvm.Cond.and given_1 narrow_1) := by decide +kernel
theorem st_COSTS {s : State} {args : Array Value} {A : Nat → Prop} (h : ∀ x ∈ lw_tbl, x.before args s = true) (hg : (Jvm.Cond.and given_1 narrow_1).before args s = true) (hA : ∀ a : Nat, a < s.heap.size → ¬ A a) : ∃ t : Nat, va_Z "ContractProbe" "COSTS" "[I" (.ref t) A s s.heap ∧ va_T .int t 25 (fun i => .int (nI (oCost i))) A s s.heap := by
  have hs := flat_of_before _ hg
  obtain ⟨t, ht, hT⟩ := va_Tof (A := A) (tm := .static "ContractProbe" "COSTS" "[I") (ty := .int) (N := 25) (f := fun i => .int (nI (oCost i))) (by decide) (hs _ (by decide +kernel)) (va_eqt (hs (Cond.eq (.length (.static "ContractProbe" "COSTS" "[I")) (.int (Int32.ofNat 25))) (by decide +kernel))) (fun j hj => va_eqt (hs _ (el_COSTS j hj))) hA
  exact ⟨t, va_Zof (h (Cond.laysStatic "ContractProbe" "COSTS" "[I") (tt_t 337 rfl)) (h (Cond.initialized "ContractProbe") (wg_in (wg_t 1 rfl rfl))) ht hA, hT⟩
theorem st_TAKES {s : State} {args : Array Value} {A : Nat → Prop} (h : ∀ x ∈ lw_tbl, x.before args s = true) (hg : (Jvm.Cond.and given_1 narrow_1).before args s = true) (hA : ∀ a : Nat, a < s.heap.size → ¬ A a) : ∃ t : Nat, va_Z "ContractProbe" "TAKES" "[I" (.ref t) A s s.heap ∧ va_T .int t 25 (fun i => .int (nI (oTake i))) A s s.heap := by
  have hs := flat_of_before _ hg
  obtain ⟨t, ht, hT⟩ := va_Tof (A := A) (tm := .static "ContractProbe" "TAKES" "[I") (ty := .int) (N := 25) (f := fun i => .int (nI (oTake i))) (by decide) (hs _ (by decide +kernel)) (va_eqt (hs (Cond.eq (.length (.static "ContractProbe" "TAKES" "[I")) (.int (Int32.ofNat 25))) (by decide +kernel))) (fun j hj => va_eqt (hs _ (el_TAKES j hj))) hA
  exact ⟨t, va_Zof (h (Cond.laysStatic "ContractProbe" "TAKES" "[I") (tt_t 335 rfl)) (h (Cond.initialized "ContractProbe") (wg_in (wg_t 1 rfl rfl))) ht hA, hT⟩
theorem st_PUTS {s : State} {args : Array Value} {A : Nat → Prop} (h : ∀ x ∈ lw_tbl, x.before args s = true) (hg : (Jvm.Cond.and given_1 narrow_1).before args s = true) (hA : ∀ a : Nat, a < s.heap.size → ¬ A a) : ∃ t : Nat, va_Z "ContractProbe" "PUTS" "[I" (.ref t) A s s.heap ∧ va_T .int t 25 (fun i => .int (nI (oPuts i))) A s s.heap := by
  have hs := flat_of_before _ hg
  obtain ⟨t, ht, hT⟩ := va_Tof (A := A) (tm := .static "ContractProbe" "PUTS" "[I") (ty := .int) (N := 25) (f := fun i => .int (nI (oPuts i))) (by decide) (hs _ (by decide +kernel)) (va_eqt (hs (Cond.eq (.length (.static "ContractProbe" "PUTS" "[I")) (.int (Int32.ofNat 25))) (by decide +kernel))) (fun j hj => va_eqt (hs _ (el_PUTS j hj))) hA
  exact ⟨t, va_Zof (h (Cond.laysStatic "ContractProbe" "PUTS" "[I") (tt_t 339 rfl)) (h (Cond.initialized "ContractProbe") (wg_in (wg_t 1 rfl rfl))) ht hA, hT⟩
theorem arr_of {s : State} {args : Array Value} {ty : FieldType} (h : (Cond.arrayClass ty).before args s = true) : ∃ cA : ClassId, ArrOfT s cA ty ∧ s.vm.findClass ("[" ++ ty.toString) = some cA := by
  obtain ⟨cA, kA, comp, h1, h2, h3⟩ := Cond.arrayClass_spec h
  exact ⟨cA, fun n z => ⟨fun k h => (by cases h), kA, h2, comp, h3⟩, h1⟩
set_option maxRecDepth 100000 in
theorem K_of {s : State} {args : Array Value} (h : ∀ x ∈ lw_tbl, x.before args s = true) : ∃ (D : va_G) (cI cZ : ClassId), va_K D qcl (cn_ty cI cZ) s := by
  have hg : ∀ x ∈ qwg, x.before args s = true := fun x hx => h x (wg_in hx)
  obtain ⟨c0, i0, k0⟩ := u_known hg qu_X (hg (Cond.instantiable qR_X 6) (wg_t 12 rfl rfl))
  obtain ⟨c1, i1, k1⟩ := u_known hg qu_K (hg (Cond.instantiable qR_K 14) (wg_t 20 rfl rfl))
  obtain ⟨c2, i2, k2⟩ := u_known hg qu_C (hg (Cond.instantiable qR_C 4) (wg_t 26 rfl rfl))
  obtain ⟨c3, i3, k3⟩ := u_known hg qu_E (hg (Cond.instantiable qR_E 5) (wg_t 107 rfl rfl))
  obtain ⟨c4, i4, k4⟩ := u_known hg qu_B (hg (Cond.instantiable qR_B 4) (wg_t 113 rfl rfl))
  obtain ⟨c5, i5, k5⟩ := u_known hg qu_Y (hg (Cond.instantiable qR_Y 5) (wg_t 119 rfl rfl))
  obtain ⟨c6, i6, k6⟩ := u_known hg qu_P (hg (Cond.instantiable qR_P 9) (wg_t 160 rfl rfl))
  obtain ⟨c7, i7, k7⟩ := u_known hg qu_T (hg (Cond.instantiable qR_T 2) (wg_t 201 rfl rfl))
  obtain ⟨c8, i8, k8⟩ := u_known hg qu_M (hg (Cond.instantiable qR_M 32) (wg_t 502 rfl rfl))
  obtain ⟨cI, hI1, hI2⟩ := arr_of (hg (Cond.arrayClass .int) (wg_t 51 rfl rfl))
  obtain ⟨cZ, hZ1, hZ2⟩ := arr_of (hg (Cond.arrayClass .boolean) (wg_t 604 rfl rfl))
  refine ⟨(fun c => [c0, c1, c2, c3, c4, c5, c6, c7, c8].getD c 0, fun c => [i0, i1, i2, i3, i4, i5, i6, i7, i8].getD c (fun _ => 0)), cI, cZ, fun c q hq => ?_, fun k q hq => ?_⟩
  · have hc : c < 9 := (List.getElem?_eq_some_iff.mp hq).1
    rcases (by omega : c = 0 ∨ c = 1 ∨ c = 2 ∨ c = 3 ∨ c = 4 ∨ c = 5 ∨ c = 6 ∨ c = 7 ∨ c = 8) with rfl | rfl | rfl | rfl | rfl | rfl | rfl | rfl | rfl
    · cases hq; exact k0
    · cases hq; exact k1
    · cases hq; exact k2
    · cases hq; exact k3
    · cases hq; exact k4
    · cases hq; exact k5
    · cases hq; exact k6
    · cases hq; exact k7
    · cases hq; exact k8
  · have hk : k < 2 := (List.getElem?_eq_some_iff.mp hq).1
    rcases (by omega : k = 0 ∨ k = 1) with rfl | rfl
    · cases hq; exact ⟨hI1, hI2⟩
    · cases hq; exact ⟨hZ1, hZ2⟩
