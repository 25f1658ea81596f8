/-! the cells: 0 to 40 the object under test, 41 to 60 the reference -/
def qLl : List ((Bool × Nat) ⊕ (Nat × List (Option Nat))) := [.inr (0, [some 1, some 9, some 40, none, none, none]), .inr (1, [some 2, some 6, none, none, none, none, none, none, none, none, some 7, none, none, some 8]), .inr (2, [some 3, some 4, some 5, none]), .inl (false, 32), .inl (false, 32), .inl (false, 16), .inl (false, 6), .inl (false, 41), .inl (false, 5), .inr (3, [some 10, some 19, some 28, some 37, none]), .inr (4, [some 11, some 16, some 17, some 18]), .inr (5, [some 12, some 13, some 14, some 15, none]), .inl (false, 1640), .inl (false, 40), .inl (false, 40), .inl (false, 40), .inl (false, 64), .inl (false, 64), .inl (false, 320), .inr (4, [some 20, some 25, some 26, some 27]), .inr (5, [some 21, some 22, some 23, some 24, none]), .inl (false, 1640), .inl (false, 40), .inl (false, 40), .inl (false, 40), .inl (false, 64), .inl (false, 64), .inl (false, 320), .inr (6, [some 29, some 30, some 31, some 32, some 33, some 34, some 35, some 36, none]), .inl (false, 1600), .inl (false, 40), .inl (false, 40), .inl (false, 40), .inl (false, 40), .inl (false, 40), .inl (false, 40), .inl (false, 40), .inr (7, [some 38, some 39]), .inl (false, 160), .inl (false, 6400), .inl (false, 7), .inr (8, [none, some 42, some 43, none, none, some 44, some 45, some 46, none, none, none, none, none, none, none, some 47, some 48, some 49, some 50, none, none, some 51, some 52, some 53, some 54, some 55, some 56, some 57, some 58, some 59, none, some 60]), .inl (false, 32), .inl (false, 32), .inl (false, 5), .inl (false, 5), .inl (false, 7), .inl (false, 82), .inl (false, 2), .inl (false, 2), .inl (false, 5), .inl (false, 3280), .inl (false, 80), .inl (false, 80), .inl (false, 40), .inl (false, 40), .inl (false, 200), .inl (true, 200), .inl (false, 6400), .inl (false, 160), .inl (false, 7)]
def qL : LY := fun o => qLl.getD o (.inl (false, 0))
def qST : STB := [("ContractProbe", "COSTS", "[I", 25, fun i => nI (oCost i)), ("ContractProbe", "TAKES", "[I", 25, fun i => nI (oTake i)), ("ContractProbe", "PUTS", "[I", 25, fun i => nI (oPuts i))]
def qS : SD := (qcl, qL, 61, qnw, qST)
theorem qnk : ew_nk qS := by
  intro x hx
  have h := (List.mem_filter.mp hx).2
  cases x
  all_goals first | exact Or.inl ⟨_, _, _, _, _, _, rfl⟩ | exact Or.inr ⟨_, _, _, _, rfl⟩ | cases h
theorem lyB {b : Nat} (h : b = 10 ∨ b = 19) : qS.2.1 b = .inr (4, [some (b + 1), some (b + 6), some (b + 7), some (b + 8)]) := by rcases h with rfl | rfl <;> rfl
theorem lyY {b : Nat} (h : b = 10 ∨ b = 19) : qS.2.1 (b + 1) = .inr (5, [some (b + 2), some (b + 3), some (b + 4), some (b + 5), none]) := by rcases h with rfl | rfl <;> rfl
theorem lyA2 {b : Nat} (h : b = 10 ∨ b = 19) : qS.2.1 (b + 2) = .inl (false, 1640) := by rcases h with rfl | rfl <;> rfl
theorem lyA3 {b : Nat} (h : b = 10 ∨ b = 19) : qS.2.1 (b + 3) = .inl (false, 40) := by rcases h with rfl | rfl <;> rfl
theorem lyA4 {b : Nat} (h : b = 10 ∨ b = 19) : qS.2.1 (b + 4) = .inl (false, 40) := by rcases h with rfl | rfl <;> rfl
theorem lyA5 {b : Nat} (h : b = 10 ∨ b = 19) : qS.2.1 (b + 5) = .inl (false, 40) := by rcases h with rfl | rfl <;> rfl
theorem lyA6 {b : Nat} (h : b = 10 ∨ b = 19) : qS.2.1 (b + 6) = .inl (false, 64) := by rcases h with rfl | rfl <;> rfl
theorem lyA7 {b : Nat} (h : b = 10 ∨ b = 19) : qS.2.1 (b + 7) = .inl (false, 64) := by rcases h with rfl | rfl <;> rfl
theorem lyA8 {b : Nat} (h : b = 10 ∨ b = 19) : qS.2.1 (b + 8) = .inl (false, 320) := by rcases h with rfl | rfl <;> rfl
theorem lyo0 {b : Nat} (h : b = 10 ∨ b = 19) : b + 0 < qS.2.2.1 := by rcases h with rfl | rfl <;> decide
theorem lyo1 {b : Nat} (h : b = 10 ∨ b = 19) : b + 1 < qS.2.2.1 := by rcases h with rfl | rfl <;> decide
theorem lyo2 {b : Nat} (h : b = 10 ∨ b = 19) : b + 2 < qS.2.2.1 := by rcases h with rfl | rfl <;> decide
theorem lyo3 {b : Nat} (h : b = 10 ∨ b = 19) : b + 3 < qS.2.2.1 := by rcases h with rfl | rfl <;> decide
theorem lyo4 {b : Nat} (h : b = 10 ∨ b = 19) : b + 4 < qS.2.2.1 := by rcases h with rfl | rfl <;> decide
theorem lyo5 {b : Nat} (h : b = 10 ∨ b = 19) : b + 5 < qS.2.2.1 := by rcases h with rfl | rfl <;> decide
theorem lyo6 {b : Nat} (h : b = 10 ∨ b = 19) : b + 6 < qS.2.2.1 := by rcases h with rfl | rfl <;> decide
theorem lyo7 {b : Nat} (h : b = 10 ∨ b = 19) : b + 7 < qS.2.2.1 := by rcases h with rfl | rfl <;> decide
theorem lyo8 {b : Nat} (h : b = 10 ∨ b = 19) : b + 8 < qS.2.2.1 := by rcases h with rfl | rfl <;> decide
theorem qp_X_hasReplay (b : Bool) : ew_FP qS 0 3 (bI b) := fun C T N h => by cases h; exact ⟨rfl, .boolean, rfl, by cases b <;> decide +kernel, by cases b <;> decide +kernel⟩
theorem qp_X_balance (x : Int32) : ew_FP qS 0 4 x := fun C T N h => by cases h; exact ⟨rfl, .int, rfl, rfl, rfl⟩
theorem qp_X_limit (x : Int32) : ew_FP qS 0 5 x := fun C T N h => by cases h; exact ⟨rfl, .int, rfl, rfl, rfl⟩
theorem qp_K_depth (x : Int32) : ew_FP qS 1 2 x := fun C T N h => by cases h; exact ⟨rfl, .int, rfl, rfl, rfl⟩
theorem qp_K_state (x : Int32) : ew_FP qS 1 3 x := fun C T N h => by cases h; exact ⟨rfl, .int, rfl, rfl, rfl⟩
theorem qp_K_gas (x : Int32) : ew_FP qS 1 4 x := fun C T N h => by cases h; exact ⟨rfl, .int, rfl, rfl, rfl⟩
theorem qp_K_at (x : Int32) : ew_FP qS 1 5 x := fun C T N h => by cases h; exact ⟨rfl, .int, rfl, rfl, rfl⟩
theorem qp_K_ending (x : Int32) : ew_FP qS 1 6 x := fun C T N h => by cases h; exact ⟨rfl, .int, rfl, rfl, rfl⟩
theorem qp_K_input (x : Int32) : ew_FP qS 1 7 x := fun C T N h => by cases h; exact ⟨rfl, .int, rfl, rfl, rfl⟩
theorem qp_K_caller (x : Int32) : ew_FP qS 1 8 x := fun C T N h => by cases h; exact ⟨rfl, .int, rfl, rfl, rfl⟩
theorem qp_K_hasSent (b : Bool) : ew_FP qS 1 9 (bI b) := fun C T N h => by cases h; exact ⟨rfl, .boolean, rfl, by cases b <;> decide +kernel, by cases b <;> decide +kernel⟩
theorem qp_K_stepCount (x : Int32) : ew_FP qS 1 11 x := fun C T N h => by cases h; exact ⟨rfl, .int, rfl, rfl, rfl⟩
theorem qp_K_shape (x : Int32) : ew_FP qS 1 12 x := fun C T N h => by cases h; exact ⟨rfl, .int, rfl, rfl, rfl⟩
theorem qp_C_size (x : Int32) : ew_FP qS 2 3 x := fun C T N h => by cases h; exact ⟨rfl, .int, rfl, rfl, rfl⟩
theorem qp_E_transactions (x : Int32) : ew_FP qS 3 4 x := fun C T N h => by cases h; exact ⟨rfl, .int, rfl, rfl, rfl⟩
theorem qp_Y_count (x : Int32) : ew_FP qS 5 4 x := fun C T N h => by cases h; exact ⟨rfl, .int, rfl, rfl, rfl⟩
theorem qp_P_count (x : Int32) : ew_FP qS 6 8 x := fun C T N h => by cases h; exact ⟨rfl, .int, rfl, rfl, rfl⟩
theorem qp_M_size (x : Int32) : ew_FP qS 8 0 x := fun C T N h => by cases h; exact ⟨rfl, .int, rfl, rfl, rfl⟩
theorem qp_M_balance0 (x : Int32) : ew_FP qS 8 3 x := fun C T N h => by cases h; exact ⟨rfl, .int, rfl, rfl, rfl⟩
theorem qp_M_limit (x : Int32) : ew_FP qS 8 4 x := fun C T N h => by cases h; exact ⟨rfl, .int, rfl, rfl, rfl⟩
theorem qp_M_depth (x : Int32) : ew_FP qS 8 8 x := fun C T N h => by cases h; exact ⟨rfl, .int, rfl, rfl, rfl⟩
theorem qp_M_gas (x : Int32) : ew_FP qS 8 9 x := fun C T N h => by cases h; exact ⟨rfl, .int, rfl, rfl, rfl⟩
theorem qp_M_at (x : Int32) : ew_FP qS 8 10 x := fun C T N h => by cases h; exact ⟨rfl, .int, rfl, rfl, rfl⟩
theorem qp_M_input (x : Int32) : ew_FP qS 8 11 x := fun C T N h => by cases h; exact ⟨rfl, .int, rfl, rfl, rfl⟩
theorem qp_M_caller (x : Int32) : ew_FP qS 8 12 x := fun C T N h => by cases h; exact ⟨rfl, .int, rfl, rfl, rfl⟩
theorem qp_M_next (x : Int32) : ew_FP qS 8 13 x := fun C T N h => by cases h; exact ⟨rfl, .int, rfl, rfl, rfl⟩
theorem qp_M_sent (b : Bool) : ew_FP qS 8 14 (bI b) := fun C T N h => by cases h; exact ⟨rfl, .boolean, rfl, by cases b <;> decide +kernel, by cases b <;> decide +kernel⟩
theorem qp_M_paths (x : Int32) : ew_FP qS 8 19 x := fun C T N h => by cases h; exact ⟨rfl, .int, rfl, rfl, rfl⟩
theorem qp_M_explored (x : Int32) : ew_FP qS 8 20 x := fun C T N h => by cases h; exact ⟨rfl, .int, rfl, rfl, rfl⟩
theorem qp_M_replays (b : Bool) : ew_FP qS 8 30 (bI b) := fun C T N h => by cases h; exact ⟨rfl, .boolean, rfl, by cases b <;> decide +kernel, by cases b <;> decide +kernel⟩
abbrev qw_X_init : List Cond := Cond.code qy_X_init qc_X_init 1 (none) :: qwg
abbrev qr_X_init : Room := { frames := 4, cells := 0, slots := 0, locals := 72 }
abbrev qw_K_init : List Cond := Cond.code qy_K_init qc_K_init 1 (none) :: qwg
abbrev qr_K_init : Room := { frames := 2, cells := 0, slots := 0, locals := 43 }
abbrev qw_C_init : List Cond := Cond.code qy_C_init qc_C_init 1 (none) :: qwg
abbrev qr_C_init : Room := { frames := 1, cells := 0, slots := 0, locals := 23 }
abbrev qw_A_fill : List Cond := Cond.code qy_A_fill qc_A_fill 4 (none) :: qwg
abbrev qr_A_fill : Room := { frames := 0, cells := 0, slots := 0, locals := 0 }
abbrev qw_E_init : List Cond := Cond.code qy_E_init qc_E_init 1 (none) :: qwg
abbrev qr_E_init : Room := { frames := 3, cells := 0, slots := 0, locals := 52 }
abbrev qw_B_init : List Cond := Cond.code qy_B_init qc_B_init 1 (none) :: qwg
abbrev qr_B_init : Room := { frames := 2, cells := 0, slots := 0, locals := 32 }
abbrev qw_Y_init : List Cond := Cond.code qy_Y_init qc_Y_init 1 (none) :: qwg
abbrev qr_Y_init : Room := { frames := 1, cells := 0, slots := 0, locals := 12 }
abbrev qw_P_init : List Cond := Cond.code qy_P_init qc_P_init 1 (none) :: qwg
abbrev qr_P_init : Room := { frames := 1, cells := 0, slots := 0, locals := 12 }
abbrev qw_T_init : List Cond := Cond.code qy_T_init qc_T_init 1 (none) :: qwg
abbrev qr_T_init : Room := { frames := 1, cells := 0, slots := 0, locals := 23 }
abbrev qw_X_add : List Cond := Cond.code qy_X_add qc_X_add 3 (some .int) :: qwg
abbrev qr_X_add : Room := { frames := 1, cells := 0, slots := 0, locals := 22 }
abbrev qw_X_isBelow : List Cond := Cond.code qy_X_isBelow qc_X_isBelow 2 (some .boolean) :: qwg
abbrev qr_X_isBelow : Room := { frames := 0, cells := 0, slots := 0, locals := 0 }
abbrev qw_C_append : List Cond := Cond.code qy_C_append qc_C_append 3 (some .int) :: qwg
abbrev qr_C_append : Room := { frames := 0, cells := 0, slots := 0, locals := 0 }
abbrev qw_X_clear : List Cond := Cond.code qy_X_clear qc_X_clear 1 (none) :: qwg
abbrev qr_X_clear : Room := { frames := 2, cells := 0, slots := 0, locals := 43 }
abbrev qw_C_wipe : List Cond := Cond.code qy_C_wipe qc_C_wipe 1 (none) :: qwg
abbrev qr_C_wipe : Room := { frames := 1, cells := 0, slots := 0, locals := 23 }
abbrev qw_X_start : List Cond := Cond.code qy_X_start qc_X_start 3 (some .boolean) :: qwg
abbrev qr_X_start : Room := { frames := 1, cells := 0, slots := 0, locals := 21 }
abbrev qw_X_explore : List Cond := Cond.code qy_X_explore qc_X_explore 3 (some .int) :: qwg
abbrev qr_X_explore : Room := { frames := 6, cells := 0, slots := 0, locals := 148 }
abbrev qw_E_forget : List Cond := Cond.code qy_E_forget qc_E_forget 1 (none) :: qwg
abbrev qr_E_forget : Room := { frames := 2, cells := 0, slots := 0, locals := 43 }
abbrev qw_B_forget : List Cond := Cond.code qy_B_forget qc_B_forget 1 (none) :: qwg
abbrev qr_B_forget : Room := { frames := 1, cells := 0, slots := 0, locals := 23 }
abbrev qw_Y_forget : List Cond := Cond.code qy_Y_forget qc_Y_forget 1 (none) :: qwg
abbrev qr_Y_forget : Room := { frames := 0, cells := 0, slots := 0, locals := 0 }
abbrev qw_P_forget : List Cond := Cond.code qy_P_forget qc_P_forget 1 (none) :: qwg
abbrev qr_P_forget : Room := { frames := 1, cells := 0, slots := 0, locals := 23 }
abbrev qw_T_forget : List Cond := Cond.code qy_T_forget qc_T_forget 1 (none) :: qwg
abbrev qr_T_forget : Room := { frames := 1, cells := 0, slots := 0, locals := 23 }
abbrev qw_X_firstState : List Cond := Cond.code qy_X_firstState qc_X_firstState 1 (some .int) :: qwg
abbrev qr_X_firstState : Room := { frames := 0, cells := 0, slots := 0, locals := 0 }
abbrev qw_E_surveySingles : List Cond := Cond.code qy_E_surveySingles qc_E_surveySingles 4 (some .boolean) :: qwg
abbrev qr_E_surveySingles : Room := { frames := 5, cells := 0, slots := 0, locals := 124 }
abbrev qw_B_fill : List Cond := Cond.code qy_B_fill qc_B_fill 8 (some .boolean) :: qwg
abbrev qr_B_fill : Room := { frames := 4, cells := 0, slots := 0, locals := 97 }
abbrev qw_K_transact : List Cond := Cond.code qy_K_transact qc_K_transact 6 (none) :: qwg
abbrev qr_K_transact : Room := { frames := 3, cells := 0, slots := 0, locals := 72 }
abbrev qw_K_begin : List Cond := Cond.code qy_K_begin qc_K_begin 4 (none) :: qwg
abbrev qr_K_begin : Room := { frames := 1, cells := 0, slots := 0, locals := 23 }
abbrev qw_K_keepStep : List Cond := Cond.code qy_K_keepStep qc_K_keepStep 2 (none) :: qwg
abbrev qr_K_keepStep : Room := { frames := 0, cells := 0, slots := 0, locals := 0 }
abbrev qw_K_perform : List Cond := Cond.code qy_K_perform qc_K_perform 6 (none) :: qwg
abbrev qr_K_perform : Room := { frames := 2, cells := 0, slots := 0, locals := 47 }
abbrev qw_K_faultOf : List Cond := Cond.code qy_K_faultOf qc_K_faultOf 4 (some .int) :: qwg
abbrev qr_K_faultOf : Room := { frames := 1, cells := 0, slots := 0, locals := 21 }
abbrev qw_K_wordUnder : List Cond := Cond.code qy_K_wordUnder qc_K_wordUnder 2 (some .int) :: qwg
abbrev qr_K_wordUnder : Room := { frames := 0, cells := 0, slots := 0, locals := 0 }
abbrev qw_K_note : List Cond := Cond.code qy_K_note qc_K_note 2 (none) :: qwg
abbrev qr_K_note : Room := { frames := 0, cells := 0, slots := 0, locals := 0 }
abbrev qw_K_look : List Cond := Cond.code qy_K_look qc_K_look 5 (none) :: qwg
abbrev qr_K_look : Room := { frames := 1, cells := 0, slots := 0, locals := 21 }
abbrev qw_K_wordPut : List Cond := Cond.code qy_K_wordPut qc_K_wordPut 5 (some .int) :: qwg
abbrev qr_K_wordPut : Room := { frames := 1, cells := 0, slots := 0, locals := 21 }
abbrev qw_X_wordOf : List Cond := Cond.code qy_X_wordOf qc_X_wordOf 2 (some .int) :: qwg
abbrev qr_X_wordOf : Room := { frames := 0, cells := 0, slots := 0, locals := 0 }
abbrev qw_K_send : List Cond := Cond.code qy_K_send qc_K_send 2 (some .int) :: qwg
abbrev qr_K_send : Room := { frames := 0, cells := 0, slots := 0, locals := 0 }
abbrev qw_K_act : List Cond := Cond.code qy_K_act qc_K_act 5 (none) :: qwg
abbrev qr_K_act : Room := { frames := 1, cells := 0, slots := 0, locals := 23 }
abbrev qw_K_swap : List Cond := Cond.code qy_K_swap qc_K_swap 4 (none) :: qwg
abbrev qr_K_swap : Room := { frames := 0, cells := 0, slots := 0, locals := 0 }
abbrev qw_X_withWord : List Cond := Cond.code qy_X_withWord qc_X_withWord 3 (some .int) :: qwg
abbrev qr_X_withWord : Room := { frames := 0, cells := 0, slots := 0, locals := 0 }
abbrev qw_Y_numberOf : List Cond := Cond.code qy_Y_numberOf qc_Y_numberOf 3 (some .int) :: qwg
abbrev qr_Y_numberOf : Room := { frames := 1, cells := 0, slots := 0, locals := 24 }
abbrev qw_Y_isWayOf : List Cond := Cond.code qy_Y_isWayOf qc_Y_isWayOf 5 (some .boolean) :: qwg
abbrev qr_Y_isWayOf : Room := { frames := 0, cells := 0, slots := 0, locals := 0 }
abbrev qw_Y_keep : List Cond := Cond.code qy_Y_keep qc_Y_keep 5 (none) :: qwg
abbrev qr_Y_keep : Room := { frames := 0, cells := 0, slots := 0, locals := 0 }
abbrev qw_E_countFollowers : List Cond := Cond.code qy_E_countFollowers qc_E_countFollowers 7 (some .boolean) :: qwg
abbrev qr_E_countFollowers : Room := { frames := 2, cells := 0, slots := 0, locals := 50 }
abbrev qw_P_meet : List Cond := Cond.code qy_P_meet qc_P_meet 6 (some .int) :: qwg
abbrev qr_P_meet : Room := { frames := 1, cells := 0, slots := 0, locals := 25 }
abbrev qw_P_open : List Cond := Cond.code qy_P_open qc_P_open 6 (some .int) :: qwg
abbrev qr_P_open : Room := { frames := 0, cells := 0, slots := 0, locals := 0 }
abbrev qw_T_note : List Cond := Cond.code qy_T_note qc_T_note 8 (none) :: qwg
abbrev qr_T_note : Room := { frames := 0, cells := 0, slots := 0, locals := 0 }
abbrev qw_E_surveyPairs : List Cond := Cond.code qy_E_surveyPairs qc_E_surveyPairs 5 (some .boolean) :: qwg
abbrev qr_E_surveyPairs : Room := { frames := 5, cells := 0, slots := 0, locals := 124 }
abbrev qw_B_isFollowedLikeAnEarlierOne : List Cond := Cond.code qy_B_isFollowedLikeAnEarlierOne qc_B_isFollowedLikeAnEarlierOne 3 (some .boolean) :: qwg
abbrev qr_B_isFollowedLikeAnEarlierOne : Room := { frames := 2, cells := 0, slots := 0, locals := 43 }
abbrev qw_B_areFollowedAlike : List Cond := Cond.code qy_B_areFollowedAlike qc_B_areFollowedAlike 3 (some .boolean) :: qwg
abbrev qr_B_areFollowedAlike : Room := { frames := 1, cells := 0, slots := 0, locals := 21 }
abbrev qw_B_isDestroyed : List Cond := Cond.code qy_B_isDestroyed qc_B_isDestroyed 2 (some .boolean) :: qwg
abbrev qr_B_isDestroyed : Room := { frames := 0, cells := 0, slots := 0, locals := 0 }
abbrev qw_E_countFollowersOfAllAlike : List Cond := Cond.code qy_E_countFollowersOfAllAlike qc_E_countFollowersOfAllAlike 3 (some .boolean) :: qwg
abbrev qr_E_countFollowersOfAllAlike : Room := { frames := 3, cells := 0, slots := 0, locals := 76 }
abbrev qw_E_conclude : List Cond := Cond.code qy_E_conclude qc_E_conclude 2 (some .int) :: qwg
abbrev qr_E_conclude : Room := { frames := 3, cells := 0, slots := 0, locals := 63 }
abbrev qw_P_putInOrder : List Cond := Cond.code qy_P_putInOrder qc_P_putInOrder 4 (none) :: qwg
abbrev qr_P_putInOrder : Room := { frames := 0, cells := 0, slots := 0, locals := 0 }
abbrev qw_X_inputs : List Cond := Cond.code qy_X_inputs qc_X_inputs 3 (some .int) :: qwg
abbrev qr_X_inputs : Room := { frames := 2, cells := 0, slots := 0, locals := 42 }
abbrev qw_P_rowOf : List Cond := Cond.code qy_P_rowOf qc_P_rowOf 2 (some .int) :: qwg
abbrev qr_P_rowOf : Room := { frames := 1, cells := 0, slots := 0, locals := 21 }
abbrev qw_X_witness : List Cond := Cond.code qy_X_witness qc_X_witness 3 (some .int) :: qwg
abbrev qr_X_witness : Room := { frames := 2, cells := 0, slots := 0, locals := 42 }
abbrev qw_X_end : List Cond := Cond.code qy_X_end qc_X_end 4 (some .int) :: qwg
abbrev qr_X_end : Room := { frames := 2, cells := 0, slots := 0, locals := 42 }
abbrev qw_E_waysOf : List Cond := Cond.code qy_E_waysOf qc_E_waysOf 2 (some (.object "ContractProbe$Ways")) :: qwg
abbrev qr_E_waysOf : Room := { frames := 0, cells := 0, slots := 0, locals := 0 }
abbrev qw_E_wayOn : List Cond := Cond.code qy_E_wayOn qc_E_wayOn 3 (some .int) :: qwg
abbrev qr_E_wayOn : Room := { frames := 0, cells := 0, slots := 0, locals := 0 }
abbrev qw_X_step : List Cond := Cond.code qy_X_step qc_X_step 5 (some .int) :: qwg
abbrev qr_X_step : Room := { frames := 2, cells := 0, slots := 0, locals := 43 }
abbrev qw_Y_stepOf : List Cond := Cond.code qy_Y_stepOf qc_Y_stepOf 3 (some .int) :: qwg
abbrev qr_Y_stepOf : Room := { frames := 1, cells := 0, slots := 0, locals := 21 }
abbrev qw_X_left : List Cond := Cond.code qy_X_left qc_X_left 6 (some .int) :: qwg
abbrev qr_X_left : Room := { frames := 2, cells := 0, slots := 0, locals := 42 }
abbrev qw_X_finding : List Cond := Cond.code qy_X_finding qc_X_finding 3 (some .int) :: qwg
abbrev qr_X_finding : Room := { frames := 1, cells := 0, slots := 0, locals := 22 }
abbrev qw_T_leastOf : List Cond := Cond.code qy_T_leastOf qc_T_leastOf 3 (some .int) :: qwg
abbrev qr_T_leastOf : Room := { frames := 0, cells := 0, slots := 0, locals := 0 }
abbrev qw_X_risk : List Cond := Cond.code qy_X_risk qc_X_risk 5 (some .int) :: qwg
abbrev qr_X_risk : Room := { frames := 2, cells := 0, slots := 0, locals := 42 }
abbrev qw_T_countOf : List Cond := Cond.code qy_T_countOf qc_T_countOf 4 (some .int) :: qwg
abbrev qr_T_countOf : Room := { frames := 0, cells := 0, slots := 0, locals := 0 }
abbrev qw_X_replay : List Cond := Cond.code qy_X_replay qc_X_replay 5 (some .int) :: qwg
abbrev qr_X_replay : Room := { frames := 4, cells := 0, slots := 0, locals := 97 }
abbrev qw_X_keepReplay : List Cond := Cond.code qy_X_keepReplay qc_X_keepReplay 2 (none) :: qwg
abbrev qr_X_keepReplay : Room := { frames := 1, cells := 0, slots := 0, locals := 21 }
abbrev qw_X_replayed : List Cond := Cond.code qy_X_replayed qc_X_replayed 2 (some .int) :: qwg
abbrev qr_X_replayed : Room := { frames := 1, cells := 0, slots := 0, locals := 21 }
abbrev qw_M_init : List Cond := Cond.code qy_M_init qc_M_init 1 (none) :: qwg
abbrev qr_M_init : Room := { frames := 1, cells := 0, slots := 0, locals := 12 }
abbrev qw_M_add : List Cond := Cond.code qy_M_add qc_M_add 3 (some .int) :: qwg
abbrev qr_M_add : Room := { frames := 0, cells := 0, slots := 0, locals := 0 }
abbrev qw_M_clear : List Cond := Cond.code qy_M_clear qc_M_clear 1 (none) :: qwg
abbrev qr_M_clear : Room := { frames := 0, cells := 0, slots := 0, locals := 0 }
abbrev qw_M_start : List Cond := Cond.code qy_M_start qc_M_start 3 (some .boolean) :: qwg
abbrev qr_M_start : Room := { frames := 0, cells := 0, slots := 0, locals := 0 }
abbrev qw_M_explore : List Cond := Cond.code qy_M_explore qc_M_explore 5 (some .int) :: qwg
abbrev qr_M_explore : Room := { frames := 5, cells := 0, slots := 0, locals := 115 }
abbrev qw_M_perform : List Cond := Cond.code qy_M_perform qc_M_perform 4 (none) :: qwg
abbrev qr_M_perform : Room := { frames := 4, cells := 0, slots := 0, locals := 92 }
abbrev qw_M_transact : List Cond := Cond.code qy_M_transact qc_M_transact 5 (none) :: qwg
abbrev qr_M_transact : Room := { frames := 3, cells := 0, slots := 0, locals := 68 }
abbrev qw_M_faults : List Cond := Cond.code qy_M_faults qc_M_faults 2 (some .boolean) :: qwg
abbrev qr_M_faults : Room := { frames := 1, cells := 0, slots := 0, locals := 22 }
abbrev qw_M_cost : List Cond := Cond.code qy_M_cost qc_M_cost 1 (some .int) :: qwg
abbrev qr_M_cost : Room := { frames := 0, cells := 0, slots := 0, locals := 0 }
abbrev qw_M_takes : List Cond := Cond.code qy_M_takes qc_M_takes 1 (some .int) :: qwg
abbrev qr_M_takes : Room := { frames := 0, cells := 0, slots := 0, locals := 0 }
abbrev qw_M_puts : List Cond := Cond.code qy_M_puts qc_M_puts 1 (some .int) :: qwg
abbrev qr_M_puts : Room := { frames := 0, cells := 0, slots := 0, locals := 0 }
abbrev qw_M_markOf : List Cond := Cond.code qy_M_markOf qc_M_markOf 3 (some .int) :: qwg
abbrev qr_M_markOf : Room := { frames := 0, cells := 0, slots := 0, locals := 0 }
abbrev qw_M_note : List Cond := Cond.code qy_M_note qc_M_note 2 (none) :: qwg
abbrev qr_M_note : Room := { frames := 0, cells := 0, slots := 0, locals := 0 }
abbrev qw_M_act : List Cond := Cond.code qy_M_act qc_M_act 6 (some .int) :: qwg
abbrev qr_M_act : Room := { frames := 2, cells := 0, slots := 0, locals := 43 }
abbrev qw_M_overflows : List Cond := Cond.code qy_M_overflows qc_M_overflows 3 (some .boolean) :: qwg
abbrev qr_M_overflows : Room := { frames := 0, cells := 0, slots := 0, locals := 0 }
abbrev qw_M_give : List Cond := Cond.code qy_M_give qc_M_give 2 (none) :: qwg
abbrev qr_M_give : Room := { frames := 0, cells := 0, slots := 0, locals := 0 }
abbrev qw_M_swap : List Cond := Cond.code qy_M_swap qc_M_swap 3 (none) :: qwg
abbrev qr_M_swap : Room := { frames := 0, cells := 0, slots := 0, locals := 0 }
abbrev qw_M_send : List Cond := Cond.code qy_M_send qc_M_send 3 (none) :: qwg
abbrev qr_M_send : Room := { frames := 1, cells := 0, slots := 0, locals := 21 }
abbrev qw_M_worked : List Cond := Cond.code qy_M_worked qc_M_worked 3 (some .int) :: qwg
abbrev qr_M_worked : Room := { frames := 0, cells := 0, slots := 0, locals := 0 }
abbrev qw_M_goes : List Cond := Cond.code qy_M_goes qc_M_goes 4 (some .boolean) :: qwg
abbrev qr_M_goes : Room := { frames := 0, cells := 0, slots := 0, locals := 0 }
abbrev qw_M_open : List Cond := Cond.code qy_M_open qc_M_open 5 (none) :: qwg
abbrev qr_M_open : Room := { frames := 0, cells := 0, slots := 0, locals := 0 }
abbrev qw_M_count : List Cond := Cond.code qy_M_count qc_M_count 4 (none) :: qwg
abbrev qr_M_count : Room := { frames := 0, cells := 0, slots := 0, locals := 0 }
abbrev qw_M_inputs : List Cond := Cond.code qy_M_inputs qc_M_inputs 2 (some .int) :: qwg
abbrev qr_M_inputs : Room := { frames := 1, cells := 0, slots := 0, locals := 21 }
abbrev qw_M_isPath : List Cond := Cond.code qy_M_isPath qc_M_isPath 2 (some .boolean) :: qwg
abbrev qr_M_isPath : Room := { frames := 0, cells := 0, slots := 0, locals := 0 }
abbrev qw_M_witness : List Cond := Cond.code qy_M_witness qc_M_witness 2 (some .int) :: qwg
abbrev qr_M_witness : Room := { frames := 1, cells := 0, slots := 0, locals := 21 }
abbrev qw_M_end : List Cond := Cond.code qy_M_end qc_M_end 3 (some .int) :: qwg
abbrev qr_M_end : Room := { frames := 1, cells := 0, slots := 0, locals := 21 }
abbrev qw_M_step : List Cond := Cond.code qy_M_step qc_M_step 4 (some .int) :: qwg
abbrev qr_M_step : Room := { frames := 1, cells := 0, slots := 0, locals := 21 }
abbrev qw_M_left : List Cond := Cond.code qy_M_left qc_M_left 3 (some .int) :: qwg
abbrev qr_M_left : Room := { frames := 1, cells := 0, slots := 0, locals := 21 }
abbrev qw_M_finding : List Cond := Cond.code qy_M_finding qc_M_finding 3 (some .int) :: qwg
abbrev qr_M_finding : Room := { frames := 0, cells := 0, slots := 0, locals := 0 }
abbrev qw_M_risk : List Cond := Cond.code qy_M_risk qc_M_risk 4 (some .int) :: qwg
abbrev qr_M_risk : Room := { frames := 1, cells := 0, slots := 0, locals := 21 }
abbrev qw_M_replay : List Cond := Cond.code qy_M_replay qc_M_replay 4 (some .int) :: qwg
abbrev qr_M_replay : Room := { frames := 5, cells := 0, slots := 0, locals := 115 }
abbrev qw_M_replayed : List Cond := Cond.code qy_M_replayed qc_M_replayed 2 (some .int) :: qwg
abbrev qr_M_replayed : Room := { frames := 0, cells := 0, slots := 0, locals := 0 }
set_option maxRecDepth 100000 in
theorem qs_C_25 : ew_CS qS qR_C qwg 25 qy_A_fill qc_A_fill 4 (none) qw_A_fill 2 := ⟨⟨⟨_, rfl⟩, wg_good _ (wg_t 33 rfl rfl), wg_t 4 rfl rfl, Or.inl (wg_t 31 rfl rfl), by decide +kernel, by decide +kernel, by decide +kernel⟩, wg_t 32 rfl rfl⟩
set_option maxRecDepth 100000 in
theorem qf_C_9 : ew_F qS qR_C qwg 9 2 0 := ⟨qR_C, qT_C, 4, qt_C, rfl, by decide, qu_C, Or.inl (wg_t 34 rfl rfl), qk_C, qn_C⟩
set_option maxRecDepth 100000 in
theorem qf_K_71 : ew_F qS qR_K qwg 71 2 0 := ⟨qR_C, qT_C, 4, qt_C, rfl, by decide, qu_C, Or.inr ⟨"ContractProbe", wg_n 35 rfl rfl⟩, qk_C, qn_C⟩
set_option maxRecDepth 100000 in
theorem qf_C_15 : ew_F qS qR_C qwg 15 2 1 := ⟨qR_C, qT_C, 4, qt_C, rfl, by decide, qu_C, Or.inl (wg_t 36 rfl rfl), qk_C, qn_C⟩
set_option maxRecDepth 100000 in
theorem qf_K_74 : ew_F qS qR_K qwg 74 2 1 := ⟨qR_C, qT_C, 4, qt_C, rfl, by decide, qu_C, Or.inr ⟨"ContractProbe", wg_n 37 rfl rfl⟩, qk_C, qn_C⟩
set_option maxRecDepth 100000 in
theorem qf_C_18 : ew_F qS qR_C qwg 18 2 2 := ⟨qR_C, qT_C, 4, qt_C, rfl, by decide, qu_C, Or.inl (wg_t 38 rfl rfl), qk_C, qn_C⟩
set_option maxRecDepth 100000 in
theorem qf_K_118 : ew_F qS qR_K qwg 118 2 2 := ⟨qR_C, qT_C, 4, qt_C, rfl, by decide, qu_C, Or.inr ⟨"ContractProbe", wg_n 39 rfl rfl⟩, qk_C, qn_C⟩
set_option maxRecDepth 100000 in
theorem qf_C_21 : ew_F qS qR_C qwg 21 2 3 := ⟨qR_C, qT_C, 4, qt_C, rfl, by decide, qu_C, Or.inl (wg_t 40 rfl rfl), qk_C, qn_C⟩
set_option maxRecDepth 100000 in
theorem qf_K_64 : ew_F qS qR_K qwg 64 2 3 := ⟨qR_C, qT_C, 4, qt_C, rfl, by decide, qu_C, Or.inr ⟨"ContractProbe", wg_n 41 rfl rfl⟩, qk_C, qn_C⟩
set_option maxRecDepth 100000 in
theorem qf_K_12 : ew_F qS qR_K qwg 12 1 0 := ⟨qR_K, qT_K, 14, qt_K, rfl, by decide, qu_K, Or.inl (wg_t 52 rfl rfl), qk_K, qn_K⟩
set_option maxRecDepth 100000 in
theorem qf_X_42 : ew_F qS qR_X qwg 42 1 0 := ⟨qR_K, qT_K, 14, qt_K, rfl, by decide, qu_K, Or.inr ⟨"ContractProbe", wg_n 53 rfl rfl⟩, qk_K, qn_K⟩
set_option maxRecDepth 100000 in
theorem qf_K_18 : ew_F qS qR_K qwg 18 1 1 := ⟨qR_K, qT_K, 14, qt_K, rfl, by decide, qu_K, Or.inl (wg_t 54 rfl rfl), qk_K, qn_K⟩
set_option maxRecDepth 100000 in
theorem qf_K_22 : ew_F qS qR_K qwg 22 1 2 := ⟨qR_K, qT_K, 14, qt_K, rfl, by decide, qu_K, Or.inl (wg_t 55 rfl rfl), qk_K, qn_K⟩
set_option maxRecDepth 100000 in
theorem qf_X_145 : ew_F qS qR_X qwg 145 1 2 := ⟨qR_K, qT_K, 14, qt_K, rfl, by decide, qu_K, Or.inr ⟨"ContractProbe", wg_n 56 rfl rfl⟩, qk_K, qn_K⟩
set_option maxRecDepth 100000 in
theorem qf_K_26 : ew_F qS qR_K qwg 26 1 3 := ⟨qR_K, qT_K, 14, qt_K, rfl, by decide, qu_K, Or.inl (wg_t 57 rfl rfl), qk_K, qn_K⟩
set_option maxRecDepth 100000 in
theorem qf_B_47 : ew_F qS qR_B qwg 47 1 3 := ⟨qR_K, qT_K, 14, qt_K, rfl, by decide, qu_K, Or.inr ⟨"ContractProbe", wg_n 58 rfl rfl⟩, qk_K, qn_K⟩
set_option maxRecDepth 100000 in
theorem qf_X_133 : ew_F qS qR_X qwg 133 1 3 := ⟨qR_K, qT_K, 14, qt_K, rfl, by decide, qu_K, Or.inr ⟨"ContractProbe", wg_n 59 rfl rfl⟩, qk_K, qn_K⟩
set_option maxRecDepth 100000 in
theorem qf_K_29 : ew_F qS qR_K qwg 29 1 4 := ⟨qR_K, qT_K, 14, qt_K, rfl, by decide, qu_K, Or.inl (wg_t 60 rfl rfl), qk_K, qn_K⟩
set_option maxRecDepth 100000 in
theorem qf_X_142 : ew_F qS qR_X qwg 142 1 4 := ⟨qR_K, qT_K, 14, qt_K, rfl, by decide, qu_K, Or.inr ⟨"ContractProbe", wg_n 61 rfl rfl⟩, qk_K, qn_K⟩
set_option maxRecDepth 100000 in
theorem qf_K_32 : ew_F qS qR_K qwg 32 1 5 := ⟨qR_K, qT_K, 14, qt_K, rfl, by decide, qu_K, Or.inl (wg_t 62 rfl rfl), qk_K, qn_K⟩
set_option maxRecDepth 100000 in
theorem qf_K_35 : ew_F qS qR_K qwg 35 1 6 := ⟨qR_K, qT_K, 14, qt_K, rfl, by decide, qu_K, Or.inl (wg_t 63 rfl rfl), qk_K, qn_K⟩
set_option maxRecDepth 100000 in
theorem qf_Y_45 : ew_F qS qR_Y qwg 45 1 6 := ⟨qR_K, qT_K, 14, qt_K, rfl, by decide, qu_K, Or.inr ⟨"ContractProbe", wg_n 64 rfl rfl⟩, qk_K, qn_K⟩
set_option maxRecDepth 100000 in
theorem qf_X_136 : ew_F qS qR_X qwg 136 1 6 := ⟨qR_K, qT_K, 14, qt_K, rfl, by decide, qu_K, Or.inr ⟨"ContractProbe", wg_n 65 rfl rfl⟩, qk_K, qn_K⟩
set_option maxRecDepth 100000 in
theorem qf_K_38 : ew_F qS qR_K qwg 38 1 7 := ⟨qR_K, qT_K, 14, qt_K, rfl, by decide, qu_K, Or.inl (wg_t 66 rfl rfl), qk_K, qn_K⟩
set_option maxRecDepth 100000 in
theorem qf_K_41 : ew_F qS qR_K qwg 41 1 8 := ⟨qR_K, qT_K, 14, qt_K, rfl, by decide, qu_K, Or.inl (wg_t 67 rfl rfl), qk_K, qn_K⟩
set_option maxRecDepth 100000 in
theorem qf_K_44 : ew_F qS qR_K qwg 44 1 9 := ⟨qR_K, qT_K, 14, qt_K, rfl, by decide, qu_K, Or.inl (wg_t 68 rfl rfl), qk_K, qn_K⟩
set_option maxRecDepth 100000 in
theorem qf_K_48 : ew_F qS qR_K qwg 48 1 10 := ⟨qR_K, qT_K, 14, qt_K, rfl, by decide, qu_K, Or.inl (wg_t 69 rfl rfl), qk_K, qn_K⟩
set_option maxRecDepth 100000 in
theorem qf_Y_51 : ew_F qS qR_Y qwg 51 1 10 := ⟨qR_K, qT_K, 14, qt_K, rfl, by decide, qu_K, Or.inr ⟨"ContractProbe", wg_n 70 rfl rfl⟩, qk_K, qn_K⟩
set_option maxRecDepth 100000 in
theorem qf_K_51 : ew_F qS qR_K qwg 51 1 11 := ⟨qR_K, qT_K, 14, qt_K, rfl, by decide, qu_K, Or.inl (wg_t 71 rfl rfl), qk_K, qn_K⟩
set_option maxRecDepth 100000 in
theorem qf_Y_48 : ew_F qS qR_Y qwg 48 1 11 := ⟨qR_K, qT_K, 14, qt_K, rfl, by decide, qu_K, Or.inr ⟨"ContractProbe", wg_n 72 rfl rfl⟩, qk_K, qn_K⟩
set_option maxRecDepth 100000 in
theorem qf_K_54 : ew_F qS qR_K qwg 54 1 12 := ⟨qR_K, qT_K, 14, qt_K, rfl, by decide, qu_K, Or.inl (wg_t 73 rfl rfl), qk_K, qn_K⟩
set_option maxRecDepth 100000 in
theorem qf_Y_40 : ew_F qS qR_Y qwg 40 1 12 := ⟨qR_K, qT_K, 14, qt_K, rfl, by decide, qu_K, Or.inr ⟨"ContractProbe", wg_n 74 rfl rfl⟩, qk_K, qn_K⟩
set_option maxRecDepth 100000 in
theorem qf_K_57 : ew_F qS qR_K qwg 57 1 13 := ⟨qR_K, qT_K, 14, qt_K, rfl, by decide, qu_K, Or.inl (wg_t 75 rfl rfl), qk_K, qn_K⟩
set_option maxRecDepth 100000 in
theorem qf_B_51 : ew_F qS qR_B qwg 51 1 13 := ⟨qR_K, qT_K, 14, qt_K, rfl, by decide, qu_K, Or.inr ⟨"ContractProbe", wg_n 76 rfl rfl⟩, qk_K, qn_K⟩
set_option maxRecDepth 100000 in
theorem qf_Y_9 : ew_F qS qR_Y qwg 9 5 0 := ⟨qR_Y, qT_Y, 5, qt_Y, rfl, by decide, qu_Y, Or.inl (wg_t 124 rfl rfl), qk_Y, qn_Y⟩
set_option maxRecDepth 100000 in
theorem qf_Y_15 : ew_F qS qR_Y qwg 15 5 1 := ⟨qR_Y, qT_Y, 5, qt_Y, rfl, by decide, qu_Y, Or.inl (wg_t 125 rfl rfl), qk_Y, qn_Y⟩
set_option maxRecDepth 100000 in
theorem qf_Y_18 : ew_F qS qR_Y qwg 18 5 2 := ⟨qR_Y, qT_Y, 5, qt_Y, rfl, by decide, qu_Y, Or.inl (wg_t 126 rfl rfl), qk_Y, qn_Y⟩
set_option maxRecDepth 100000 in
theorem qf_Y_21 : ew_F qS qR_Y qwg 21 5 3 := ⟨qR_Y, qT_Y, 5, qt_Y, rfl, by decide, qu_Y, Or.inl (wg_t 127 rfl rfl), qk_Y, qn_Y⟩
set_option maxRecDepth 100000 in
theorem qf_B_52 : ew_F qS qR_B qwg 52 5 3 := ⟨qR_Y, qT_Y, 5, qt_Y, rfl, by decide, qu_Y, Or.inr ⟨"ContractProbe", wg_n 128 rfl rfl⟩, qk_Y, qn_Y⟩
set_option maxRecDepth 100000 in
theorem qf_X_96 : ew_F qS qR_X qwg 96 5 3 := ⟨qR_Y, qT_Y, 5, qt_Y, rfl, by decide, qu_Y, Or.inr ⟨"ContractProbe", wg_n 129 rfl rfl⟩, qk_Y, qn_Y⟩
set_option maxRecDepth 100000 in
theorem qf_Y_24 : ew_F qS qR_Y qwg 24 5 4 := ⟨qR_Y, qT_Y, 5, qt_Y, rfl, by decide, qu_Y, Or.inl (wg_t 130 rfl rfl), qk_Y, qn_Y⟩
set_option maxRecDepth 100000 in
theorem qf_B_12 : ew_F qS qR_B qwg 12 4 0 := ⟨qR_B, qT_B, 4, qt_B, rfl, by decide, qu_B, Or.inl (wg_t 142 rfl rfl), qk_B, qn_B⟩
set_option maxRecDepth 100000 in
theorem qf_E_72 : ew_F qS qR_E qwg 72 4 0 := ⟨qR_B, qT_B, 4, qt_B, rfl, by decide, qu_B, Or.inr ⟨"ContractProbe", wg_n 143 rfl rfl⟩, qk_B, qn_B⟩
set_option maxRecDepth 100000 in
theorem qf_B_18 : ew_F qS qR_B qwg 18 4 1 := ⟨qR_B, qT_B, 4, qt_B, rfl, by decide, qu_B, Or.inl (wg_t 144 rfl rfl), qk_B, qn_B⟩
set_option maxRecDepth 100000 in
theorem qf_E_86 : ew_F qS qR_E qwg 86 4 1 := ⟨qR_B, qT_B, 4, qt_B, rfl, by decide, qu_B, Or.inr ⟨"ContractProbe", wg_n 145 rfl rfl⟩, qk_B, qn_B⟩
set_option maxRecDepth 100000 in
theorem qf_B_22 : ew_F qS qR_B qwg 22 4 2 := ⟨qR_B, qT_B, 4, qt_B, rfl, by decide, qu_B, Or.inl (wg_t 146 rfl rfl), qk_B, qn_B⟩
set_option maxRecDepth 100000 in
theorem qf_E_55 : ew_F qS qR_E qwg 55 4 2 := ⟨qR_B, qT_B, 4, qt_B, rfl, by decide, qu_B, Or.inr ⟨"ContractProbe", wg_n 147 rfl rfl⟩, qk_B, qn_B⟩
set_option maxRecDepth 100000 in
theorem qf_B_25 : ew_F qS qR_B qwg 25 4 3 := ⟨qR_B, qT_B, 4, qt_B, rfl, by decide, qu_B, Or.inl (wg_t 148 rfl rfl), qk_B, qn_B⟩
set_option maxRecDepth 100000 in
theorem qf_E_93 : ew_F qS qR_E qwg 93 4 3 := ⟨qR_B, qT_B, 4, qt_B, rfl, by decide, qu_B, Or.inr ⟨"ContractProbe", wg_n 149 rfl rfl⟩, qk_B, qn_B⟩
set_option maxRecDepth 100000 in
theorem qf_P_9 : ew_F qS qR_P qwg 9 6 0 := ⟨qR_P, qT_P, 9, qt_P, rfl, by decide, qu_P, Or.inl (wg_t 165 rfl rfl), qk_P, qn_P⟩
set_option maxRecDepth 100000 in
theorem qf_P_15 : ew_F qS qR_P qwg 15 6 1 := ⟨qR_P, qT_P, 9, qt_P, rfl, by decide, qu_P, Or.inl (wg_t 166 rfl rfl), qk_P, qn_P⟩
set_option maxRecDepth 100000 in
theorem qf_E_79 : ew_F qS qR_E qwg 79 6 1 := ⟨qR_P, qT_P, 9, qt_P, rfl, by decide, qu_P, Or.inr ⟨"ContractProbe", wg_n 167 rfl rfl⟩, qk_P, qn_P⟩
set_option maxRecDepth 100000 in
theorem qf_P_18 : ew_F qS qR_P qwg 18 6 2 := ⟨qR_P, qT_P, 9, qt_P, rfl, by decide, qu_P, Or.inl (wg_t 168 rfl rfl), qk_P, qn_P⟩
set_option maxRecDepth 100000 in
theorem qf_E_76 : ew_F qS qR_E qwg 76 6 2 := ⟨qR_P, qT_P, 9, qt_P, rfl, by decide, qu_P, Or.inr ⟨"ContractProbe", wg_n 169 rfl rfl⟩, qk_P, qn_P⟩
set_option maxRecDepth 100000 in
theorem qf_P_21 : ew_F qS qR_P qwg 21 6 3 := ⟨qR_P, qT_P, 9, qt_P, rfl, by decide, qu_P, Or.inl (wg_t 170 rfl rfl), qk_P, qn_P⟩
set_option maxRecDepth 100000 in
theorem qf_X_83 : ew_F qS qR_X qwg 83 6 3 := ⟨qR_P, qT_P, 9, qt_P, rfl, by decide, qu_P, Or.inr ⟨"ContractProbe", wg_n 171 rfl rfl⟩, qk_P, qn_P⟩
set_option maxRecDepth 100000 in
theorem qf_P_24 : ew_F qS qR_P qwg 24 6 4 := ⟨qR_P, qT_P, 9, qt_P, rfl, by decide, qu_P, Or.inl (wg_t 172 rfl rfl), qk_P, qn_P⟩
set_option maxRecDepth 100000 in
theorem qf_X_86 : ew_F qS qR_X qwg 86 6 4 := ⟨qR_P, qT_P, 9, qt_P, rfl, by decide, qu_P, Or.inr ⟨"ContractProbe", wg_n 173 rfl rfl⟩, qk_P, qn_P⟩
set_option maxRecDepth 100000 in
theorem qf_P_27 : ew_F qS qR_P qwg 27 6 5 := ⟨qR_P, qT_P, 9, qt_P, rfl, by decide, qu_P, Or.inl (wg_t 174 rfl rfl), qk_P, qn_P⟩
set_option maxRecDepth 100000 in
theorem qf_X_107 : ew_F qS qR_X qwg 107 6 5 := ⟨qR_P, qT_P, 9, qt_P, rfl, by decide, qu_P, Or.inr ⟨"ContractProbe", wg_n 175 rfl rfl⟩, qk_P, qn_P⟩
set_option maxRecDepth 100000 in
theorem qf_P_30 : ew_F qS qR_P qwg 30 6 6 := ⟨qR_P, qT_P, 9, qt_P, rfl, by decide, qu_P, Or.inl (wg_t 176 rfl rfl), qk_P, qn_P⟩
set_option maxRecDepth 100000 in
theorem qf_X_113 : ew_F qS qR_X qwg 113 6 6 := ⟨qR_P, qT_P, 9, qt_P, rfl, by decide, qu_P, Or.inr ⟨"ContractProbe", wg_n 177 rfl rfl⟩, qk_P, qn_P⟩
set_option maxRecDepth 100000 in
theorem qf_P_33 : ew_F qS qR_P qwg 33 6 7 := ⟨qR_P, qT_P, 9, qt_P, rfl, by decide, qu_P, Or.inl (wg_t 178 rfl rfl), qk_P, qn_P⟩
set_option maxRecDepth 100000 in
theorem qf_P_36 : ew_F qS qR_P qwg 36 6 8 := ⟨qR_P, qT_P, 9, qt_P, rfl, by decide, qu_P, Or.inl (wg_t 179 rfl rfl), qk_P, qn_P⟩
set_option maxRecDepth 100000 in
theorem qf_E_69 : ew_F qS qR_E qwg 69 6 8 := ⟨qR_P, qT_P, 9, qt_P, rfl, by decide, qu_P, Or.inr ⟨"ContractProbe", wg_n 180 rfl rfl⟩, qk_P, qn_P⟩
set_option maxRecDepth 100000 in
theorem qs_T_18 : ew_CS qS qR_T qwg 18 qy_A_fill qc_A_fill 4 (none) qw_A_fill 2 := ⟨⟨⟨_, rfl⟩, wg_good _ (wg_t 33 rfl rfl), wg_t 4 rfl rfl, Or.inl (wg_t 206 rfl rfl), by decide +kernel, by decide +kernel, by decide +kernel⟩, wg_t 32 rfl rfl⟩
set_option maxRecDepth 100000 in
theorem qf_T_9 : ew_F qS qR_T qwg 9 7 0 := ⟨qR_T, qT_T, 2, qt_T, rfl, by decide, qu_T, Or.inl (wg_t 207 rfl rfl), qk_T, qn_T⟩
set_option maxRecDepth 100000 in
theorem qf_T_15 : ew_F qS qR_T qwg 15 7 1 := ⟨qR_T, qT_T, 2, qt_T, rfl, by decide, qu_T, Or.inl (wg_t 208 rfl rfl), qk_T, qn_T⟩
set_option maxRecDepth 100000 in
theorem qf_E_12 : ew_F qS qR_E qwg 12 3 0 := ⟨qR_E, qT_E, 5, qt_E, rfl, by decide, qu_E, Or.inl (wg_t 214 rfl rfl), qk_E, qn_E⟩
set_option maxRecDepth 100000 in
theorem qf_E_18 : ew_F qS qR_E qwg 18 3 1 := ⟨qR_E, qT_E, 5, qt_E, rfl, by decide, qu_E, Or.inl (wg_t 215 rfl rfl), qk_E, qn_E⟩
set_option maxRecDepth 100000 in
theorem qf_E_24 : ew_F qS qR_E qwg 24 3 2 := ⟨qR_E, qT_E, 5, qt_E, rfl, by decide, qu_E, Or.inl (wg_t 216 rfl rfl), qk_E, qn_E⟩
set_option maxRecDepth 100000 in
theorem qf_X_73 : ew_F qS qR_X qwg 73 3 2 := ⟨qR_E, qT_E, 5, qt_E, rfl, by decide, qu_E, Or.inr ⟨"ContractProbe", wg_n 217 rfl rfl⟩, qk_E, qn_E⟩
set_option maxRecDepth 100000 in
theorem qf_E_31 : ew_F qS qR_E qwg 31 3 3 := ⟨qR_E, qT_E, 5, qt_E, rfl, by decide, qu_E, Or.inl (wg_t 218 rfl rfl), qk_E, qn_E⟩
set_option maxRecDepth 100000 in
theorem qf_X_116 : ew_F qS qR_X qwg 116 3 3 := ⟨qR_E, qT_E, 5, qt_E, rfl, by decide, qu_E, Or.inr ⟨"ContractProbe", wg_n 219 rfl rfl⟩, qk_E, qn_E⟩
set_option maxRecDepth 100000 in
theorem qf_E_35 : ew_F qS qR_E qwg 35 3 4 := ⟨qR_E, qT_E, 5, qt_E, rfl, by decide, qu_E, Or.inl (wg_t 220 rfl rfl), qk_E, qn_E⟩
set_option maxRecDepth 100000 in
theorem qf_X_89 : ew_F qS qR_X qwg 89 3 4 := ⟨qR_E, qT_E, 5, qt_E, rfl, by decide, qu_E, Or.inr ⟨"ContractProbe", wg_n 221 rfl rfl⟩, qk_E, qn_E⟩
set_option maxRecDepth 100000 in
theorem qf_X_12 : ew_F qS qR_X qwg 12 0 0 := ⟨qR_X, qT_X, 6, qt_X, rfl, by decide, qu_X, Or.inl (wg_t 233 rfl rfl), qk_X, qn_X⟩
set_option maxRecDepth 100000 in
theorem qf_X_19 : ew_F qS qR_X qwg 19 0 1 := ⟨qR_X, qT_X, 6, qt_X, rfl, by decide, qu_X, Or.inl (wg_t 234 rfl rfl), qk_X, qn_X⟩
set_option maxRecDepth 100000 in
theorem qf_X_23 : ew_F qS qR_X qwg 23 0 2 := ⟨qR_X, qT_X, 6, qt_X, rfl, by decide, qu_X, Or.inl (wg_t 235 rfl rfl), qk_X, qn_X⟩
set_option maxRecDepth 100000 in
theorem qf_X_27 : ew_F qS qR_X qwg 27 0 3 := ⟨qR_X, qT_X, 6, qt_X, rfl, by decide, qu_X, Or.inl (wg_t 236 rfl rfl), qk_X, qn_X⟩
set_option maxRecDepth 100000 in
theorem qf_X_31 : ew_F qS qR_X qwg 31 0 4 := ⟨qR_X, qT_X, 6, qt_X, rfl, by decide, qu_X, Or.inl (wg_t 237 rfl rfl), qk_X, qn_X⟩
set_option maxRecDepth 100000 in
theorem qf_X_35 : ew_F qS qR_X qwg 35 0 5 := ⟨qR_X, qT_X, 6, qt_X, rfl, by decide, qu_X, Or.inl (wg_t 238 rfl rfl), qk_X, qn_X⟩
set_option maxRecDepth 100000 in
theorem qv_L_13 : ew_CV qS qR_L qwg 13 qy_X_add qc_X_add 3 (some .int) qw_X_add 2 := ⟨⟨⟨_, rfl⟩, wg_good _ (wg_t 255 rfl rfl), wg_t 1 rfl rfl, Or.inl (wg_t 252 rfl rfl), by decide +kernel, by decide +kernel, by decide +kernel⟩, wg_t 253 rfl rfl, wg_t 254 rfl rfl⟩
set_option maxRecDepth 100000 in
theorem qs_X_38 : ew_CS qS qR_X qwg 38 qy_X_isBelow qc_X_isBelow 2 (some .boolean) qw_X_isBelow 2 := ⟨⟨⟨_, rfl⟩, wg_good _ (wg_t 258 rfl rfl), wg_t 1 rfl rfl, Or.inl (wg_t 256 rfl rfl), by decide +kernel, by decide +kernel, by decide +kernel⟩, wg_t 257 rfl rfl⟩
set_option maxRecDepth 100000 in
theorem qv_X_46 : ew_CV qS qR_X qwg 46 qy_C_append qc_C_append 3 (some .int) qw_C_append 2 := ⟨⟨⟨_, rfl⟩, wg_good _ (wg_t 262 rfl rfl), wg_t 3 rfl rfl, Or.inl (wg_t 259 rfl rfl), by decide +kernel, by decide +kernel, by decide +kernel⟩, wg_t 260 rfl rfl, wg_t 261 rfl rfl⟩
set_option maxRecDepth 100000 in
theorem qv_L_18 : ew_CV qS qR_L qwg 18 qy_X_clear qc_X_clear 1 (none) qw_X_clear 0 := ⟨⟨⟨_, rfl⟩, wg_good _ (wg_t 266 rfl rfl), wg_t 1 rfl rfl, Or.inl (wg_t 263 rfl rfl), by decide +kernel, by decide +kernel, by decide +kernel⟩, wg_t 264 rfl rfl, wg_t 265 rfl rfl⟩
set_option maxRecDepth 100000 in
theorem qv_X_52 : ew_CV qS qR_X qwg 52 qy_C_wipe qc_C_wipe 1 (none) qw_C_wipe 0 := ⟨⟨⟨_, rfl⟩, wg_good _ (wg_t 270 rfl rfl), wg_t 3 rfl rfl, Or.inl (wg_t 267 rfl rfl), by decide +kernel, by decide +kernel, by decide +kernel⟩, wg_t 268 rfl rfl, wg_t 269 rfl rfl⟩
set_option maxRecDepth 100000 in
theorem qv_L_22 : ew_CV qS qR_L qwg 22 qy_X_start qc_X_start 3 (some .boolean) qw_X_start 2 := ⟨⟨⟨_, rfl⟩, wg_good _ (wg_t 274 rfl rfl), wg_t 1 rfl rfl, Or.inl (wg_t 271 rfl rfl), by decide +kernel, by decide +kernel, by decide +kernel⟩, wg_t 272 rfl rfl, wg_t 273 rfl rfl⟩
set_option maxRecDepth 100000 in
theorem qv_L_27 : ew_CV qS qR_L qwg 27 qy_X_explore qc_X_explore 3 (some .int) qw_X_explore 1 := ⟨⟨⟨_, rfl⟩, wg_good _ (wg_t 278 rfl rfl), wg_t 1 rfl rfl, Or.inl (wg_t 275 rfl rfl), by decide +kernel, by decide +kernel, by decide +kernel⟩, wg_t 276 rfl rfl, wg_t 277 rfl rfl⟩
set_option maxRecDepth 100000 in
theorem qv_X_55 : ew_CV qS qR_X qwg 55 qy_E_forget qc_E_forget 1 (none) qw_E_forget 0 := ⟨⟨⟨_, rfl⟩, wg_good _ (wg_t 282 rfl rfl), wg_t 5 rfl rfl, Or.inl (wg_t 279 rfl rfl), by decide +kernel, by decide +kernel, by decide +kernel⟩, wg_t 280 rfl rfl, wg_t 281 rfl rfl⟩
set_option maxRecDepth 100000 in
theorem qv_E_39 : ew_CV qS qR_E qwg 39 qy_B_forget qc_B_forget 1 (none) qw_B_forget 0 := ⟨⟨⟨_, rfl⟩, wg_good _ (wg_t 286 rfl rfl), wg_t 6 rfl rfl, Or.inl (wg_t 283 rfl rfl), by decide +kernel, by decide +kernel, by decide +kernel⟩, wg_t 284 rfl rfl, wg_t 285 rfl rfl⟩
set_option maxRecDepth 100000 in
theorem qv_B_28 : ew_CV qS qR_B qwg 28 qy_Y_forget qc_Y_forget 1 (none) qw_Y_forget 0 := ⟨⟨⟨_, rfl⟩, wg_good _ (wg_t 290 rfl rfl), wg_t 7 rfl rfl, Or.inl (wg_t 287 rfl rfl), by decide +kernel, by decide +kernel, by decide +kernel⟩, wg_t 288 rfl rfl, wg_t 289 rfl rfl⟩
set_option maxRecDepth 100000 in
theorem qs_B_31 : ew_CS qS qR_B qwg 31 qy_A_fill qc_A_fill 4 (none) qw_A_fill 2 := ⟨⟨⟨_, rfl⟩, wg_good _ (wg_t 33 rfl rfl), wg_t 4 rfl rfl, Or.inl (wg_t 291 rfl rfl), by decide +kernel, by decide +kernel, by decide +kernel⟩, wg_t 32 rfl rfl⟩
set_option maxRecDepth 100000 in
theorem qv_E_42 : ew_CV qS qR_E qwg 42 qy_P_forget qc_P_forget 1 (none) qw_P_forget 0 := ⟨⟨⟨_, rfl⟩, wg_good _ (wg_t 295 rfl rfl), wg_t 8 rfl rfl, Or.inl (wg_t 292 rfl rfl), by decide +kernel, by decide +kernel, by decide +kernel⟩, wg_t 293 rfl rfl, wg_t 294 rfl rfl⟩
set_option maxRecDepth 100000 in
theorem qs_P_40 : ew_CS qS qR_P qwg 40 qy_A_fill qc_A_fill 4 (none) qw_A_fill 2 := ⟨⟨⟨_, rfl⟩, wg_good _ (wg_t 33 rfl rfl), wg_t 4 rfl rfl, Or.inl (wg_t 296 rfl rfl), by decide +kernel, by decide +kernel, by decide +kernel⟩, wg_t 32 rfl rfl⟩
set_option maxRecDepth 100000 in
theorem qv_E_43 : ew_CV qS qR_E qwg 43 qy_T_forget qc_T_forget 1 (none) qw_T_forget 0 := ⟨⟨⟨_, rfl⟩, wg_good _ (wg_t 300 rfl rfl), wg_t 9 rfl rfl, Or.inl (wg_t 297 rfl rfl), by decide +kernel, by decide +kernel, by decide +kernel⟩, wg_t 298 rfl rfl, wg_t 299 rfl rfl⟩
set_option maxRecDepth 100000 in
theorem qv_X_58 : ew_CV qS qR_X qwg 58 qy_X_firstState qc_X_firstState 1 (some .int) qw_X_firstState 0 := ⟨⟨⟨_, rfl⟩, wg_good _ (wg_t 304 rfl rfl), wg_t 1 rfl rfl, Or.inl (wg_t 301 rfl rfl), by decide +kernel, by decide +kernel, by decide +kernel⟩, wg_t 303 rfl rfl, wg_s 0 rfl⟩
set_option maxRecDepth 100000 in
theorem qv_X_62 : ew_CV qS qR_X qwg 62 qy_E_surveySingles qc_E_surveySingles 4 (some .boolean) qw_E_surveySingles 3 := ⟨⟨⟨_, rfl⟩, wg_good _ (wg_t 308 rfl rfl), wg_t 5 rfl rfl, Or.inl (wg_t 305 rfl rfl), by decide +kernel, by decide +kernel, by decide +kernel⟩, wg_t 306 rfl rfl, wg_t 307 rfl rfl⟩
set_option maxRecDepth 100000 in
theorem qv_E_44 : ew_CV qS qR_E qwg 44 qy_B_fill qc_B_fill 8 (some .boolean) qw_B_fill 4 := ⟨⟨⟨_, rfl⟩, wg_good _ (wg_t 312 rfl rfl), wg_t 6 rfl rfl, Or.inl (wg_t 309 rfl rfl), by decide +kernel, by decide +kernel, by decide +kernel⟩, wg_t 310 rfl rfl, wg_t 311 rfl rfl⟩
set_option maxRecDepth 100000 in
theorem qv_B_37 : ew_CV qS qR_B qwg 37 qy_K_transact qc_K_transact 6 (none) qw_K_transact 4 := ⟨⟨⟨_, rfl⟩, wg_good _ (wg_t 316 rfl rfl), wg_t 2 rfl rfl, Or.inl (wg_t 313 rfl rfl), by decide +kernel, by decide +kernel, by decide +kernel⟩, wg_t 314 rfl rfl, wg_t 315 rfl rfl⟩
set_option maxRecDepth 100000 in
theorem qv_K_60 : ew_CV qS qR_K qwg 60 qy_K_begin qc_K_begin 4 (none) qw_K_begin 3 := ⟨⟨⟨_, rfl⟩, wg_good _ (wg_t 320 rfl rfl), wg_t 2 rfl rfl, Or.inl (wg_t 317 rfl rfl), by decide +kernel, by decide +kernel, by decide +kernel⟩, wg_t 319 rfl rfl, wg_s 1 rfl⟩
set_option maxRecDepth 100000 in
theorem qs_K_81 : ew_CS qS qR_K qwg 81 qy_A_fill qc_A_fill 4 (none) qw_A_fill 2 := ⟨⟨⟨_, rfl⟩, wg_good _ (wg_t 33 rfl rfl), wg_t 4 rfl rfl, Or.inl (wg_t 321 rfl rfl), by decide +kernel, by decide +kernel, by decide +kernel⟩, wg_t 32 rfl rfl⟩
set_option maxRecDepth 100000 in
theorem qv_K_67 : ew_CV qS qR_K qwg 67 qy_K_keepStep qc_K_keepStep 2 (none) qw_K_keepStep 1 := ⟨⟨⟨_, rfl⟩, wg_good _ (wg_t 325 rfl rfl), wg_t 2 rfl rfl, Or.inl (wg_t 322 rfl rfl), by decide +kernel, by decide +kernel, by decide +kernel⟩, wg_t 324 rfl rfl, wg_s 2 rfl⟩
set_option maxRecDepth 100000 in
theorem qv_K_77 : ew_CV qS qR_K qwg 77 qy_K_perform qc_K_perform 6 (none) qw_K_perform 2 := ⟨⟨⟨_, rfl⟩, wg_good _ (wg_t 329 rfl rfl), wg_t 2 rfl rfl, Or.inl (wg_t 326 rfl rfl), by decide +kernel, by decide +kernel, by decide +kernel⟩, wg_t 328 rfl rfl, wg_s 3 rfl⟩
set_option maxRecDepth 100000 in
theorem qv_K_87 : ew_CV qS qR_K qwg 87 qy_K_faultOf qc_K_faultOf 4 (some .int) qw_K_faultOf 2 := ⟨⟨⟨_, rfl⟩, wg_good _ (wg_t 333 rfl rfl), wg_t 2 rfl rfl, Or.inl (wg_t 330 rfl rfl), by decide +kernel, by decide +kernel, by decide +kernel⟩, wg_t 332 rfl rfl, wg_s 4 rfl⟩
set_option maxRecDepth 100000 in
theorem qf_K_104 : Cond.fieldLink qR_K 104 "ContractProbe" "TAKES" "[I" ∈ qwg ∨ ∃ host, Cond.fieldLinkNest qR_K 104 "ContractProbe" "TAKES" "[I" host ∈ qS.2.2.2.1 := Or.inr ⟨"ContractProbe", wg_n 334 rfl rfl⟩
set_option maxRecDepth 100000 in
theorem qf_K_101 : Cond.fieldLink qR_K 101 "ContractProbe" "COSTS" "[I" ∈ qwg ∨ ∃ host, Cond.fieldLinkNest qR_K 101 "ContractProbe" "COSTS" "[I" host ∈ qS.2.2.2.1 := Or.inr ⟨"ContractProbe", wg_n 336 rfl rfl⟩
set_option maxRecDepth 100000 in
theorem qf_K_107 : Cond.fieldLink qR_K 107 "ContractProbe" "PUTS" "[I" ∈ qwg ∨ ∃ host, Cond.fieldLinkNest qR_K 107 "ContractProbe" "PUTS" "[I" host ∈ qS.2.2.2.1 := Or.inr ⟨"ContractProbe", wg_n 338 rfl rfl⟩
set_option maxRecDepth 100000 in
theorem qv_K_94 : ew_CV qS qR_K qwg 94 qy_K_wordUnder qc_K_wordUnder 2 (some .int) qw_K_wordUnder 1 := ⟨⟨⟨_, rfl⟩, wg_good _ (wg_t 343 rfl rfl), wg_t 2 rfl rfl, Or.inl (wg_t 340 rfl rfl), by decide +kernel, by decide +kernel, by decide +kernel⟩, wg_t 342 rfl rfl, wg_s 5 rfl⟩
set_option maxRecDepth 100000 in
theorem qv_K_91 : ew_CV qS qR_K qwg 91 qy_K_note qc_K_note 2 (none) qw_K_note 1 := ⟨⟨⟨_, rfl⟩, wg_good _ (wg_t 347 rfl rfl), wg_t 2 rfl rfl, Or.inl (wg_t 344 rfl rfl), by decide +kernel, by decide +kernel, by decide +kernel⟩, wg_t 346 rfl rfl, wg_s 6 rfl⟩
set_option maxRecDepth 100000 in
theorem qv_K_98 : ew_CV qS qR_K qwg 98 qy_K_look qc_K_look 5 (none) qw_K_look 3 := ⟨⟨⟨_, rfl⟩, wg_good _ (wg_t 351 rfl rfl), wg_t 2 rfl rfl, Or.inl (wg_t 348 rfl rfl), by decide +kernel, by decide +kernel, by decide +kernel⟩, wg_t 350 rfl rfl, wg_s 7 rfl⟩
set_option maxRecDepth 100000 in
theorem qv_K_110 : ew_CV qS qR_K qwg 110 qy_K_wordPut qc_K_wordPut 5 (some .int) qw_K_wordPut 4 := ⟨⟨⟨_, rfl⟩, wg_good _ (wg_t 355 rfl rfl), wg_t 2 rfl rfl, Or.inl (wg_t 352 rfl rfl), by decide +kernel, by decide +kernel, by decide +kernel⟩, wg_t 354 rfl rfl, wg_s 8 rfl⟩
set_option maxRecDepth 100000 in
theorem qs_K_121 : ew_CS qS qR_K qwg 121 qy_X_wordOf qc_X_wordOf 2 (some .int) qw_X_wordOf 2 := ⟨⟨⟨_, rfl⟩, wg_good _ (wg_t 358 rfl rfl), wg_t 1 rfl rfl, Or.inr ⟨"ContractProbe", wg_n 356 rfl rfl⟩, by decide +kernel, by decide +kernel, by decide +kernel⟩, wg_t 357 rfl rfl⟩
set_option maxRecDepth 100000 in
theorem qv_K_124 : ew_CV qS qR_K qwg 124 qy_K_send qc_K_send 2 (some .int) qw_K_send 1 := ⟨⟨⟨_, rfl⟩, wg_good _ (wg_t 362 rfl rfl), wg_t 2 rfl rfl, Or.inl (wg_t 359 rfl rfl), by decide +kernel, by decide +kernel, by decide +kernel⟩, wg_t 361 rfl rfl, wg_s 9 rfl⟩
set_option maxRecDepth 100000 in
theorem qv_K_114 : ew_CV qS qR_K qwg 114 qy_K_act qc_K_act 5 (none) qw_K_act 4 := ⟨⟨⟨_, rfl⟩, wg_good _ (wg_t 366 rfl rfl), wg_t 2 rfl rfl, Or.inl (wg_t 363 rfl rfl), by decide +kernel, by decide +kernel, by decide +kernel⟩, wg_t 365 rfl rfl, wg_s 10 rfl⟩
set_option maxRecDepth 100000 in
theorem qv_K_127 : ew_CV qS qR_K qwg 127 qy_K_swap qc_K_swap 4 (none) qw_K_swap 2 := ⟨⟨⟨_, rfl⟩, wg_good _ (wg_t 370 rfl rfl), wg_t 2 rfl rfl, Or.inl (wg_t 367 rfl rfl), by decide +kernel, by decide +kernel, by decide +kernel⟩, wg_t 369 rfl rfl, wg_s 11 rfl⟩
set_option maxRecDepth 100000 in
theorem qs_K_130 : ew_CS qS qR_K qwg 130 qy_X_withWord qc_X_withWord 3 (some .int) qw_X_withWord 3 := ⟨⟨⟨_, rfl⟩, wg_good _ (wg_t 373 rfl rfl), wg_t 1 rfl rfl, Or.inr ⟨"ContractProbe", wg_n 371 rfl rfl⟩, by decide +kernel, by decide +kernel, by decide +kernel⟩, wg_t 372 rfl rfl⟩
set_option maxRecDepth 100000 in
theorem qv_B_43 : ew_CV qS qR_B qwg 43 qy_Y_numberOf qc_Y_numberOf 3 (some .int) qw_Y_numberOf 1 := ⟨⟨⟨_, rfl⟩, wg_good _ (wg_t 377 rfl rfl), wg_t 7 rfl rfl, Or.inl (wg_t 374 rfl rfl), by decide +kernel, by decide +kernel, by decide +kernel⟩, wg_t 375 rfl rfl, wg_t 376 rfl rfl⟩
set_option maxRecDepth 100000 in
theorem qv_Y_28 : ew_CV qS qR_Y qwg 28 qy_Y_isWayOf qc_Y_isWayOf 5 (some .boolean) qw_Y_isWayOf 2 := ⟨⟨⟨_, rfl⟩, wg_good _ (wg_t 381 rfl rfl), wg_t 7 rfl rfl, Or.inl (wg_t 378 rfl rfl), by decide +kernel, by decide +kernel, by decide +kernel⟩, wg_t 380 rfl rfl, wg_s 12 rfl⟩
set_option maxRecDepth 100000 in
theorem qv_Y_32 : ew_CV qS qR_Y qwg 32 qy_Y_keep qc_Y_keep 5 (none) qw_Y_keep 2 := ⟨⟨⟨_, rfl⟩, wg_good _ (wg_t 385 rfl rfl), wg_t 7 rfl rfl, Or.inl (wg_t 382 rfl rfl), by decide +kernel, by decide +kernel, by decide +kernel⟩, wg_t 384 rfl rfl, wg_s 13 rfl⟩
set_option maxRecDepth 100000 in
theorem qv_E_48 : ew_CV qS qR_E qwg 48 qy_E_countFollowers qc_E_countFollowers 7 (some .boolean) qw_E_countFollowers 1 := ⟨⟨⟨_, rfl⟩, wg_good _ (wg_t 389 rfl rfl), wg_t 5 rfl rfl, Or.inl (wg_t 386 rfl rfl), by decide +kernel, by decide +kernel, by decide +kernel⟩, wg_t 388 rfl rfl, wg_s 14 rfl⟩
set_option maxRecDepth 100000 in
theorem qv_E_89 : ew_CV qS qR_E qwg 89 qy_P_meet qc_P_meet 6 (some .int) qw_P_meet 4 := ⟨⟨⟨_, rfl⟩, wg_good _ (wg_t 393 rfl rfl), wg_t 8 rfl rfl, Or.inl (wg_t 390 rfl rfl), by decide +kernel, by decide +kernel, by decide +kernel⟩, wg_t 391 rfl rfl, wg_t 392 rfl rfl⟩
set_option maxRecDepth 100000 in
theorem qv_P_50 : ew_CV qS qR_P qwg 50 qy_P_open qc_P_open 6 (some .int) qw_P_open 4 := ⟨⟨⟨_, rfl⟩, wg_good _ (wg_t 397 rfl rfl), wg_t 8 rfl rfl, Or.inl (wg_t 394 rfl rfl), by decide +kernel, by decide +kernel, by decide +kernel⟩, wg_t 396 rfl rfl, wg_s 15 rfl⟩
set_option maxRecDepth 100000 in
theorem qv_E_96 : ew_CV qS qR_E qwg 96 qy_T_note qc_T_note 8 (none) qw_T_note 4 := ⟨⟨⟨_, rfl⟩, wg_good _ (wg_t 401 rfl rfl), wg_t 9 rfl rfl, Or.inl (wg_t 398 rfl rfl), by decide +kernel, by decide +kernel, by decide +kernel⟩, wg_t 399 rfl rfl, wg_t 400 rfl rfl⟩
set_option maxRecDepth 100000 in
theorem qv_X_66 : ew_CV qS qR_X qwg 66 qy_E_surveyPairs qc_E_surveyPairs 5 (some .boolean) qw_E_surveyPairs 3 := ⟨⟨⟨_, rfl⟩, wg_good _ (wg_t 405 rfl rfl), wg_t 5 rfl rfl, Or.inl (wg_t 402 rfl rfl), by decide +kernel, by decide +kernel, by decide +kernel⟩, wg_t 403 rfl rfl, wg_t 404 rfl rfl⟩
set_option maxRecDepth 100000 in
theorem qv_E_52 : ew_CV qS qR_E qwg 52 qy_B_isFollowedLikeAnEarlierOne qc_B_isFollowedLikeAnEarlierOne 3 (some .boolean) qw_B_isFollowedLikeAnEarlierOne 1 := ⟨⟨⟨_, rfl⟩, wg_good _ (wg_t 409 rfl rfl), wg_t 6 rfl rfl, Or.inl (wg_t 406 rfl rfl), by decide +kernel, by decide +kernel, by decide +kernel⟩, wg_t 407 rfl rfl, wg_t 408 rfl rfl⟩
set_option maxRecDepth 100000 in
theorem qv_B_59 : ew_CV qS qR_B qwg 59 qy_B_areFollowedAlike qc_B_areFollowedAlike 3 (some .boolean) qw_B_areFollowedAlike 2 := ⟨⟨⟨_, rfl⟩, wg_good _ (wg_t 413 rfl rfl), wg_t 6 rfl rfl, Or.inl (wg_t 410 rfl rfl), by decide +kernel, by decide +kernel, by decide +kernel⟩, wg_t 411 rfl rfl, wg_t 412 rfl rfl⟩
set_option maxRecDepth 100000 in
theorem qv_B_55 : ew_CV qS qR_B qwg 55 qy_B_isDestroyed qc_B_isDestroyed 2 (some .boolean) qw_B_isDestroyed 1 := ⟨⟨⟨_, rfl⟩, wg_good _ (wg_t 417 rfl rfl), wg_t 6 rfl rfl, Or.inl (wg_t 414 rfl rfl), by decide +kernel, by decide +kernel, by decide +kernel⟩, wg_t 415 rfl rfl, wg_t 416 rfl rfl⟩
set_option maxRecDepth 100000 in
theorem qv_E_59 : ew_CV qS qR_E qwg 59 qy_B_isDestroyed qc_B_isDestroyed 2 (some .boolean) qw_B_isDestroyed 1 := ⟨⟨⟨_, rfl⟩, wg_good _ (wg_t 417 rfl rfl), wg_t 6 rfl rfl, Or.inl (wg_t 418 rfl rfl), by decide +kernel, by decide +kernel, by decide +kernel⟩, wg_t 415 rfl rfl, wg_t 416 rfl rfl⟩
set_option maxRecDepth 100000 in
theorem qv_E_62 : ew_CV qS qR_E qwg 62 qy_E_countFollowersOfAllAlike qc_E_countFollowersOfAllAlike 3 (some .boolean) qw_E_countFollowersOfAllAlike 1 := ⟨⟨⟨_, rfl⟩, wg_good _ (wg_t 422 rfl rfl), wg_t 5 rfl rfl, Or.inl (wg_t 419 rfl rfl), by decide +kernel, by decide +kernel, by decide +kernel⟩, wg_t 421 rfl rfl, wg_s 16 rfl⟩
set_option maxRecDepth 100000 in
theorem qv_E_82 : ew_CV qS qR_E qwg 82 qy_B_areFollowedAlike qc_B_areFollowedAlike 3 (some .boolean) qw_B_areFollowedAlike 2 := ⟨⟨⟨_, rfl⟩, wg_good _ (wg_t 413 rfl rfl), wg_t 6 rfl rfl, Or.inl (wg_t 423 rfl rfl), by decide +kernel, by decide +kernel, by decide +kernel⟩, wg_t 411 rfl rfl, wg_t 412 rfl rfl⟩
set_option maxRecDepth 100000 in
theorem qv_X_69 : ew_CV qS qR_X qwg 69 qy_E_conclude qc_E_conclude 2 (some .int) qw_E_conclude 1 := ⟨⟨⟨_, rfl⟩, wg_good _ (wg_t 427 rfl rfl), wg_t 5 rfl rfl, Or.inl (wg_t 424 rfl rfl), by decide +kernel, by decide +kernel, by decide +kernel⟩, wg_t 425 rfl rfl, wg_t 426 rfl rfl⟩
set_option maxRecDepth 100000 in
theorem qv_E_65 : ew_CV qS qR_E qwg 65 qy_E_forget qc_E_forget 1 (none) qw_E_forget 0 := ⟨⟨⟨_, rfl⟩, wg_good _ (wg_t 282 rfl rfl), wg_t 5 rfl rfl, Or.inl (wg_t 428 rfl rfl), by decide +kernel, by decide +kernel, by decide +kernel⟩, wg_t 280 rfl rfl, wg_t 281 rfl rfl⟩
set_option maxRecDepth 100000 in
theorem qv_E_66 : ew_CV qS qR_E qwg 66 qy_P_putInOrder qc_P_putInOrder 4 (none) qw_P_putInOrder 0 := ⟨⟨⟨_, rfl⟩, wg_good _ (wg_t 432 rfl rfl), wg_t 8 rfl rfl, Or.inl (wg_t 429 rfl rfl), by decide +kernel, by decide +kernel, by decide +kernel⟩, wg_t 430 rfl rfl, wg_t 431 rfl rfl⟩
set_option maxRecDepth 100000 in
theorem qv_L_32 : ew_CV qS qR_L qwg 32 qy_X_inputs qc_X_inputs 3 (some .int) qw_X_inputs 1 := ⟨⟨⟨_, rfl⟩, wg_good _ (wg_t 436 rfl rfl), wg_t 1 rfl rfl, Or.inl (wg_t 433 rfl rfl), by decide +kernel, by decide +kernel, by decide +kernel⟩, wg_t 434 rfl rfl, wg_t 435 rfl rfl⟩
set_option maxRecDepth 100000 in
theorem qv_X_77 : ew_CV qS qR_X qwg 77 qy_P_rowOf qc_P_rowOf 2 (some .int) qw_P_rowOf 1 := ⟨⟨⟨_, rfl⟩, wg_good _ (wg_t 440 rfl rfl), wg_t 8 rfl rfl, Or.inl (wg_t 437 rfl rfl), by decide +kernel, by decide +kernel, by decide +kernel⟩, wg_t 438 rfl rfl, wg_t 439 rfl rfl⟩
set_option maxRecDepth 100000 in
theorem qs_P_46 : ew_CS qS qR_P qwg 46 qy_X_isBelow qc_X_isBelow 2 (some .boolean) qw_X_isBelow 2 := ⟨⟨⟨_, rfl⟩, wg_good _ (wg_t 258 rfl rfl), wg_t 1 rfl rfl, Or.inr ⟨"ContractProbe", wg_n 441 rfl rfl⟩, by decide +kernel, by decide +kernel, by decide +kernel⟩, wg_t 257 rfl rfl⟩
set_option maxRecDepth 100000 in
theorem qv_L_36 : ew_CV qS qR_L qwg 36 qy_X_witness qc_X_witness 3 (some .int) qw_X_witness 1 := ⟨⟨⟨_, rfl⟩, wg_good _ (wg_t 445 rfl rfl), wg_t 1 rfl rfl, Or.inl (wg_t 442 rfl rfl), by decide +kernel, by decide +kernel, by decide +kernel⟩, wg_t 443 rfl rfl, wg_t 444 rfl rfl⟩
set_option maxRecDepth 100000 in
theorem qv_L_40 : ew_CV qS qR_L qwg 40 qy_X_end qc_X_end 4 (some .int) qw_X_end 2 := ⟨⟨⟨_, rfl⟩, wg_good _ (wg_t 449 rfl rfl), wg_t 1 rfl rfl, Or.inl (wg_t 446 rfl rfl), by decide +kernel, by decide +kernel, by decide +kernel⟩, wg_t 447 rfl rfl, wg_t 448 rfl rfl⟩
set_option maxRecDepth 100000 in
theorem qv_X_92 : ew_CV qS qR_X qwg 92 qy_E_waysOf qc_E_waysOf 2 (some (.object "ContractProbe$Ways")) qw_E_waysOf 1 := ⟨⟨⟨_, rfl⟩, wg_good _ (wg_t 453 rfl rfl), wg_t 5 rfl rfl, Or.inl (wg_t 450 rfl rfl), by decide +kernel, by decide +kernel, by decide +kernel⟩, wg_t 451 rfl rfl, wg_t 452 rfl rfl⟩
set_option maxRecDepth 100000 in
theorem qv_X_101 : ew_CV qS qR_X qwg 101 qy_E_wayOn qc_E_wayOn 3 (some .int) qw_E_wayOn 2 := ⟨⟨⟨_, rfl⟩, wg_good _ (wg_t 457 rfl rfl), wg_t 5 rfl rfl, Or.inl (wg_t 454 rfl rfl), by decide +kernel, by decide +kernel, by decide +kernel⟩, wg_t 455 rfl rfl, wg_t 456 rfl rfl⟩
set_option maxRecDepth 100000 in
theorem qv_L_44 : ew_CV qS qR_L qwg 44 qy_X_step qc_X_step 5 (some .int) qw_X_step 3 := ⟨⟨⟨_, rfl⟩, wg_good _ (wg_t 461 rfl rfl), wg_t 1 rfl rfl, Or.inl (wg_t 458 rfl rfl), by decide +kernel, by decide +kernel, by decide +kernel⟩, wg_t 459 rfl rfl, wg_t 460 rfl rfl⟩
set_option maxRecDepth 100000 in
theorem qv_X_104 : ew_CV qS qR_X qwg 104 qy_Y_stepOf qc_Y_stepOf 3 (some .int) qw_Y_stepOf 2 := ⟨⟨⟨_, rfl⟩, wg_good _ (wg_t 465 rfl rfl), wg_t 7 rfl rfl, Or.inl (wg_t 462 rfl rfl), by decide +kernel, by decide +kernel, by decide +kernel⟩, wg_t 463 rfl rfl, wg_t 464 rfl rfl⟩
set_option maxRecDepth 100000 in
theorem qs_Y_36 : ew_CS qS qR_Y qwg 36 qy_X_isBelow qc_X_isBelow 2 (some .boolean) qw_X_isBelow 2 := ⟨⟨⟨_, rfl⟩, wg_good _ (wg_t 258 rfl rfl), wg_t 1 rfl rfl, Or.inr ⟨"ContractProbe", wg_n 466 rfl rfl⟩, by decide +kernel, by decide +kernel, by decide +kernel⟩, wg_t 257 rfl rfl⟩
set_option maxRecDepth 100000 in
theorem qv_L_49 : ew_CV qS qR_L qwg 49 qy_X_left qc_X_left 6 (some .int) qw_X_left 2 := ⟨⟨⟨_, rfl⟩, wg_good _ (wg_t 470 rfl rfl), wg_t 1 rfl rfl, Or.inl (wg_t 467 rfl rfl), by decide +kernel, by decide +kernel, by decide +kernel⟩, wg_t 468 rfl rfl, wg_t 469 rfl rfl⟩
set_option maxRecDepth 100000 in
theorem qs_X_110 : ew_CS qS qR_X qwg 110 qy_X_wordOf qc_X_wordOf 2 (some .int) qw_X_wordOf 2 := ⟨⟨⟨_, rfl⟩, wg_good _ (wg_t 358 rfl rfl), wg_t 1 rfl rfl, Or.inl (wg_t 471 rfl rfl), by decide +kernel, by decide +kernel, by decide +kernel⟩, wg_t 357 rfl rfl⟩
set_option maxRecDepth 100000 in
theorem qv_L_53 : ew_CV qS qR_L qwg 53 qy_X_finding qc_X_finding 3 (some .int) qw_X_finding 2 := ⟨⟨⟨_, rfl⟩, wg_good _ (wg_t 475 rfl rfl), wg_t 1 rfl rfl, Or.inl (wg_t 472 rfl rfl), by decide +kernel, by decide +kernel, by decide +kernel⟩, wg_t 473 rfl rfl, wg_t 474 rfl rfl⟩
set_option maxRecDepth 100000 in
theorem qv_X_120 : ew_CV qS qR_X qwg 120 qy_T_leastOf qc_T_leastOf 3 (some .int) qw_T_leastOf 2 := ⟨⟨⟨_, rfl⟩, wg_good _ (wg_t 479 rfl rfl), wg_t 9 rfl rfl, Or.inl (wg_t 476 rfl rfl), by decide +kernel, by decide +kernel, by decide +kernel⟩, wg_t 477 rfl rfl, wg_t 478 rfl rfl⟩
set_option maxRecDepth 100000 in
theorem qv_L_57 : ew_CV qS qR_L qwg 57 qy_X_risk qc_X_risk 5 (some .int) qw_X_risk 3 := ⟨⟨⟨_, rfl⟩, wg_good _ (wg_t 483 rfl rfl), wg_t 1 rfl rfl, Or.inl (wg_t 480 rfl rfl), by decide +kernel, by decide +kernel, by decide +kernel⟩, wg_t 481 rfl rfl, wg_t 482 rfl rfl⟩
set_option maxRecDepth 100000 in
theorem qv_X_125 : ew_CV qS qR_X qwg 125 qy_T_countOf qc_T_countOf 4 (some .int) qw_T_countOf 3 := ⟨⟨⟨_, rfl⟩, wg_good _ (wg_t 487 rfl rfl), wg_t 9 rfl rfl, Or.inl (wg_t 484 rfl rfl), by decide +kernel, by decide +kernel, by decide +kernel⟩, wg_t 485 rfl rfl, wg_t 486 rfl rfl⟩
set_option maxRecDepth 100000 in
theorem qv_L_61 : ew_CV qS qR_L qwg 61 qy_X_replay qc_X_replay 5 (some .int) qw_X_replay 2 := ⟨⟨⟨_, rfl⟩, wg_good _ (wg_t 491 rfl rfl), wg_t 1 rfl rfl, Or.inl (wg_t 488 rfl rfl), by decide +kernel, by decide +kernel, by decide +kernel⟩, wg_t 489 rfl rfl, wg_t 490 rfl rfl⟩
set_option maxRecDepth 100000 in
theorem qv_X_129 : ew_CV qS qR_X qwg 129 qy_K_transact qc_K_transact 6 (none) qw_K_transact 4 := ⟨⟨⟨_, rfl⟩, wg_good _ (wg_t 316 rfl rfl), wg_t 2 rfl rfl, Or.inl (wg_t 492 rfl rfl), by decide +kernel, by decide +kernel, by decide +kernel⟩, wg_t 314 rfl rfl, wg_t 315 rfl rfl⟩
set_option maxRecDepth 100000 in
theorem qv_X_139 : ew_CV qS qR_X qwg 139 qy_X_keepReplay qc_X_keepReplay 2 (none) qw_X_keepReplay 0 := ⟨⟨⟨_, rfl⟩, wg_good _ (wg_t 496 rfl rfl), wg_t 1 rfl rfl, Or.inl (wg_t 493 rfl rfl), by decide +kernel, by decide +kernel, by decide +kernel⟩, wg_t 495 rfl rfl, wg_s 17 rfl⟩
set_option maxRecDepth 100000 in
theorem qv_L_65 : ew_CV qS qR_L qwg 65 qy_X_replayed qc_X_replayed 2 (some .int) qw_X_replayed 1 := ⟨⟨⟨_, rfl⟩, wg_good _ (wg_t 500 rfl rfl), wg_t 1 rfl rfl, Or.inl (wg_t 497 rfl rfl), by decide +kernel, by decide +kernel, by decide +kernel⟩, wg_t 498 rfl rfl, wg_t 499 rfl rfl⟩
set_option maxRecDepth 100000 in
theorem qf_M_72 : ew_F qS qR_M qwg 72 8 0 := ⟨qR_M, qT_M, 32, qt_M, rfl, by decide, qu_M, Or.inl (wg_t 507 rfl rfl), qk_M, qn_M⟩
set_option maxRecDepth 100000 in
theorem qf_M_7 : ew_F qS qR_M qwg 7 8 1 := ⟨qR_M, qT_M, 32, qt_M, rfl, by decide, qu_M, Or.inl (wg_t 508 rfl rfl), qk_M, qn_M⟩
set_option maxRecDepth 100000 in
theorem qf_M_13 : ew_F qS qR_M qwg 13 8 2 := ⟨qR_M, qT_M, 32, qt_M, rfl, by decide, qu_M, Or.inl (wg_t 509 rfl rfl), qk_M, qn_M⟩
set_option maxRecDepth 100000 in
theorem qf_M_75 : ew_F qS qR_M qwg 75 8 3 := ⟨qR_M, qT_M, 32, qt_M, rfl, by decide, qu_M, Or.inl (wg_t 510 rfl rfl), qk_M, qn_M⟩
set_option maxRecDepth 100000 in
theorem qf_M_16 : ew_F qS qR_M qwg 16 8 4 := ⟨qR_M, qT_M, 32, qt_M, rfl, by decide, qu_M, Or.inl (wg_t 511 rfl rfl), qk_M, qn_M⟩
set_option maxRecDepth 100000 in
theorem qf_M_20 : ew_F qS qR_M qwg 20 8 5 := ⟨qR_M, qT_M, 32, qt_M, rfl, by decide, qu_M, Or.inl (wg_t 512 rfl rfl), qk_M, qn_M⟩
set_option maxRecDepth 100000 in
theorem qf_M_23 : ew_F qS qR_M qwg 23 8 6 := ⟨qR_M, qT_M, 32, qt_M, rfl, by decide, qu_M, Or.inl (wg_t 513 rfl rfl), qk_M, qn_M⟩
set_option maxRecDepth 100000 in
theorem qf_M_26 : ew_F qS qR_M qwg 26 8 7 := ⟨qR_M, qT_M, 32, qt_M, rfl, by decide, qu_M, Or.inl (wg_t 514 rfl rfl), qk_M, qn_M⟩
set_option maxRecDepth 100000 in
theorem qf_M_88 : ew_F qS qR_M qwg 88 8 8 := ⟨qR_M, qT_M, 32, qt_M, rfl, by decide, qu_M, Or.inl (wg_t 515 rfl rfl), qk_M, qn_M⟩
set_option maxRecDepth 100000 in
theorem qf_M_81 : ew_F qS qR_M qwg 81 8 9 := ⟨qR_M, qT_M, 32, qt_M, rfl, by decide, qu_M, Or.inl (wg_t 516 rfl rfl), qk_M, qn_M⟩
set_option maxRecDepth 100000 in
theorem qf_M_78 : ew_F qS qR_M qwg 78 8 10 := ⟨qR_M, qT_M, 32, qt_M, rfl, by decide, qu_M, Or.inl (wg_t 517 rfl rfl), qk_M, qn_M⟩
set_option maxRecDepth 100000 in
theorem qf_M_115 : ew_F qS qR_M qwg 115 8 11 := ⟨qR_M, qT_M, 32, qt_M, rfl, by decide, qu_M, Or.inl (wg_t 518 rfl rfl), qk_M, qn_M⟩
set_option maxRecDepth 100000 in
theorem qf_M_118 : ew_F qS qR_M qwg 118 8 12 := ⟨qR_M, qT_M, 32, qt_M, rfl, by decide, qu_M, Or.inl (wg_t 519 rfl rfl), qk_M, qn_M⟩
set_option maxRecDepth 100000 in
theorem qf_M_124 : ew_F qS qR_M qwg 124 8 13 := ⟨qR_M, qT_M, 32, qt_M, rfl, by decide, qu_M, Or.inl (wg_t 520 rfl rfl), qk_M, qn_M⟩
set_option maxRecDepth 100000 in
theorem qf_M_108 : ew_F qS qR_M qwg 108 8 14 := ⟨qR_M, qT_M, 32, qt_M, rfl, by decide, qu_M, Or.inl (wg_t 521 rfl rfl), qk_M, qn_M⟩
set_option maxRecDepth 100000 in
theorem qf_M_29 : ew_F qS qR_M qwg 29 8 15 := ⟨qR_M, qT_M, 32, qt_M, rfl, by decide, qu_M, Or.inl (wg_t 522 rfl rfl), qk_M, qn_M⟩
set_option maxRecDepth 100000 in
theorem qf_M_32 : ew_F qS qR_M qwg 32 8 16 := ⟨qR_M, qT_M, 32, qt_M, rfl, by decide, qu_M, Or.inl (wg_t 523 rfl rfl), qk_M, qn_M⟩
set_option maxRecDepth 100000 in
theorem qf_M_35 : ew_F qS qR_M qwg 35 8 17 := ⟨qR_M, qT_M, 32, qt_M, rfl, by decide, qu_M, Or.inl (wg_t 524 rfl rfl), qk_M, qn_M⟩
set_option maxRecDepth 100000 in
theorem qf_M_38 : ew_F qS qR_M qwg 38 8 18 := ⟨qR_M, qT_M, 32, qt_M, rfl, by decide, qu_M, Or.inl (wg_t 525 rfl rfl), qk_M, qn_M⟩
set_option maxRecDepth 100000 in
theorem qf_M_145 : ew_F qS qR_M qwg 145 8 19 := ⟨qR_M, qT_M, 32, qt_M, rfl, by decide, qu_M, Or.inl (wg_t 526 rfl rfl), qk_M, qn_M⟩
set_option maxRecDepth 100000 in
theorem qf_M_148 : ew_F qS qR_M qwg 148 8 20 := ⟨qR_M, qT_M, 32, qt_M, rfl, by decide, qu_M, Or.inl (wg_t 527 rfl rfl), qk_M, qn_M⟩
set_option maxRecDepth 100000 in
theorem qf_M_41 : ew_F qS qR_M qwg 41 8 21 := ⟨qR_M, qT_M, 32, qt_M, rfl, by decide, qu_M, Or.inl (wg_t 528 rfl rfl), qk_M, qn_M⟩
set_option maxRecDepth 100000 in
theorem qf_M_44 : ew_F qS qR_M qwg 44 8 22 := ⟨qR_M, qT_M, 32, qt_M, rfl, by decide, qu_M, Or.inl (wg_t 529 rfl rfl), qk_M, qn_M⟩
set_option maxRecDepth 100000 in
theorem qf_M_47 : ew_F qS qR_M qwg 47 8 23 := ⟨qR_M, qT_M, 32, qt_M, rfl, by decide, qu_M, Or.inl (wg_t 530 rfl rfl), qk_M, qn_M⟩
set_option maxRecDepth 100000 in
theorem qf_M_50 : ew_F qS qR_M qwg 50 8 24 := ⟨qR_M, qT_M, 32, qt_M, rfl, by decide, qu_M, Or.inl (wg_t 531 rfl rfl), qk_M, qn_M⟩
set_option maxRecDepth 100000 in
theorem qf_M_53 : ew_F qS qR_M qwg 53 8 25 := ⟨qR_M, qT_M, 32, qt_M, rfl, by decide, qu_M, Or.inl (wg_t 532 rfl rfl), qk_M, qn_M⟩
set_option maxRecDepth 100000 in
theorem qf_M_56 : ew_F qS qR_M qwg 56 8 26 := ⟨qR_M, qT_M, 32, qt_M, rfl, by decide, qu_M, Or.inl (wg_t 533 rfl rfl), qk_M, qn_M⟩
set_option maxRecDepth 100000 in
theorem qf_M_59 : ew_F qS qR_M qwg 59 8 27 := ⟨qR_M, qT_M, 32, qt_M, rfl, by decide, qu_M, Or.inl (wg_t 534 rfl rfl), qk_M, qn_M⟩
set_option maxRecDepth 100000 in
theorem qf_M_63 : ew_F qS qR_M qwg 63 8 28 := ⟨qR_M, qT_M, 32, qt_M, rfl, by decide, qu_M, Or.inl (wg_t 535 rfl rfl), qk_M, qn_M⟩
set_option maxRecDepth 100000 in
theorem qf_M_66 : ew_F qS qR_M qwg 66 8 29 := ⟨qR_M, qT_M, 32, qt_M, rfl, by decide, qu_M, Or.inl (wg_t 536 rfl rfl), qk_M, qn_M⟩
set_option maxRecDepth 100000 in
theorem qf_M_166 : ew_F qS qR_M qwg 166 8 30 := ⟨qR_M, qT_M, 32, qt_M, rfl, by decide, qu_M, Or.inl (wg_t 537 rfl rfl), qk_M, qn_M⟩
set_option maxRecDepth 100000 in
theorem qf_M_69 : ew_F qS qR_M qwg 69 8 31 := ⟨qR_M, qT_M, 32, qt_M, rfl, by decide, qu_M, Or.inl (wg_t 538 rfl rfl), qk_M, qn_M⟩
set_option maxRecDepth 100000 in
theorem qv_L_17 : ew_CV qS qR_L qwg 17 qy_M_add qc_M_add 3 (some .int) qw_M_add 2 := ⟨⟨⟨_, rfl⟩, wg_good _ (wg_t 608 rfl rfl), wg_t 10 rfl rfl, Or.inl (wg_t 605 rfl rfl), by decide +kernel, by decide +kernel, by decide +kernel⟩, wg_t 606 rfl rfl, wg_t 607 rfl rfl⟩
set_option maxRecDepth 100000 in
theorem qv_L_21 : ew_CV qS qR_L qwg 21 qy_M_clear qc_M_clear 1 (none) qw_M_clear 0 := ⟨⟨⟨_, rfl⟩, wg_good _ (wg_t 612 rfl rfl), wg_t 10 rfl rfl, Or.inl (wg_t 609 rfl rfl), by decide +kernel, by decide +kernel, by decide +kernel⟩, wg_t 610 rfl rfl, wg_t 611 rfl rfl⟩
set_option maxRecDepth 100000 in
theorem qv_L_26 : ew_CV qS qR_L qwg 26 qy_M_start qc_M_start 3 (some .boolean) qw_M_start 2 := ⟨⟨⟨_, rfl⟩, wg_good _ (wg_t 616 rfl rfl), wg_t 10 rfl rfl, Or.inl (wg_t 613 rfl rfl), by decide +kernel, by decide +kernel, by decide +kernel⟩, wg_t 614 rfl rfl, wg_t 615 rfl rfl⟩
set_option maxRecDepth 100000 in
theorem qv_L_31 : ew_CV qS qR_L qwg 31 qy_M_explore qc_M_explore 5 (some .int) qw_M_explore 1 := ⟨⟨⟨_, rfl⟩, wg_good _ (wg_t 620 rfl rfl), wg_t 10 rfl rfl, Or.inl (wg_t 617 rfl rfl), by decide +kernel, by decide +kernel, by decide +kernel⟩, wg_t 618 rfl rfl, wg_t 619 rfl rfl⟩
set_option maxRecDepth 100000 in
theorem qv_M_151 : ew_CV qS qR_M qwg 151 qy_M_perform qc_M_perform 4 (none) qw_M_perform 2 := ⟨⟨⟨_, rfl⟩, wg_good _ (wg_t 624 rfl rfl), wg_t 10 rfl rfl, Or.inl (wg_t 621 rfl rfl), by decide +kernel, by decide +kernel, by decide +kernel⟩, wg_t 623 rfl rfl, wg_s 18 rfl⟩
set_option maxRecDepth 100000 in
theorem qv_M_141 : ew_CV qS qR_M qwg 141 qy_M_transact qc_M_transact 5 (none) qw_M_transact 2 := ⟨⟨⟨_, rfl⟩, wg_good _ (wg_t 628 rfl rfl), wg_t 10 rfl rfl, Or.inl (wg_t 625 rfl rfl), by decide +kernel, by decide +kernel, by decide +kernel⟩, wg_t 627 rfl rfl, wg_s 19 rfl⟩
set_option maxRecDepth 100000 in
theorem qv_M_134 : ew_CV qS qR_M qwg 134 qy_M_faults qc_M_faults 2 (some .boolean) qw_M_faults 1 := ⟨⟨⟨_, rfl⟩, wg_good _ (wg_t 632 rfl rfl), wg_t 10 rfl rfl, Or.inl (wg_t 629 rfl rfl), by decide +kernel, by decide +kernel, by decide +kernel⟩, wg_t 631 rfl rfl, wg_s 20 rfl⟩
set_option maxRecDepth 100000 in
theorem qs_M_84 : ew_CS qS qR_M qwg 84 qy_M_cost qc_M_cost 1 (some .int) qw_M_cost 1 := ⟨⟨⟨_, rfl⟩, wg_good _ (wg_t 635 rfl rfl), wg_t 10 rfl rfl, Or.inl (wg_t 633 rfl rfl), by decide +kernel, by decide +kernel, by decide +kernel⟩, wg_t 634 rfl rfl⟩
set_option maxRecDepth 100000 in
theorem qs_M_91 : ew_CS qS qR_M qwg 91 qy_M_takes qc_M_takes 1 (some .int) qw_M_takes 1 := ⟨⟨⟨_, rfl⟩, wg_good _ (wg_t 638 rfl rfl), wg_t 10 rfl rfl, Or.inl (wg_t 636 rfl rfl), by decide +kernel, by decide +kernel, by decide +kernel⟩, wg_t 637 rfl rfl⟩
set_option maxRecDepth 100000 in
theorem qs_M_94 : ew_CS qS qR_M qwg 94 qy_M_puts qc_M_puts 1 (some .int) qw_M_puts 1 := ⟨⟨⟨_, rfl⟩, wg_good _ (wg_t 641 rfl rfl), wg_t 10 rfl rfl, Or.inl (wg_t 639 rfl rfl), by decide +kernel, by decide +kernel, by decide +kernel⟩, wg_t 640 rfl rfl⟩
set_option maxRecDepth 100000 in
theorem qv_M_97 : ew_CV qS qR_M qwg 97 qy_M_markOf qc_M_markOf 3 (some .int) qw_M_markOf 1 := ⟨⟨⟨_, rfl⟩, wg_good _ (wg_t 645 rfl rfl), wg_t 10 rfl rfl, Or.inl (wg_t 642 rfl rfl), by decide +kernel, by decide +kernel, by decide +kernel⟩, wg_t 644 rfl rfl, wg_s 21 rfl⟩
set_option maxRecDepth 100000 in
theorem qv_M_104 : ew_CV qS qR_M qwg 104 qy_M_note qc_M_note 2 (none) qw_M_note 1 := ⟨⟨⟨_, rfl⟩, wg_good _ (wg_t 649 rfl rfl), wg_t 10 rfl rfl, Or.inl (wg_t 646 rfl rfl), by decide +kernel, by decide +kernel, by decide +kernel⟩, wg_t 648 rfl rfl, wg_s 22 rfl⟩
set_option maxRecDepth 100000 in
theorem qv_M_138 : ew_CV qS qR_M qwg 138 qy_M_act qc_M_act 6 (some .int) qw_M_act 1 := ⟨⟨⟨_, rfl⟩, wg_good _ (wg_t 653 rfl rfl), wg_t 10 rfl rfl, Or.inl (wg_t 650 rfl rfl), by decide +kernel, by decide +kernel, by decide +kernel⟩, wg_t 652 rfl rfl, wg_s 23 rfl⟩
set_option maxRecDepth 100000 in
theorem qs_M_100 : ew_CS qS qR_M qwg 100 qy_M_overflows qc_M_overflows 3 (some .boolean) qw_M_overflows 3 := ⟨⟨⟨_, rfl⟩, wg_good _ (wg_t 656 rfl rfl), wg_t 10 rfl rfl, Or.inl (wg_t 654 rfl rfl), by decide +kernel, by decide +kernel, by decide +kernel⟩, wg_t 655 rfl rfl⟩
set_option maxRecDepth 100000 in
theorem qv_M_112 : ew_CV qS qR_M qwg 112 qy_M_give qc_M_give 2 (none) qw_M_give 1 := ⟨⟨⟨_, rfl⟩, wg_good _ (wg_t 660 rfl rfl), wg_t 10 rfl rfl, Or.inl (wg_t 657 rfl rfl), by decide +kernel, by decide +kernel, by decide +kernel⟩, wg_t 659 rfl rfl, wg_s 24 rfl⟩
set_option maxRecDepth 100000 in
theorem qv_M_121 : ew_CV qS qR_M qwg 121 qy_M_swap qc_M_swap 3 (none) qw_M_swap 1 := ⟨⟨⟨_, rfl⟩, wg_good _ (wg_t 664 rfl rfl), wg_t 10 rfl rfl, Or.inl (wg_t 661 rfl rfl), by decide +kernel, by decide +kernel, by decide +kernel⟩, wg_t 663 rfl rfl, wg_s 25 rfl⟩
set_option maxRecDepth 100000 in
theorem qv_M_127 : ew_CV qS qR_M qwg 127 qy_M_send qc_M_send 3 (none) qw_M_send 1 := ⟨⟨⟨_, rfl⟩, wg_good _ (wg_t 668 rfl rfl), wg_t 10 rfl rfl, Or.inl (wg_t 665 rfl rfl), by decide +kernel, by decide +kernel, by decide +kernel⟩, wg_t 667 rfl rfl, wg_s 26 rfl⟩
set_option maxRecDepth 100000 in
theorem qs_M_130 : ew_CS qS qR_M qwg 130 qy_M_worked qc_M_worked 3 (some .int) qw_M_worked 3 := ⟨⟨⟨_, rfl⟩, wg_good _ (wg_t 671 rfl rfl), wg_t 10 rfl rfl, Or.inl (wg_t 669 rfl rfl), by decide +kernel, by decide +kernel, by decide +kernel⟩, wg_t 670 rfl rfl⟩
set_option maxRecDepth 100000 in
theorem qv_M_154 : ew_CV qS qR_M qwg 154 qy_M_goes qc_M_goes 4 (some .boolean) qw_M_goes 1 := ⟨⟨⟨_, rfl⟩, wg_good _ (wg_t 675 rfl rfl), wg_t 10 rfl rfl, Or.inl (wg_t 672 rfl rfl), by decide +kernel, by decide +kernel, by decide +kernel⟩, wg_t 674 rfl rfl, wg_s 27 rfl⟩
set_option maxRecDepth 100000 in
theorem qv_M_157 : ew_CV qS qR_M qwg 157 qy_M_open qc_M_open 5 (none) qw_M_open 2 := ⟨⟨⟨_, rfl⟩, wg_good _ (wg_t 679 rfl rfl), wg_t 10 rfl rfl, Or.inl (wg_t 676 rfl rfl), by decide +kernel, by decide +kernel, by decide +kernel⟩, wg_t 678 rfl rfl, wg_s 28 rfl⟩
set_option maxRecDepth 100000 in
theorem qv_M_160 : ew_CV qS qR_M qwg 160 qy_M_count qc_M_count 4 (none) qw_M_count 2 := ⟨⟨⟨_, rfl⟩, wg_good _ (wg_t 683 rfl rfl), wg_t 10 rfl rfl, Or.inl (wg_t 680 rfl rfl), by decide +kernel, by decide +kernel, by decide +kernel⟩, wg_t 682 rfl rfl, wg_s 29 rfl⟩
set_option maxRecDepth 100000 in
theorem qv_L_35 : ew_CV qS qR_L qwg 35 qy_M_inputs qc_M_inputs 2 (some .int) qw_M_inputs 1 := ⟨⟨⟨_, rfl⟩, wg_good _ (wg_t 687 rfl rfl), wg_t 10 rfl rfl, Or.inl (wg_t 684 rfl rfl), by decide +kernel, by decide +kernel, by decide +kernel⟩, wg_t 685 rfl rfl, wg_t 686 rfl rfl⟩
set_option maxRecDepth 100000 in
theorem qv_M_163 : ew_CV qS qR_M qwg 163 qy_M_isPath qc_M_isPath 2 (some .boolean) qw_M_isPath 1 := ⟨⟨⟨_, rfl⟩, wg_good _ (wg_t 691 rfl rfl), wg_t 10 rfl rfl, Or.inl (wg_t 688 rfl rfl), by decide +kernel, by decide +kernel, by decide +kernel⟩, wg_t 690 rfl rfl, wg_s 30 rfl⟩
set_option maxRecDepth 100000 in
theorem qv_L_39 : ew_CV qS qR_L qwg 39 qy_M_witness qc_M_witness 2 (some .int) qw_M_witness 1 := ⟨⟨⟨_, rfl⟩, wg_good _ (wg_t 695 rfl rfl), wg_t 10 rfl rfl, Or.inl (wg_t 692 rfl rfl), by decide +kernel, by decide +kernel, by decide +kernel⟩, wg_t 693 rfl rfl, wg_t 694 rfl rfl⟩
set_option maxRecDepth 100000 in
theorem qv_L_43 : ew_CV qS qR_L qwg 43 qy_M_end qc_M_end 3 (some .int) qw_M_end 2 := ⟨⟨⟨_, rfl⟩, wg_good _ (wg_t 699 rfl rfl), wg_t 10 rfl rfl, Or.inl (wg_t 696 rfl rfl), by decide +kernel, by decide +kernel, by decide +kernel⟩, wg_t 697 rfl rfl, wg_t 698 rfl rfl⟩
set_option maxRecDepth 100000 in
theorem qv_L_48 : ew_CV qS qR_L qwg 48 qy_M_step qc_M_step 4 (some .int) qw_M_step 3 := ⟨⟨⟨_, rfl⟩, wg_good _ (wg_t 703 rfl rfl), wg_t 10 rfl rfl, Or.inl (wg_t 700 rfl rfl), by decide +kernel, by decide +kernel, by decide +kernel⟩, wg_t 701 rfl rfl, wg_t 702 rfl rfl⟩
set_option maxRecDepth 100000 in
theorem qv_L_52 : ew_CV qS qR_L qwg 52 qy_M_left qc_M_left 3 (some .int) qw_M_left 2 := ⟨⟨⟨_, rfl⟩, wg_good _ (wg_t 707 rfl rfl), wg_t 10 rfl rfl, Or.inl (wg_t 704 rfl rfl), by decide +kernel, by decide +kernel, by decide +kernel⟩, wg_t 705 rfl rfl, wg_t 706 rfl rfl⟩
set_option maxRecDepth 100000 in
theorem qv_L_56 : ew_CV qS qR_L qwg 56 qy_M_finding qc_M_finding 3 (some .int) qw_M_finding 2 := ⟨⟨⟨_, rfl⟩, wg_good _ (wg_t 711 rfl rfl), wg_t 10 rfl rfl, Or.inl (wg_t 708 rfl rfl), by decide +kernel, by decide +kernel, by decide +kernel⟩, wg_t 709 rfl rfl, wg_t 710 rfl rfl⟩
set_option maxRecDepth 100000 in
theorem qv_L_60 : ew_CV qS qR_L qwg 60 qy_M_risk qc_M_risk 4 (some .int) qw_M_risk 3 := ⟨⟨⟨_, rfl⟩, wg_good _ (wg_t 715 rfl rfl), wg_t 10 rfl rfl, Or.inl (wg_t 712 rfl rfl), by decide +kernel, by decide +kernel, by decide +kernel⟩, wg_t 713 rfl rfl, wg_t 714 rfl rfl⟩
set_option maxRecDepth 100000 in
theorem qv_L_64 : ew_CV qS qR_L qwg 64 qy_M_replay qc_M_replay 4 (some .int) qw_M_replay 2 := ⟨⟨⟨_, rfl⟩, wg_good _ (wg_t 719 rfl rfl), wg_t 10 rfl rfl, Or.inl (wg_t 716 rfl rfl), by decide +kernel, by decide +kernel, by decide +kernel⟩, wg_t 717 rfl rfl, wg_t 718 rfl rfl⟩
set_option maxRecDepth 100000 in
theorem qv_L_68 : ew_CV qS qR_L qwg 68 qy_M_replayed qc_M_replayed 2 (some .int) qw_M_replayed 1 := ⟨⟨⟨_, rfl⟩, wg_good _ (wg_t 723 rfl rfl), wg_t 10 rfl rfl, Or.inl (wg_t 720 rfl rfl), by decide +kernel, by decide +kernel, by decide +kernel⟩, wg_t 721 rfl rfl, wg_t 722 rfl rfl⟩
