def pGs (s : PM) (o : Nat) : PM := (pAt s, pDe s, pGa s - oCost o, pSt s, pCe s, pSe s, pFo s, pHo s, pWa s)
def fnB (s : PM) (o y x : Nat) : Nat → Nat → Bool := if pOver o y x = true then fup (pFo s) 1 (pAt s) else if o = 15 ∧ pSe s = true then fup (pFo s) 3 (pAt s) else pFo s
def pSB (s : PM) (o y x : Nat) : PM := (pAt s, pDe s - oTake o, pGa s - oCost o, pSt s, pCe s, pSe s, fnB s o y x, pHo s, pWa s)
theorem en_if_le {S : SD} {w : WC} {nL : Nat} {k : KX} {cc : ByteArray} {own : String} {Ts : List Cond} {ret : Option FieldType} {rm : Room} {pc : Nat} {lv : List (Option MV)} {st : List MV} {sg : SG} (g : ew_G S w nL k cc own Ts ret rm) {a : Nat} {off : Int} {tgt : Nat} (d : decode cc pc = .ok (.ifCond .le off, 3)) (ht : (pc : Int) + off = (tgt : Int)) (ha : a < 2 ^ 31) (h1 : a = 0 → ew_E S w nL k tgt lv st sg) (h2 : 0 < a → ew_E S w nL k (pc + 3) lv st sg) : ew_E S w nL k pc lv (.inl (nI a) :: st) sg := ew_if_le g d ht (fun q => h1 (by
    by_cases e : a = 0
    · exact e
    · exact absurd q (nI_nle (by omega) ha))) (fun q => h2 (by
    by_cases e : a = 0
    · subst e; exact absurd (Int32.le_refl _) q
    · omega))
theorem k_M_act (w : WC) (l : Launch) (sg : SG) {cd : CDE} {s : PM} {inp cal o a : Nat} {f0 : Nat → Nat → Bool} (hc : mCode sg cd) (hm : mM sg (pGs s o) inp cal f0) (hs : pOK s) (hat : pAt s < cd.1) (ho : o < 25) (ha : cd.2.2 (pAt s) = a) (hf : pFault cd s o a = none) (hnx : sg 41 13 = nI (pAt s + 1)) (hho : pHo s = 5) : ew_M qS w l qy_M_act qw_M_act qr_M_act [.inr 41, .inl (nI o)] sg (fun v sg' => ∃ s3 nx how, v = some (.inl (nI how)) ∧ mM sg' s3 inp cal f0 ∧ sg' 41 13 = nI nx ∧ nx ≤ 32 ∧ pDo cd inp cal s o a (pUn s 1) (pUn s 0) = pEnd (pJmp s3 nx) how ∧ mFr sg sg') := by
  obtain ⟨hok, h2, h3, h4, h5, h6, h7, h8, h9, h10⟩ := id hm
  have h2 : sg 41 8 = nI (pDe s) := h2
  have h6 : sg 41 10 = nI (pAt s) := h6
  have h3 : ∀ i, i < pDe s → sg 46 i = nI (pSt s i) := h3
  have hd6 := hs.1
  have hcd := hc.1.1
  have ha16 := (hc.1.2 _ hat).2
  have harg := (hc.2.2 _ hat).2
  rw [ha] at ha16 harg
  have u0 := pUn_lt hs 0
  have u1 := pUn_lt hs 1
  obtain ⟨hT, hC, hC1, hPu⟩ := o_small o ho
  obtain ⟨f1, f2, f3, f4, f5, f6, f7, -⟩ := pFault_none hf
  have hun : ∀ i, i < pDe s → sg 46 (pDe s - 1 - i) = nI (pUn s i) := fun i hi => by
    unfold pUn
    rw [if_pos hi]
    exact h3 _ (by omega)
  refine ew_entry (ws' := qwg) (own := qR_M) (cc := qc_M_act) (nL := 6) (ret := some .int) qnk (by decide) rfl rfl (Nat.le_of_ble_eq_true rfl) ?_
  intro k g hp
  generalize hxx : (if 0 < oTake o then pUn s 0 else 0) = xx
  generalize hyy : (if 1 < oTake o then pUn s 1 else 0) = yy
  generalize hcp : (if o = 3 then pUn s a else 0) = cp
  have lx : xx < 16 := by rw [← hxx]; split <;> omega
  have ly : yy < 16 := by rw [← hyy]; split <;> omega
  have lc : cp < 16 := by rw [← hcp]; have := pUn_lt hs a; split <;> omega
  have h128 : ∀ sgB : SG, mM sgB (pSB s o yy xx) inp cal f0 → sgB 41 13 = nI (pAt s + 1) → mFr sg sgB → ew_E qS w 6 k 128 [some (.inr 41), some (.inl (nI o)), some (.inl (nI a)), some (.inl (nI xx)), some (.inl (nI yy)), some (.inl (nI cp))] [] sgB := by
    intro sgB hmB hnB hfrB
    have hdB : sgB 41 8 = nI (pDe s - oTake o) := hmB.2.1
    have hcB := hfrB.code hc
    refine ew_iload_n g qd_M_act_128 rfl ?_
    rcases (by omega : o = 0 ∨ o = 1 ∨ o = 2 ∨ o = 3 ∨ o = 4 ∨ o = 5 ∨ o = 6 ∨ o = 7 ∨ o = 8 ∨ o = 9 ∨ o = 10 ∨ o = 11 ∨ o = 12 ∨ o = 13 ∨ o = 14 ∨ o = 15 ∨ o = 16 ∨ o = 17 ∨ o = 18 ∨ o = 19 ∨ o = 20 ∨ o = 21 ∨ o = 22 ∨ o = 23 ∨ o = 24) with rfl | rfl | rfl | rfl | rfl | rfl | rfl | rfl | rfl | rfl | rfl | rfl | rfl | rfl | rfl | rfl | rfl | rfl | rfl | rfl | rfl | rfl | rfl | rfl | rfl
    · have ex : xx = 0 := hxx.symm
      have ey : yy = 0 := hyy.symm
      have ec : cp = 0 := hcp.symm
      have et : oTake 0 = 0 := rfl
      have ep : oPuts 0 = 1 := rfl
      rw [et] at hdB f2 f3
      rw [ep] at f3
      refine ew_tswI g qd_M_act_129 (off := 99) (tgt := 228) (by decide +kernel) (by decide +kernel) (by decide +kernel) (by decide) ?_
      refine ew_aload_n g qd_M_act_228 rfl ?_
      refine ew_iload_n g qd_M_act_229 rfl ?_
      refine ew_callV g qd_M_act_230 (k_M_give w k.2.1 sgB (nI a) (d := pDe s - 0) hdB (by omega)) qv_M_112 (by decide) rfl ⟨_, _, rfl⟩ rfl rfl (Nat.le_of_ble_eq_true rfl) ⟨rfl, rfl, by decide, by decide⟩ (fun v sg1 hv => ?_)
      obtain ⟨rfl, rfl⟩ := hv
      have hm3 := mM_push (v := a) hmB ha16 (by show pDe s - oTake 0 < 6; rw [et]; omega)
      have hfr3 := hfrB.tr ((mFr_a (sg := sgB) (o := 46) (i := pDe s - 0) (x := nI a) (by decide)).tr (mFr_f (i := 8) (x := nI (pDe s - 0 + 1)) (by decide)))
      have hn3 : sup (sup sgB 46 (pDe s - 0) (nI a)) 41 8 (nI (pDe s - 0 + 1)) 41 13 = nI (pAt s + 1) := by rw [sup_s, pk_un (by decide), sup_n (by decide)]; exact hnB
      refine ew_goto g qd_M_act_233 (tgt := 399) (by decide) ?_
      refine ew_iload_n g qd_M_act_399 rfl ?_
      refine ew_bipush g qd_M_act_400 bp_22 ?_
      refine en_ne g qd_M_act_402 (tgt := 407) (by decide) (by decide) (by decide) (fun h => ?_) (fun h => ?_)
      rotate_left
      · exact absurd h (by decide)
      refine ew_iload_n g qd_M_act_407 rfl ?_
      refine ew_bipush g qd_M_act_408 bp_23 ?_
      refine en_ne g qd_M_act_410 (tgt := 415) (by decide) (by decide) (by decide) (fun h => ?_) (fun h => ?_)
      rotate_left
      · exact absurd h (by decide)
      refine ew_iload_n g qd_M_act_415 rfl ?_
      refine ew_bipush g qd_M_act_416 bp_23 ?_
      refine en_gt g qd_M_act_418 (tgt := 423) (by decide) (by decide) (by decide) (fun h => ?_) (fun h => ?_)
      · exact absurd h (by decide)
      refine ew_iconst g qd_M_act_421 ic_5 ?_
      refine ew_iret g qd_M_act_422 hp ?_
      refine ⟨pPush (pSB s 0 yy xx) a, pAt s + 1, pHo s, by rw [hho], hm3, hn3, (by omega), (by (try rw [ex]); (try rw [ey]); (try rw [ec]); rfl), hfr3⟩
    · have ex : xx = 0 := hxx.symm
      have ey : yy = 0 := hyy.symm
      have ec : cp = 0 := hcp.symm
      have et : oTake 1 = 0 := rfl
      have ep : oPuts 1 = 1 := rfl
      rw [et] at hdB f2 f3
      rw [ep] at f3
      refine ew_tswI g qd_M_act_129 (off := 107) (tgt := 236) (by decide +kernel) (by decide +kernel) (by decide +kernel) (by decide) ?_
      refine ew_aload_n g qd_M_act_236 rfl ?_
      refine ew_aload_n g qd_M_act_237 rfl ?_
      refine ew_get g qd_M_act_238 qf_M_115 (by decide) rfl rfl ?_
      refine en_top (show _ = nI inp from hmB.2.2.2.2.2.2.2.2.1.1) ?_
      refine ew_callV g qd_M_act_241 (k_M_give w k.2.1 sgB (nI inp) (d := pDe s - 0) hdB (by omega)) qv_M_112 (by decide) rfl ⟨_, _, rfl⟩ rfl rfl (Nat.le_of_ble_eq_true rfl) ⟨rfl, rfl, by decide, by decide⟩ (fun v sg1 hv => ?_)
      obtain ⟨rfl, rfl⟩ := hv
      have hm3 := mM_push (v := inp) hmB h9.2 (by show pDe s - oTake 1 < 6; rw [et]; omega)
      have hfr3 := hfrB.tr ((mFr_a (sg := sgB) (o := 46) (i := pDe s - 0) (x := nI inp) (by decide)).tr (mFr_f (i := 8) (x := nI (pDe s - 0 + 1)) (by decide)))
      have hn3 : sup (sup sgB 46 (pDe s - 0) (nI inp)) 41 8 (nI (pDe s - 0 + 1)) 41 13 = nI (pAt s + 1) := by rw [sup_s, pk_un (by decide), sup_n (by decide)]; exact hnB
      refine ew_goto g qd_M_act_244 (tgt := 399) (by decide) ?_
      refine ew_iload_n g qd_M_act_399 rfl ?_
      refine ew_bipush g qd_M_act_400 bp_22 ?_
      refine en_ne g qd_M_act_402 (tgt := 407) (by decide) (by decide) (by decide) (fun h => ?_) (fun h => ?_)
      rotate_left
      · exact absurd h (by decide)
      refine ew_iload_n g qd_M_act_407 rfl ?_
      refine ew_bipush g qd_M_act_408 bp_23 ?_
      refine en_ne g qd_M_act_410 (tgt := 415) (by decide) (by decide) (by decide) (fun h => ?_) (fun h => ?_)
      rotate_left
      · exact absurd h (by decide)
      refine ew_iload_n g qd_M_act_415 rfl ?_
      refine ew_bipush g qd_M_act_416 bp_23 ?_
      refine en_gt g qd_M_act_418 (tgt := 423) (by decide) (by decide) (by decide) (fun h => ?_) (fun h => ?_)
      · exact absurd h (by decide)
      refine ew_iconst g qd_M_act_421 ic_5 ?_
      refine ew_iret g qd_M_act_422 hp ?_
      refine ⟨pPush (pSB s 1 yy xx) inp, pAt s + 1, pHo s, by rw [hho], hm3, hn3, (by omega), (by (try rw [ex]); (try rw [ey]); (try rw [ec]); rfl), hfr3⟩
    · have ex : xx = 0 := hxx.symm
      have ey : yy = 0 := hyy.symm
      have ec : cp = 0 := hcp.symm
      have et : oTake 2 = 0 := rfl
      have ep : oPuts 2 = 1 := rfl
      rw [et] at hdB f2 f3
      rw [ep] at f3
      refine ew_tswI g qd_M_act_129 (off := 118) (tgt := 247) (by decide +kernel) (by decide +kernel) (by decide +kernel) (by decide) ?_
      refine ew_aload_n g qd_M_act_247 rfl ?_
      refine ew_aload_n g qd_M_act_248 rfl ?_
      refine ew_get g qd_M_act_249 qf_M_118 (by decide) rfl rfl ?_
      refine en_top (show _ = nI cal from hmB.2.2.2.2.2.2.2.2.2.1) ?_
      refine ew_callV g qd_M_act_252 (k_M_give w k.2.1 sgB (nI cal) (d := pDe s - 0) hdB (by omega)) qv_M_112 (by decide) rfl ⟨_, _, rfl⟩ rfl rfl (Nat.le_of_ble_eq_true rfl) ⟨rfl, rfl, by decide, by decide⟩ (fun v sg1 hv => ?_)
      obtain ⟨rfl, rfl⟩ := hv
      have hm3 := mM_push (v := cal) hmB (show cal < 16 by have := h10.2; omega) (by show pDe s - oTake 2 < 6; rw [et]; omega)
      have hfr3 := hfrB.tr ((mFr_a (sg := sgB) (o := 46) (i := pDe s - 0) (x := nI cal) (by decide)).tr (mFr_f (i := 8) (x := nI (pDe s - 0 + 1)) (by decide)))
      have hn3 : sup (sup sgB 46 (pDe s - 0) (nI cal)) 41 8 (nI (pDe s - 0 + 1)) 41 13 = nI (pAt s + 1) := by rw [sup_s, pk_un (by decide), sup_n (by decide)]; exact hnB
      refine ew_goto g qd_M_act_255 (tgt := 399) (by decide) ?_
      refine ew_iload_n g qd_M_act_399 rfl ?_
      refine ew_bipush g qd_M_act_400 bp_22 ?_
      refine en_ne g qd_M_act_402 (tgt := 407) (by decide) (by decide) (by decide) (fun h => ?_) (fun h => ?_)
      rotate_left
      · exact absurd h (by decide)
      refine ew_iload_n g qd_M_act_407 rfl ?_
      refine ew_bipush g qd_M_act_408 bp_23 ?_
      refine en_ne g qd_M_act_410 (tgt := 415) (by decide) (by decide) (by decide) (fun h => ?_) (fun h => ?_)
      rotate_left
      · exact absurd h (by decide)
      refine ew_iload_n g qd_M_act_415 rfl ?_
      refine ew_bipush g qd_M_act_416 bp_23 ?_
      refine en_gt g qd_M_act_418 (tgt := 423) (by decide) (by decide) (by decide) (fun h => ?_) (fun h => ?_)
      · exact absurd h (by decide)
      refine ew_iconst g qd_M_act_421 ic_5 ?_
      refine ew_iret g qd_M_act_422 hp ?_
      refine ⟨pPush (pSB s 2 yy xx) cal, pAt s + 1, pHo s, by rw [hho], hm3, hn3, (by omega), (by (try rw [ex]); (try rw [ey]); (try rw [ec]); rfl), hfr3⟩
    · have ex : xx = 0 := hxx.symm
      have ey : yy = 0 := hyy.symm
      have ec : cp = pUn s a := hcp.symm
      have et : oTake 3 = 0 := rfl
      have ep : oPuts 3 = 1 := rfl
      rw [et] at hdB f2 f3
      rw [ep] at f3
      refine ew_tswI g qd_M_act_129 (off := 129) (tgt := 258) (by decide +kernel) (by decide +kernel) (by decide +kernel) (by decide) ?_
      refine ew_aload_n g qd_M_act_258 rfl ?_
      refine ew_iload g qd_M_act_259 rfl ?_
      refine ew_callV g qd_M_act_261 (k_M_give w k.2.1 sgB (nI cp) (d := pDe s - 0) hdB (by omega)) qv_M_112 (by decide) rfl ⟨_, _, rfl⟩ rfl rfl (Nat.le_of_ble_eq_true rfl) ⟨rfl, rfl, by decide, by decide⟩ (fun v sg1 hv => ?_)
      obtain ⟨rfl, rfl⟩ := hv
      have hm3 := mM_push (v := cp) hmB lc (by show pDe s - oTake 3 < 6; rw [et]; omega)
      have hfr3 := hfrB.tr ((mFr_a (sg := sgB) (o := 46) (i := pDe s - 0) (x := nI cp) (by decide)).tr (mFr_f (i := 8) (x := nI (pDe s - 0 + 1)) (by decide)))
      have hn3 : sup (sup sgB 46 (pDe s - 0) (nI cp)) 41 8 (nI (pDe s - 0 + 1)) 41 13 = nI (pAt s + 1) := by rw [sup_s, pk_un (by decide), sup_n (by decide)]; exact hnB
      refine ew_goto g qd_M_act_264 (tgt := 399) (by decide) ?_
      refine ew_iload_n g qd_M_act_399 rfl ?_
      refine ew_bipush g qd_M_act_400 bp_22 ?_
      refine en_ne g qd_M_act_402 (tgt := 407) (by decide) (by decide) (by decide) (fun h => ?_) (fun h => ?_)
      rotate_left
      · exact absurd h (by decide)
      refine ew_iload_n g qd_M_act_407 rfl ?_
      refine ew_bipush g qd_M_act_408 bp_23 ?_
      refine en_ne g qd_M_act_410 (tgt := 415) (by decide) (by decide) (by decide) (fun h => ?_) (fun h => ?_)
      rotate_left
      · exact absurd h (by decide)
      refine ew_iload_n g qd_M_act_415 rfl ?_
      refine ew_bipush g qd_M_act_416 bp_23 ?_
      refine en_gt g qd_M_act_418 (tgt := 423) (by decide) (by decide) (by decide) (fun h => ?_) (fun h => ?_)
      · exact absurd h (by decide)
      refine ew_iconst g qd_M_act_421 ic_5 ?_
      refine ew_iret g qd_M_act_422 hp ?_
      refine ⟨pPush (pSB s 3 yy xx) cp, pAt s + 1, pHo s, by rw [hho], hm3, hn3, (by omega), (by (try rw [ex]); (try rw [ey]); (try rw [ec]); rfl), hfr3⟩
    · have ex : xx = 0 := hxx.symm
      have ey : yy = 0 := hyy.symm
      have ec : cp = 0 := hcp.symm
      have et : oTake 4 = 0 := rfl
      have ep : oPuts 4 = 0 := rfl
      rw [et] at hdB f2 f3
      rw [ep] at f3
      refine ew_tswI g qd_M_act_129 (off := 138) (tgt := 267) (by decide +kernel) (by decide +kernel) (by decide +kernel) (by decide) ?_
      have h44 := f5 rfl
      refine ew_aload_n g qd_M_act_267 rfl ?_
      refine ew_iload_n g qd_M_act_268 rfl ?_
      refine ew_callV g qd_M_act_269 (k_M_swap w k.2.1 sgB (d := pDe s) (a := a) hdB (by omega) h44) qv_M_121 (by decide) rfl ⟨_, _, rfl⟩ rfl rfl (Nat.le_of_ble_eq_true rfl) ⟨rfl, rfl, by decide, by decide⟩ (fun v sg1 hv => ?_)
      obtain ⟨rfl, rfl⟩ := hv
      have e1 : sgB 46 (pDe s - 1) = nI (pSt s (pDe s - 1)) := hmB.2.2.1 _ (by show pDe s - 1 < pDe s - 0; omega)
      have e2 : sgB 46 (pDe s - 2 - a) = nI (pSt s (pDe s - 2 - a)) := hmB.2.2.1 _ (by show pDe s - 2 - a < pDe s - 0; omega)
      rw [e1, e2]
      have hm3 := mM_s46 (i := pDe s - 2 - a) (mM_s46 (i := pDe s - 1) hmB (hs.2.1 (pDe s - 2 - a) (by omega))) (hs.2.1 (pDe s - 1) (by omega))
      have hfr3 := hfrB.tr ((mFr_a (sg := sgB) (o := 46) (i := pDe s - 1) (x := nI (pSt s (pDe s - 2 - a))) (by decide)).tr (mFr_a (o := 46) (i := pDe s - 2 - a) (x := nI (pSt s (pDe s - 1))) (by decide)))
      have hn3 : sup (sup sgB 46 (pDe s - 1) (nI (pSt s (pDe s - 2 - a)))) 46 (pDe s - 2 - a) (nI (pSt s (pDe s - 1))) 41 13 = nI (pAt s + 1) := by rw [sup_n (by decide), sup_n (by decide)]; exact hnB
      refine ew_goto g qd_M_act_272 (tgt := 399) (by decide) ?_
      refine ew_iload_n g qd_M_act_399 rfl ?_
      refine ew_bipush g qd_M_act_400 bp_22 ?_
      refine en_ne g qd_M_act_402 (tgt := 407) (by decide) (by decide) (by decide) (fun h => ?_) (fun h => ?_)
      rotate_left
      · exact absurd h (by decide)
      refine ew_iload_n g qd_M_act_407 rfl ?_
      refine ew_bipush g qd_M_act_408 bp_23 ?_
      refine en_ne g qd_M_act_410 (tgt := 415) (by decide) (by decide) (by decide) (fun h => ?_) (fun h => ?_)
      rotate_left
      · exact absurd h (by decide)
      refine ew_iload_n g qd_M_act_415 rfl ?_
      refine ew_bipush g qd_M_act_416 bp_23 ?_
      refine en_gt g qd_M_act_418 (tgt := 423) (by decide) (by decide) (by decide) (fun h => ?_) (fun h => ?_)
      · exact absurd h (by decide)
      refine ew_iconst g qd_M_act_421 ic_5 ?_
      refine ew_iret g qd_M_act_422 hp ?_
      refine ⟨_, pAt s + 1, pHo s, by rw [hho], hm3, hn3, (by omega), rfl, hfr3⟩
    · have ex : xx = pUn s 0 := hxx.symm
      have ey : yy = 0 := hyy.symm
      have ec : cp = 0 := hcp.symm
      have et : oTake 5 = 1 := rfl
      have ep : oPuts 5 = 0 := rfl
      rw [et] at hdB f2 f3
      rw [ep] at f3
      refine ew_tswI g qd_M_act_129 (off := 247) (tgt := 376) (by decide +kernel) (by decide +kernel) (by decide +kernel) (by decide) ?_
      refine ew_iload_n g qd_M_act_376 rfl ?_
      refine ew_bipush g qd_M_act_377 bp_6 ?_
      refine en_lt g qd_M_act_379 (tgt := 399) (by decide) (by decide) (by decide) (fun h => ?_) (fun h => ?_)
      rotate_left
      · exact absurd h (by decide)
      refine ew_iload_n g qd_M_act_399 rfl ?_
      refine ew_bipush g qd_M_act_400 bp_22 ?_
      refine en_ne g qd_M_act_402 (tgt := 407) (by decide) (by decide) (by decide) (fun h => ?_) (fun h => ?_)
      rotate_left
      · exact absurd h (by decide)
      refine ew_iload_n g qd_M_act_407 rfl ?_
      refine ew_bipush g qd_M_act_408 bp_23 ?_
      refine en_ne g qd_M_act_410 (tgt := 415) (by decide) (by decide) (by decide) (fun h => ?_) (fun h => ?_)
      rotate_left
      · exact absurd h (by decide)
      refine ew_iload_n g qd_M_act_415 rfl ?_
      refine ew_bipush g qd_M_act_416 bp_23 ?_
      refine en_gt g qd_M_act_418 (tgt := 423) (by decide) (by decide) (by decide) (fun h => ?_) (fun h => ?_)
      · exact absurd h (by decide)
      refine ew_iconst g qd_M_act_421 ic_5 ?_
      refine ew_iret g qd_M_act_422 hp ?_
      refine ⟨pSB s 5 yy xx, pAt s + 1, pHo s, by rw [hho], hmB, hnB, (by omega), (by (try rw [ex]); (try rw [ey]); rfl), hfrB⟩
    · have ex : xx = pUn s 0 := hxx.symm
      have ey : yy = pUn s 1 := hyy.symm
      have ec : cp = 0 := hcp.symm
      have et : oTake 6 = 2 := rfl
      have ep : oPuts 6 = 1 := rfl
      rw [et] at hdB f2 f3
      rw [ep] at f3
      refine ew_tswI g qd_M_act_129 (off := 247) (tgt := 376) (by decide +kernel) (by decide +kernel) (by decide +kernel) (by decide) ?_
      refine ew_iload_n g qd_M_act_376 rfl ?_
      refine ew_bipush g qd_M_act_377 bp_6 ?_
      refine en_lt g qd_M_act_379 (tgt := 399) (by decide) (by decide) (by decide) (fun h => ?_) (fun h => ?_)
      · exact absurd h (by decide)
      refine ew_iload_n g qd_M_act_382 rfl ?_
      refine ew_bipush g qd_M_act_383 bp_12 ?_
      refine en_gt g qd_M_act_385 (tgt := 399) (by decide) (by decide) (by decide) (fun h => ?_) (fun h => ?_)
      · exact absurd h (by decide)
      refine ew_aload_n g qd_M_act_388 rfl ?_
      refine ew_iload_n g qd_M_act_389 rfl ?_
      refine ew_iload g qd_M_act_390 rfl ?_
      refine ew_iload_n g qd_M_act_392 rfl ?_
      refine ew_callS g qd_M_act_393 (k_M_worked w k.2.1 sgB inp cal (pS1 cal s 6 yy xx) a (by decide) (by decide) lx ly) qs_M_130 rfl rfl (Nat.le_of_ble_eq_true rfl) ⟨rfl, rfl, by decide, by decide⟩ (fun v sg1 hv => ?_)
      obtain ⟨rfl, rfl⟩ := hv
      have hpl := pPut_lt (inp := inp) (cal := cal) (o := 6) (a := a) (y := yy) (x := xx) (pS1_ok (cal := cal) (o := 6) (y := yy) (x := xx) hs (by omega)) h9.2 h10.2 ha16 ly lx
      have hd6o : pDe s - 2 < 6 := by omega
      refine ew_callV g qd_M_act_396 (k_M_give w k.2.1 sg1 (nI (pPut inp cal (pS1 cal s 6 yy xx) 6 a yy xx)) (d := pDe s - 2) hdB (by omega)) qv_M_112 (by decide) rfl ⟨_, _, rfl⟩ rfl rfl (Nat.le_of_ble_eq_true rfl) ⟨rfl, rfl, by decide, by decide⟩ (fun v sg2 hv => ?_)
      obtain ⟨rfl, rfl⟩ := hv
      have hm3 := mM_push (v := (pPut inp cal (pS1 cal s 6 yy xx) 6 a yy xx)) hmB hpl (by show pDe s - oTake 6 < 6; rw [et]; omega)
      have hfr3 := hfrB.tr ((mFr_a (sg := sg1) (o := 46) (i := pDe s - 2) (x := nI (pPut inp cal (pS1 cal s 6 yy xx) 6 a yy xx)) (by decide)).tr (mFr_f (i := 8) (x := nI (pDe s - 2 + 1)) (by decide)))
      have hn3 : sup (sup sg1 46 (pDe s - 2) (nI (pPut inp cal (pS1 cal s 6 yy xx) 6 a yy xx))) 41 8 (nI (pDe s - 2 + 1)) 41 13 = nI (pAt s + 1) := by rw [sup_s, pk_un (by decide), sup_n (by decide)]; exact hnB
      refine ew_iload_n g qd_M_act_399 rfl ?_
      refine ew_bipush g qd_M_act_400 bp_22 ?_
      refine en_ne g qd_M_act_402 (tgt := 407) (by decide) (by decide) (by decide) (fun h => ?_) (fun h => ?_)
      rotate_left
      · exact absurd h (by decide)
      refine ew_iload_n g qd_M_act_407 rfl ?_
      refine ew_bipush g qd_M_act_408 bp_23 ?_
      refine en_ne g qd_M_act_410 (tgt := 415) (by decide) (by decide) (by decide) (fun h => ?_) (fun h => ?_)
      rotate_left
      · exact absurd h (by decide)
      refine ew_iload_n g qd_M_act_415 rfl ?_
      refine ew_bipush g qd_M_act_416 bp_23 ?_
      refine en_gt g qd_M_act_418 (tgt := 423) (by decide) (by decide) (by decide) (fun h => ?_) (fun h => ?_)
      · exact absurd h (by decide)
      refine ew_iconst g qd_M_act_421 ic_5 ?_
      refine ew_iret g qd_M_act_422 hp ?_
      refine ⟨pPush (pSB s 6 yy xx) (pPut inp cal (pS1 cal s 6 yy xx) 6 a yy xx), pAt s + 1, pHo s, by rw [hho], hm3, hn3, (by omega), (by (try rw [ex]); (try rw [ey]); rfl), hfr3⟩
    · have ex : xx = pUn s 0 := hxx.symm
      have ey : yy = pUn s 1 := hyy.symm
      have ec : cp = 0 := hcp.symm
      have et : oTake 7 = 2 := rfl
      have ep : oPuts 7 = 1 := rfl
      rw [et] at hdB f2 f3
      rw [ep] at f3
      refine ew_tswI g qd_M_act_129 (off := 247) (tgt := 376) (by decide +kernel) (by decide +kernel) (by decide +kernel) (by decide) ?_
      refine ew_iload_n g qd_M_act_376 rfl ?_
      refine ew_bipush g qd_M_act_377 bp_6 ?_
      refine en_lt g qd_M_act_379 (tgt := 399) (by decide) (by decide) (by decide) (fun h => ?_) (fun h => ?_)
      · exact absurd h (by decide)
      refine ew_iload_n g qd_M_act_382 rfl ?_
      refine ew_bipush g qd_M_act_383 bp_12 ?_
      refine en_gt g qd_M_act_385 (tgt := 399) (by decide) (by decide) (by decide) (fun h => ?_) (fun h => ?_)
      · exact absurd h (by decide)
      refine ew_aload_n g qd_M_act_388 rfl ?_
      refine ew_iload_n g qd_M_act_389 rfl ?_
      refine ew_iload g qd_M_act_390 rfl ?_
      refine ew_iload_n g qd_M_act_392 rfl ?_
      refine ew_callS g qd_M_act_393 (k_M_worked w k.2.1 sgB inp cal (pS1 cal s 7 yy xx) a (by decide) (by decide) lx ly) qs_M_130 rfl rfl (Nat.le_of_ble_eq_true rfl) ⟨rfl, rfl, by decide, by decide⟩ (fun v sg1 hv => ?_)
      obtain ⟨rfl, rfl⟩ := hv
      have hpl := pPut_lt (inp := inp) (cal := cal) (o := 7) (a := a) (y := yy) (x := xx) (pS1_ok (cal := cal) (o := 7) (y := yy) (x := xx) hs (by omega)) h9.2 h10.2 ha16 ly lx
      have hd6o : pDe s - 2 < 6 := by omega
      refine ew_callV g qd_M_act_396 (k_M_give w k.2.1 sg1 (nI (pPut inp cal (pS1 cal s 7 yy xx) 7 a yy xx)) (d := pDe s - 2) hdB (by omega)) qv_M_112 (by decide) rfl ⟨_, _, rfl⟩ rfl rfl (Nat.le_of_ble_eq_true rfl) ⟨rfl, rfl, by decide, by decide⟩ (fun v sg2 hv => ?_)
      obtain ⟨rfl, rfl⟩ := hv
      have hm3 := mM_push (v := (pPut inp cal (pS1 cal s 7 yy xx) 7 a yy xx)) hmB hpl (by show pDe s - oTake 7 < 6; rw [et]; omega)
      have hfr3 := hfrB.tr ((mFr_a (sg := sg1) (o := 46) (i := pDe s - 2) (x := nI (pPut inp cal (pS1 cal s 7 yy xx) 7 a yy xx)) (by decide)).tr (mFr_f (i := 8) (x := nI (pDe s - 2 + 1)) (by decide)))
      have hn3 : sup (sup sg1 46 (pDe s - 2) (nI (pPut inp cal (pS1 cal s 7 yy xx) 7 a yy xx))) 41 8 (nI (pDe s - 2 + 1)) 41 13 = nI (pAt s + 1) := by rw [sup_s, pk_un (by decide), sup_n (by decide)]; exact hnB
      refine ew_iload_n g qd_M_act_399 rfl ?_
      refine ew_bipush g qd_M_act_400 bp_22 ?_
      refine en_ne g qd_M_act_402 (tgt := 407) (by decide) (by decide) (by decide) (fun h => ?_) (fun h => ?_)
      rotate_left
      · exact absurd h (by decide)
      refine ew_iload_n g qd_M_act_407 rfl ?_
      refine ew_bipush g qd_M_act_408 bp_23 ?_
      refine en_ne g qd_M_act_410 (tgt := 415) (by decide) (by decide) (by decide) (fun h => ?_) (fun h => ?_)
      rotate_left
      · exact absurd h (by decide)
      refine ew_iload_n g qd_M_act_415 rfl ?_
      refine ew_bipush g qd_M_act_416 bp_23 ?_
      refine en_gt g qd_M_act_418 (tgt := 423) (by decide) (by decide) (by decide) (fun h => ?_) (fun h => ?_)
      · exact absurd h (by decide)
      refine ew_iconst g qd_M_act_421 ic_5 ?_
      refine ew_iret g qd_M_act_422 hp ?_
      refine ⟨pPush (pSB s 7 yy xx) (pPut inp cal (pS1 cal s 7 yy xx) 7 a yy xx), pAt s + 1, pHo s, by rw [hho], hm3, hn3, (by omega), (by (try rw [ex]); (try rw [ey]); rfl), hfr3⟩
    · have ex : xx = pUn s 0 := hxx.symm
      have ey : yy = pUn s 1 := hyy.symm
      have ec : cp = 0 := hcp.symm
      have et : oTake 8 = 2 := rfl
      have ep : oPuts 8 = 1 := rfl
      rw [et] at hdB f2 f3
      rw [ep] at f3
      refine ew_tswI g qd_M_act_129 (off := 247) (tgt := 376) (by decide +kernel) (by decide +kernel) (by decide +kernel) (by decide) ?_
      refine ew_iload_n g qd_M_act_376 rfl ?_
      refine ew_bipush g qd_M_act_377 bp_6 ?_
      refine en_lt g qd_M_act_379 (tgt := 399) (by decide) (by decide) (by decide) (fun h => ?_) (fun h => ?_)
      · exact absurd h (by decide)
      refine ew_iload_n g qd_M_act_382 rfl ?_
      refine ew_bipush g qd_M_act_383 bp_12 ?_
      refine en_gt g qd_M_act_385 (tgt := 399) (by decide) (by decide) (by decide) (fun h => ?_) (fun h => ?_)
      · exact absurd h (by decide)
      refine ew_aload_n g qd_M_act_388 rfl ?_
      refine ew_iload_n g qd_M_act_389 rfl ?_
      refine ew_iload g qd_M_act_390 rfl ?_
      refine ew_iload_n g qd_M_act_392 rfl ?_
      refine ew_callS g qd_M_act_393 (k_M_worked w k.2.1 sgB inp cal (pS1 cal s 8 yy xx) a (by decide) (by decide) lx ly) qs_M_130 rfl rfl (Nat.le_of_ble_eq_true rfl) ⟨rfl, rfl, by decide, by decide⟩ (fun v sg1 hv => ?_)
      obtain ⟨rfl, rfl⟩ := hv
      have hpl := pPut_lt (inp := inp) (cal := cal) (o := 8) (a := a) (y := yy) (x := xx) (pS1_ok (cal := cal) (o := 8) (y := yy) (x := xx) hs (by omega)) h9.2 h10.2 ha16 ly lx
      have hd6o : pDe s - 2 < 6 := by omega
      refine ew_callV g qd_M_act_396 (k_M_give w k.2.1 sg1 (nI (pPut inp cal (pS1 cal s 8 yy xx) 8 a yy xx)) (d := pDe s - 2) hdB (by omega)) qv_M_112 (by decide) rfl ⟨_, _, rfl⟩ rfl rfl (Nat.le_of_ble_eq_true rfl) ⟨rfl, rfl, by decide, by decide⟩ (fun v sg2 hv => ?_)
      obtain ⟨rfl, rfl⟩ := hv
      have hm3 := mM_push (v := (pPut inp cal (pS1 cal s 8 yy xx) 8 a yy xx)) hmB hpl (by show pDe s - oTake 8 < 6; rw [et]; omega)
      have hfr3 := hfrB.tr ((mFr_a (sg := sg1) (o := 46) (i := pDe s - 2) (x := nI (pPut inp cal (pS1 cal s 8 yy xx) 8 a yy xx)) (by decide)).tr (mFr_f (i := 8) (x := nI (pDe s - 2 + 1)) (by decide)))
      have hn3 : sup (sup sg1 46 (pDe s - 2) (nI (pPut inp cal (pS1 cal s 8 yy xx) 8 a yy xx))) 41 8 (nI (pDe s - 2 + 1)) 41 13 = nI (pAt s + 1) := by rw [sup_s, pk_un (by decide), sup_n (by decide)]; exact hnB
      refine ew_iload_n g qd_M_act_399 rfl ?_
      refine ew_bipush g qd_M_act_400 bp_22 ?_
      refine en_ne g qd_M_act_402 (tgt := 407) (by decide) (by decide) (by decide) (fun h => ?_) (fun h => ?_)
      rotate_left
      · exact absurd h (by decide)
      refine ew_iload_n g qd_M_act_407 rfl ?_
      refine ew_bipush g qd_M_act_408 bp_23 ?_
      refine en_ne g qd_M_act_410 (tgt := 415) (by decide) (by decide) (by decide) (fun h => ?_) (fun h => ?_)
      rotate_left
      · exact absurd h (by decide)
      refine ew_iload_n g qd_M_act_415 rfl ?_
      refine ew_bipush g qd_M_act_416 bp_23 ?_
      refine en_gt g qd_M_act_418 (tgt := 423) (by decide) (by decide) (by decide) (fun h => ?_) (fun h => ?_)
      · exact absurd h (by decide)
      refine ew_iconst g qd_M_act_421 ic_5 ?_
      refine ew_iret g qd_M_act_422 hp ?_
      refine ⟨pPush (pSB s 8 yy xx) (pPut inp cal (pS1 cal s 8 yy xx) 8 a yy xx), pAt s + 1, pHo s, by rw [hho], hm3, hn3, (by omega), (by (try rw [ex]); (try rw [ey]); rfl), hfr3⟩
    · have ex : xx = pUn s 0 := hxx.symm
      have ey : yy = pUn s 1 := hyy.symm
      have ec : cp = 0 := hcp.symm
      have et : oTake 9 = 2 := rfl
      have ep : oPuts 9 = 1 := rfl
      rw [et] at hdB f2 f3
      rw [ep] at f3
      refine ew_tswI g qd_M_act_129 (off := 247) (tgt := 376) (by decide +kernel) (by decide +kernel) (by decide +kernel) (by decide) ?_
      refine ew_iload_n g qd_M_act_376 rfl ?_
      refine ew_bipush g qd_M_act_377 bp_6 ?_
      refine en_lt g qd_M_act_379 (tgt := 399) (by decide) (by decide) (by decide) (fun h => ?_) (fun h => ?_)
      · exact absurd h (by decide)
      refine ew_iload_n g qd_M_act_382 rfl ?_
      refine ew_bipush g qd_M_act_383 bp_12 ?_
      refine en_gt g qd_M_act_385 (tgt := 399) (by decide) (by decide) (by decide) (fun h => ?_) (fun h => ?_)
      · exact absurd h (by decide)
      refine ew_aload_n g qd_M_act_388 rfl ?_
      refine ew_iload_n g qd_M_act_389 rfl ?_
      refine ew_iload g qd_M_act_390 rfl ?_
      refine ew_iload_n g qd_M_act_392 rfl ?_
      refine ew_callS g qd_M_act_393 (k_M_worked w k.2.1 sgB inp cal (pS1 cal s 9 yy xx) a (by decide) (by decide) lx ly) qs_M_130 rfl rfl (Nat.le_of_ble_eq_true rfl) ⟨rfl, rfl, by decide, by decide⟩ (fun v sg1 hv => ?_)
      obtain ⟨rfl, rfl⟩ := hv
      have hpl := pPut_lt (inp := inp) (cal := cal) (o := 9) (a := a) (y := yy) (x := xx) (pS1_ok (cal := cal) (o := 9) (y := yy) (x := xx) hs (by omega)) h9.2 h10.2 ha16 ly lx
      have hd6o : pDe s - 2 < 6 := by omega
      refine ew_callV g qd_M_act_396 (k_M_give w k.2.1 sg1 (nI (pPut inp cal (pS1 cal s 9 yy xx) 9 a yy xx)) (d := pDe s - 2) hdB (by omega)) qv_M_112 (by decide) rfl ⟨_, _, rfl⟩ rfl rfl (Nat.le_of_ble_eq_true rfl) ⟨rfl, rfl, by decide, by decide⟩ (fun v sg2 hv => ?_)
      obtain ⟨rfl, rfl⟩ := hv
      have hm3 := mM_push (v := (pPut inp cal (pS1 cal s 9 yy xx) 9 a yy xx)) hmB hpl (by show pDe s - oTake 9 < 6; rw [et]; omega)
      have hfr3 := hfrB.tr ((mFr_a (sg := sg1) (o := 46) (i := pDe s - 2) (x := nI (pPut inp cal (pS1 cal s 9 yy xx) 9 a yy xx)) (by decide)).tr (mFr_f (i := 8) (x := nI (pDe s - 2 + 1)) (by decide)))
      have hn3 : sup (sup sg1 46 (pDe s - 2) (nI (pPut inp cal (pS1 cal s 9 yy xx) 9 a yy xx))) 41 8 (nI (pDe s - 2 + 1)) 41 13 = nI (pAt s + 1) := by rw [sup_s, pk_un (by decide), sup_n (by decide)]; exact hnB
      refine ew_iload_n g qd_M_act_399 rfl ?_
      refine ew_bipush g qd_M_act_400 bp_22 ?_
      refine en_ne g qd_M_act_402 (tgt := 407) (by decide) (by decide) (by decide) (fun h => ?_) (fun h => ?_)
      rotate_left
      · exact absurd h (by decide)
      refine ew_iload_n g qd_M_act_407 rfl ?_
      refine ew_bipush g qd_M_act_408 bp_23 ?_
      refine en_ne g qd_M_act_410 (tgt := 415) (by decide) (by decide) (by decide) (fun h => ?_) (fun h => ?_)
      rotate_left
      · exact absurd h (by decide)
      refine ew_iload_n g qd_M_act_415 rfl ?_
      refine ew_bipush g qd_M_act_416 bp_23 ?_
      refine en_gt g qd_M_act_418 (tgt := 423) (by decide) (by decide) (by decide) (fun h => ?_) (fun h => ?_)
      · exact absurd h (by decide)
      refine ew_iconst g qd_M_act_421 ic_5 ?_
      refine ew_iret g qd_M_act_422 hp ?_
      refine ⟨pPush (pSB s 9 yy xx) (pPut inp cal (pS1 cal s 9 yy xx) 9 a yy xx), pAt s + 1, pHo s, by rw [hho], hm3, hn3, (by omega), (by (try rw [ex]); (try rw [ey]); rfl), hfr3⟩
    · have ex : xx = pUn s 0 := hxx.symm
      have ey : yy = pUn s 1 := hyy.symm
      have ec : cp = 0 := hcp.symm
      have et : oTake 10 = 2 := rfl
      have ep : oPuts 10 = 1 := rfl
      rw [et] at hdB f2 f3
      rw [ep] at f3
      refine ew_tswI g qd_M_act_129 (off := 247) (tgt := 376) (by decide +kernel) (by decide +kernel) (by decide +kernel) (by decide) ?_
      refine ew_iload_n g qd_M_act_376 rfl ?_
      refine ew_bipush g qd_M_act_377 bp_6 ?_
      refine en_lt g qd_M_act_379 (tgt := 399) (by decide) (by decide) (by decide) (fun h => ?_) (fun h => ?_)
      · exact absurd h (by decide)
      refine ew_iload_n g qd_M_act_382 rfl ?_
      refine ew_bipush g qd_M_act_383 bp_12 ?_
      refine en_gt g qd_M_act_385 (tgt := 399) (by decide) (by decide) (by decide) (fun h => ?_) (fun h => ?_)
      · exact absurd h (by decide)
      refine ew_aload_n g qd_M_act_388 rfl ?_
      refine ew_iload_n g qd_M_act_389 rfl ?_
      refine ew_iload g qd_M_act_390 rfl ?_
      refine ew_iload_n g qd_M_act_392 rfl ?_
      refine ew_callS g qd_M_act_393 (k_M_worked w k.2.1 sgB inp cal (pS1 cal s 10 yy xx) a (by decide) (by decide) lx ly) qs_M_130 rfl rfl (Nat.le_of_ble_eq_true rfl) ⟨rfl, rfl, by decide, by decide⟩ (fun v sg1 hv => ?_)
      obtain ⟨rfl, rfl⟩ := hv
      have hpl := pPut_lt (inp := inp) (cal := cal) (o := 10) (a := a) (y := yy) (x := xx) (pS1_ok (cal := cal) (o := 10) (y := yy) (x := xx) hs (by omega)) h9.2 h10.2 ha16 ly lx
      have hd6o : pDe s - 2 < 6 := by omega
      refine ew_callV g qd_M_act_396 (k_M_give w k.2.1 sg1 (nI (pPut inp cal (pS1 cal s 10 yy xx) 10 a yy xx)) (d := pDe s - 2) hdB (by omega)) qv_M_112 (by decide) rfl ⟨_, _, rfl⟩ rfl rfl (Nat.le_of_ble_eq_true rfl) ⟨rfl, rfl, by decide, by decide⟩ (fun v sg2 hv => ?_)
      obtain ⟨rfl, rfl⟩ := hv
      have hm3 := mM_push (v := (pPut inp cal (pS1 cal s 10 yy xx) 10 a yy xx)) hmB hpl (by show pDe s - oTake 10 < 6; rw [et]; omega)
      have hfr3 := hfrB.tr ((mFr_a (sg := sg1) (o := 46) (i := pDe s - 2) (x := nI (pPut inp cal (pS1 cal s 10 yy xx) 10 a yy xx)) (by decide)).tr (mFr_f (i := 8) (x := nI (pDe s - 2 + 1)) (by decide)))
      have hn3 : sup (sup sg1 46 (pDe s - 2) (nI (pPut inp cal (pS1 cal s 10 yy xx) 10 a yy xx))) 41 8 (nI (pDe s - 2 + 1)) 41 13 = nI (pAt s + 1) := by rw [sup_s, pk_un (by decide), sup_n (by decide)]; exact hnB
      refine ew_iload_n g qd_M_act_399 rfl ?_
      refine ew_bipush g qd_M_act_400 bp_22 ?_
      refine en_ne g qd_M_act_402 (tgt := 407) (by decide) (by decide) (by decide) (fun h => ?_) (fun h => ?_)
      rotate_left
      · exact absurd h (by decide)
      refine ew_iload_n g qd_M_act_407 rfl ?_
      refine ew_bipush g qd_M_act_408 bp_23 ?_
      refine en_ne g qd_M_act_410 (tgt := 415) (by decide) (by decide) (by decide) (fun h => ?_) (fun h => ?_)
      rotate_left
      · exact absurd h (by decide)
      refine ew_iload_n g qd_M_act_415 rfl ?_
      refine ew_bipush g qd_M_act_416 bp_23 ?_
      refine en_gt g qd_M_act_418 (tgt := 423) (by decide) (by decide) (by decide) (fun h => ?_) (fun h => ?_)
      · exact absurd h (by decide)
      refine ew_iconst g qd_M_act_421 ic_5 ?_
      refine ew_iret g qd_M_act_422 hp ?_
      refine ⟨pPush (pSB s 10 yy xx) (pPut inp cal (pS1 cal s 10 yy xx) 10 a yy xx), pAt s + 1, pHo s, by rw [hho], hm3, hn3, (by omega), (by (try rw [ex]); (try rw [ey]); rfl), hfr3⟩
    · have ex : xx = pUn s 0 := hxx.symm
      have ey : yy = pUn s 1 := hyy.symm
      have ec : cp = 0 := hcp.symm
      have et : oTake 11 = 2 := rfl
      have ep : oPuts 11 = 1 := rfl
      rw [et] at hdB f2 f3
      rw [ep] at f3
      refine ew_tswI g qd_M_act_129 (off := 247) (tgt := 376) (by decide +kernel) (by decide +kernel) (by decide +kernel) (by decide) ?_
      refine ew_iload_n g qd_M_act_376 rfl ?_
      refine ew_bipush g qd_M_act_377 bp_6 ?_
      refine en_lt g qd_M_act_379 (tgt := 399) (by decide) (by decide) (by decide) (fun h => ?_) (fun h => ?_)
      · exact absurd h (by decide)
      refine ew_iload_n g qd_M_act_382 rfl ?_
      refine ew_bipush g qd_M_act_383 bp_12 ?_
      refine en_gt g qd_M_act_385 (tgt := 399) (by decide) (by decide) (by decide) (fun h => ?_) (fun h => ?_)
      · exact absurd h (by decide)
      refine ew_aload_n g qd_M_act_388 rfl ?_
      refine ew_iload_n g qd_M_act_389 rfl ?_
      refine ew_iload g qd_M_act_390 rfl ?_
      refine ew_iload_n g qd_M_act_392 rfl ?_
      refine ew_callS g qd_M_act_393 (k_M_worked w k.2.1 sgB inp cal (pS1 cal s 11 yy xx) a (by decide) (by decide) lx ly) qs_M_130 rfl rfl (Nat.le_of_ble_eq_true rfl) ⟨rfl, rfl, by decide, by decide⟩ (fun v sg1 hv => ?_)
      obtain ⟨rfl, rfl⟩ := hv
      have hpl := pPut_lt (inp := inp) (cal := cal) (o := 11) (a := a) (y := yy) (x := xx) (pS1_ok (cal := cal) (o := 11) (y := yy) (x := xx) hs (by omega)) h9.2 h10.2 ha16 ly lx
      have hd6o : pDe s - 2 < 6 := by omega
      refine ew_callV g qd_M_act_396 (k_M_give w k.2.1 sg1 (nI (pPut inp cal (pS1 cal s 11 yy xx) 11 a yy xx)) (d := pDe s - 2) hdB (by omega)) qv_M_112 (by decide) rfl ⟨_, _, rfl⟩ rfl rfl (Nat.le_of_ble_eq_true rfl) ⟨rfl, rfl, by decide, by decide⟩ (fun v sg2 hv => ?_)
      obtain ⟨rfl, rfl⟩ := hv
      have hm3 := mM_push (v := (pPut inp cal (pS1 cal s 11 yy xx) 11 a yy xx)) hmB hpl (by show pDe s - oTake 11 < 6; rw [et]; omega)
      have hfr3 := hfrB.tr ((mFr_a (sg := sg1) (o := 46) (i := pDe s - 2) (x := nI (pPut inp cal (pS1 cal s 11 yy xx) 11 a yy xx)) (by decide)).tr (mFr_f (i := 8) (x := nI (pDe s - 2 + 1)) (by decide)))
      have hn3 : sup (sup sg1 46 (pDe s - 2) (nI (pPut inp cal (pS1 cal s 11 yy xx) 11 a yy xx))) 41 8 (nI (pDe s - 2 + 1)) 41 13 = nI (pAt s + 1) := by rw [sup_s, pk_un (by decide), sup_n (by decide)]; exact hnB
      refine ew_iload_n g qd_M_act_399 rfl ?_
      refine ew_bipush g qd_M_act_400 bp_22 ?_
      refine en_ne g qd_M_act_402 (tgt := 407) (by decide) (by decide) (by decide) (fun h => ?_) (fun h => ?_)
      rotate_left
      · exact absurd h (by decide)
      refine ew_iload_n g qd_M_act_407 rfl ?_
      refine ew_bipush g qd_M_act_408 bp_23 ?_
      refine en_ne g qd_M_act_410 (tgt := 415) (by decide) (by decide) (by decide) (fun h => ?_) (fun h => ?_)
      rotate_left
      · exact absurd h (by decide)
      refine ew_iload_n g qd_M_act_415 rfl ?_
      refine ew_bipush g qd_M_act_416 bp_23 ?_
      refine en_gt g qd_M_act_418 (tgt := 423) (by decide) (by decide) (by decide) (fun h => ?_) (fun h => ?_)
      · exact absurd h (by decide)
      refine ew_iconst g qd_M_act_421 ic_5 ?_
      refine ew_iret g qd_M_act_422 hp ?_
      refine ⟨pPush (pSB s 11 yy xx) (pPut inp cal (pS1 cal s 11 yy xx) 11 a yy xx), pAt s + 1, pHo s, by rw [hho], hm3, hn3, (by omega), (by (try rw [ex]); (try rw [ey]); rfl), hfr3⟩
    · have ex : xx = pUn s 0 := hxx.symm
      have ey : yy = pUn s 1 := hyy.symm
      have ec : cp = 0 := hcp.symm
      have et : oTake 12 = 2 := rfl
      have ep : oPuts 12 = 1 := rfl
      rw [et] at hdB f2 f3
      rw [ep] at f3
      refine ew_tswI g qd_M_act_129 (off := 247) (tgt := 376) (by decide +kernel) (by decide +kernel) (by decide +kernel) (by decide) ?_
      refine ew_iload_n g qd_M_act_376 rfl ?_
      refine ew_bipush g qd_M_act_377 bp_6 ?_
      refine en_lt g qd_M_act_379 (tgt := 399) (by decide) (by decide) (by decide) (fun h => ?_) (fun h => ?_)
      · exact absurd h (by decide)
      refine ew_iload_n g qd_M_act_382 rfl ?_
      refine ew_bipush g qd_M_act_383 bp_12 ?_
      refine en_gt g qd_M_act_385 (tgt := 399) (by decide) (by decide) (by decide) (fun h => ?_) (fun h => ?_)
      · exact absurd h (by decide)
      refine ew_aload_n g qd_M_act_388 rfl ?_
      refine ew_iload_n g qd_M_act_389 rfl ?_
      refine ew_iload g qd_M_act_390 rfl ?_
      refine ew_iload_n g qd_M_act_392 rfl ?_
      refine ew_callS g qd_M_act_393 (k_M_worked w k.2.1 sgB inp cal (pS1 cal s 12 yy xx) a (by decide) (by decide) lx ly) qs_M_130 rfl rfl (Nat.le_of_ble_eq_true rfl) ⟨rfl, rfl, by decide, by decide⟩ (fun v sg1 hv => ?_)
      obtain ⟨rfl, rfl⟩ := hv
      have hpl := pPut_lt (inp := inp) (cal := cal) (o := 12) (a := a) (y := yy) (x := xx) (pS1_ok (cal := cal) (o := 12) (y := yy) (x := xx) hs (by omega)) h9.2 h10.2 ha16 ly lx
      have hd6o : pDe s - 2 < 6 := by omega
      refine ew_callV g qd_M_act_396 (k_M_give w k.2.1 sg1 (nI (pPut inp cal (pS1 cal s 12 yy xx) 12 a yy xx)) (d := pDe s - 2) hdB (by omega)) qv_M_112 (by decide) rfl ⟨_, _, rfl⟩ rfl rfl (Nat.le_of_ble_eq_true rfl) ⟨rfl, rfl, by decide, by decide⟩ (fun v sg2 hv => ?_)
      obtain ⟨rfl, rfl⟩ := hv
      have hm3 := mM_push (v := (pPut inp cal (pS1 cal s 12 yy xx) 12 a yy xx)) hmB hpl (by show pDe s - oTake 12 < 6; rw [et]; omega)
      have hfr3 := hfrB.tr ((mFr_a (sg := sg1) (o := 46) (i := pDe s - 2) (x := nI (pPut inp cal (pS1 cal s 12 yy xx) 12 a yy xx)) (by decide)).tr (mFr_f (i := 8) (x := nI (pDe s - 2 + 1)) (by decide)))
      have hn3 : sup (sup sg1 46 (pDe s - 2) (nI (pPut inp cal (pS1 cal s 12 yy xx) 12 a yy xx))) 41 8 (nI (pDe s - 2 + 1)) 41 13 = nI (pAt s + 1) := by rw [sup_s, pk_un (by decide), sup_n (by decide)]; exact hnB
      refine ew_iload_n g qd_M_act_399 rfl ?_
      refine ew_bipush g qd_M_act_400 bp_22 ?_
      refine en_ne g qd_M_act_402 (tgt := 407) (by decide) (by decide) (by decide) (fun h => ?_) (fun h => ?_)
      rotate_left
      · exact absurd h (by decide)
      refine ew_iload_n g qd_M_act_407 rfl ?_
      refine ew_bipush g qd_M_act_408 bp_23 ?_
      refine en_ne g qd_M_act_410 (tgt := 415) (by decide) (by decide) (by decide) (fun h => ?_) (fun h => ?_)
      rotate_left
      · exact absurd h (by decide)
      refine ew_iload_n g qd_M_act_415 rfl ?_
      refine ew_bipush g qd_M_act_416 bp_23 ?_
      refine en_gt g qd_M_act_418 (tgt := 423) (by decide) (by decide) (by decide) (fun h => ?_) (fun h => ?_)
      · exact absurd h (by decide)
      refine ew_iconst g qd_M_act_421 ic_5 ?_
      refine ew_iret g qd_M_act_422 hp ?_
      refine ⟨pPush (pSB s 12 yy xx) (pPut inp cal (pS1 cal s 12 yy xx) 12 a yy xx), pAt s + 1, pHo s, by rw [hho], hm3, hn3, (by omega), (by (try rw [ex]); (try rw [ey]); rfl), hfr3⟩
    · have ex : xx = pUn s 0 := hxx.symm
      have ey : yy = 0 := hyy.symm
      have ec : cp = 0 := hcp.symm
      have et : oTake 13 = 1 := rfl
      have ep : oPuts 13 = 1 := rfl
      rw [et] at hdB f2 f3
      rw [ep] at f3
      refine ew_tswI g qd_M_act_129 (off := 146) (tgt := 275) (by decide +kernel) (by decide +kernel) (by decide +kernel) (by decide) ?_
      refine ew_aload_n g qd_M_act_275 rfl ?_
      refine ew_iload_n g qd_M_act_276 rfl ?_
      refine en_if_ne g qd_M_act_277 (tgt := 284) (by decide) (by omega) (fun hz => ?_) (fun hz => ?_)
      · refine ew_iconst g qd_M_act_284 ic_0 ?_
        refine ew_callV g qd_M_act_285 (k_M_give w k.2.1 sgB (nI 0) (d := pDe s - 1) hdB (by omega)) qv_M_112 (by decide) rfl ⟨_, _, rfl⟩ rfl rfl (Nat.le_of_ble_eq_true rfl) ⟨rfl, rfl, by decide, by decide⟩ (fun v sg1 hv => ?_)
        obtain ⟨rfl, rfl⟩ := hv
        have hm3 := mM_push (v := 0) hmB (by decide) (by show pDe s - oTake 13 < 6; rw [et]; omega)
        have hfr3 := hfrB.tr ((mFr_a (sg := sgB) (o := 46) (i := pDe s - 1) (x := nI 0) (by decide)).tr (mFr_f (i := 8) (x := nI (pDe s - 1 + 1)) (by decide)))
        have hn3 : sup (sup sgB 46 (pDe s - 1) (nI 0)) 41 8 (nI (pDe s - 1 + 1)) 41 13 = nI (pAt s + 1) := by rw [sup_s, pk_un (by decide), sup_n (by decide)]; exact hnB
        refine ew_goto g qd_M_act_288 (tgt := 399) (by decide) ?_
        have hpv : pPut inp cal (pS1 cal s 13 (pUn s 1) (pUn s 0)) 13 a (pUn s 1) (pUn s 0) = 0 := by show (if pUn s 0 = 0 then 1 else 0) = 0; rw [if_neg (by rw [← ex]; exact hz)]
        refine ew_iload_n g qd_M_act_399 rfl ?_
        refine ew_bipush g qd_M_act_400 bp_22 ?_
        refine en_ne g qd_M_act_402 (tgt := 407) (by decide) (by decide) (by decide) (fun h => ?_) (fun h => ?_)
        rotate_left
        · exact absurd h (by decide)
        refine ew_iload_n g qd_M_act_407 rfl ?_
        refine ew_bipush g qd_M_act_408 bp_23 ?_
        refine en_ne g qd_M_act_410 (tgt := 415) (by decide) (by decide) (by decide) (fun h => ?_) (fun h => ?_)
        rotate_left
        · exact absurd h (by decide)
        refine ew_iload_n g qd_M_act_415 rfl ?_
        refine ew_bipush g qd_M_act_416 bp_23 ?_
        refine en_gt g qd_M_act_418 (tgt := 423) (by decide) (by decide) (by decide) (fun h => ?_) (fun h => ?_)
        · exact absurd h (by decide)
        refine ew_iconst g qd_M_act_421 ic_5 ?_
        refine ew_iret g qd_M_act_422 hp ?_
        refine ⟨pPush (pSB s 13 yy xx) 0, pAt s + 1, pHo s, by rw [hho], hm3, hn3, (by omega), (by show pPush (pSnd (pS1 cal s 13 (pUn s 1) (pUn s 0)) 13 (pUn s 0)) (pPut inp cal (pS1 cal s 13 (pUn s 1) (pUn s 0)) 13 a (pUn s 1) (pUn s 0)) = _; rw [hpv]; (try rw [ex]); (try rw [ey]); rfl), hfr3⟩
      · refine ew_iconst g qd_M_act_280 ic_1 ?_
        refine ew_goto g qd_M_act_281 (tgt := 285) (by decide) ?_
        refine ew_callV g qd_M_act_285 (k_M_give w k.2.1 sgB (nI 1) (d := pDe s - 1) hdB (by omega)) qv_M_112 (by decide) rfl ⟨_, _, rfl⟩ rfl rfl (Nat.le_of_ble_eq_true rfl) ⟨rfl, rfl, by decide, by decide⟩ (fun v sg1 hv => ?_)
        obtain ⟨rfl, rfl⟩ := hv
        have hm3 := mM_push (v := 1) hmB (by decide) (by show pDe s - oTake 13 < 6; rw [et]; omega)
        have hfr3 := hfrB.tr ((mFr_a (sg := sgB) (o := 46) (i := pDe s - 1) (x := nI 1) (by decide)).tr (mFr_f (i := 8) (x := nI (pDe s - 1 + 1)) (by decide)))
        have hn3 : sup (sup sgB 46 (pDe s - 1) (nI 1)) 41 8 (nI (pDe s - 1 + 1)) 41 13 = nI (pAt s + 1) := by rw [sup_s, pk_un (by decide), sup_n (by decide)]; exact hnB
        refine ew_goto g qd_M_act_288 (tgt := 399) (by decide) ?_
        have hpv : pPut inp cal (pS1 cal s 13 (pUn s 1) (pUn s 0)) 13 a (pUn s 1) (pUn s 0) = 1 := by show (if pUn s 0 = 0 then 1 else 0) = 1; rw [if_pos (by rw [← ex]; exact hz)]
        refine ew_iload_n g qd_M_act_399 rfl ?_
        refine ew_bipush g qd_M_act_400 bp_22 ?_
        refine en_ne g qd_M_act_402 (tgt := 407) (by decide) (by decide) (by decide) (fun h => ?_) (fun h => ?_)
        rotate_left
        · exact absurd h (by decide)
        refine ew_iload_n g qd_M_act_407 rfl ?_
        refine ew_bipush g qd_M_act_408 bp_23 ?_
        refine en_ne g qd_M_act_410 (tgt := 415) (by decide) (by decide) (by decide) (fun h => ?_) (fun h => ?_)
        rotate_left
        · exact absurd h (by decide)
        refine ew_iload_n g qd_M_act_415 rfl ?_
        refine ew_bipush g qd_M_act_416 bp_23 ?_
        refine en_gt g qd_M_act_418 (tgt := 423) (by decide) (by decide) (by decide) (fun h => ?_) (fun h => ?_)
        · exact absurd h (by decide)
        refine ew_iconst g qd_M_act_421 ic_5 ?_
        refine ew_iret g qd_M_act_422 hp ?_
        refine ⟨pPush (pSB s 13 yy xx) 1, pAt s + 1, pHo s, by rw [hho], hm3, hn3, (by omega), (by show pPush (pSnd (pS1 cal s 13 (pUn s 1) (pUn s 0)) 13 (pUn s 0)) (pPut inp cal (pS1 cal s 13 (pUn s 1) (pUn s 0)) 13 a (pUn s 1) (pUn s 0)) = _; rw [hpv]; (try rw [ex]); (try rw [ey]); rfl), hfr3⟩
    · have ex : xx = pUn s 0 := hxx.symm
      have ey : yy = 0 := hyy.symm
      have ec : cp = 0 := hcp.symm
      have et : oTake 14 = 1 := rfl
      have ep : oPuts 14 = 1 := rfl
      rw [et] at hdB f2 f3
      rw [ep] at f3
      refine ew_tswI g qd_M_act_129 (off := 162) (tgt := 291) (by decide +kernel) (by decide +kernel) (by decide +kernel) (by decide) ?_
      refine ew_aload_n g qd_M_act_291 rfl ?_
      refine ew_aload_n g qd_M_act_292 rfl ?_
      refine ew_getR g qd_M_act_293 qf_M_20 (by decide) rfl rfl ?_
      refine ew_iload_n g qd_M_act_296 rfl ?_
      refine ew_iconst g qd_M_act_297 ic_4 ?_
      refine ew_irem g qd_M_act_298 (by decide +kernel) ?_
      refine en_top (pk_rem (by omega) (by omega) (by omega)) ?_
      refine en_iald g qd_M_act_299 (by decide) rfl (by omega) (by omega) (show _ = nI (pCe s (xx % 4)) from hmB.2.2.2.1 _ (by omega)) ?_
      refine ew_callV g qd_M_act_300 (k_M_give w k.2.1 sgB (nI (pCe s (xx % 4))) (d := pDe s - 1) hdB (by omega)) qv_M_112 (by decide) rfl ⟨_, _, rfl⟩ rfl rfl (Nat.le_of_ble_eq_true rfl) ⟨rfl, rfl, by decide, by decide⟩ (fun v sg1 hv => ?_)
      obtain ⟨rfl, rfl⟩ := hv
      have hm3 := mM_push (v := (pCe s (xx % 4))) hmB (hs.2.2.1 _ (by omega)) (by show pDe s - oTake 14 < 6; rw [et]; omega)
      have hfr3 := hfrB.tr ((mFr_a (sg := sgB) (o := 46) (i := pDe s - 1) (x := nI (pCe s (xx % 4))) (by decide)).tr (mFr_f (i := 8) (x := nI (pDe s - 1 + 1)) (by decide)))
      have hn3 : sup (sup sgB 46 (pDe s - 1) (nI (pCe s (xx % 4)))) 41 8 (nI (pDe s - 1 + 1)) 41 13 = nI (pAt s + 1) := by rw [sup_s, pk_un (by decide), sup_n (by decide)]; exact hnB
      refine ew_goto g qd_M_act_303 (tgt := 399) (by decide) ?_
      refine ew_iload_n g qd_M_act_399 rfl ?_
      refine ew_bipush g qd_M_act_400 bp_22 ?_
      refine en_ne g qd_M_act_402 (tgt := 407) (by decide) (by decide) (by decide) (fun h => ?_) (fun h => ?_)
      rotate_left
      · exact absurd h (by decide)
      refine ew_iload_n g qd_M_act_407 rfl ?_
      refine ew_bipush g qd_M_act_408 bp_23 ?_
      refine en_ne g qd_M_act_410 (tgt := 415) (by decide) (by decide) (by decide) (fun h => ?_) (fun h => ?_)
      rotate_left
      · exact absurd h (by decide)
      refine ew_iload_n g qd_M_act_415 rfl ?_
      refine ew_bipush g qd_M_act_416 bp_23 ?_
      refine en_gt g qd_M_act_418 (tgt := 423) (by decide) (by decide) (by decide) (fun h => ?_) (fun h => ?_)
      · exact absurd h (by decide)
      refine ew_iconst g qd_M_act_421 ic_5 ?_
      refine ew_iret g qd_M_act_422 hp ?_
      refine ⟨pPush (pSB s 14 yy xx) (pCe s (xx % 4)), pAt s + 1, pHo s, by rw [hho], hm3, hn3, (by omega), (by (try rw [ex]); (try rw [ey]); (try rw [ec]); rfl), hfr3⟩
    · have ex : xx = pUn s 0 := hxx.symm
      have ey : yy = pUn s 1 := hyy.symm
      have ec : cp = 0 := hcp.symm
      have et : oTake 15 = 2 := rfl
      have ep : oPuts 15 = 0 := rfl
      rw [et] at hdB f2 f3
      rw [ep] at f3
      refine ew_tswI g qd_M_act_129 (off := 177) (tgt := 306) (by decide +kernel) (by decide +kernel) (by decide +kernel) (by decide) ?_
      refine ew_aload_n g qd_M_act_306 rfl ?_
      refine ew_getR g qd_M_act_307 qf_M_20 (by decide) rfl rfl ?_
      refine ew_iload_n g qd_M_act_310 rfl ?_
      refine ew_iconst g qd_M_act_311 ic_4 ?_
      refine ew_irem g qd_M_act_312 (by decide +kernel) ?_
      refine en_top (pk_rem (by omega) (by omega) (by omega)) ?_
      refine ew_iload g qd_M_act_313 rfl ?_
      refine en_iast g qd_M_act_315 (by decide) rfl (by omega) (by omega) ?_
      refine ew_goto g qd_M_act_316 (tgt := 399) (by decide) ?_
      have hm3 := mM_cel (i := xx % 4) hmB ly
      have hfr3 := hfrB.tr (mFr_a (sg := sgB) (o := 44) (i := xx % 4) (x := nI yy) (by decide))
      have hn3 : sup sgB 44 (xx % 4) (nI yy) 41 13 = nI (pAt s + 1) := by rw [sup_n (by decide)]; exact hnB
      refine ew_iload_n g qd_M_act_399 rfl ?_
      refine ew_bipush g qd_M_act_400 bp_22 ?_
      refine en_ne g qd_M_act_402 (tgt := 407) (by decide) (by decide) (by decide) (fun h => ?_) (fun h => ?_)
      rotate_left
      · exact absurd h (by decide)
      refine ew_iload_n g qd_M_act_407 rfl ?_
      refine ew_bipush g qd_M_act_408 bp_23 ?_
      refine en_ne g qd_M_act_410 (tgt := 415) (by decide) (by decide) (by decide) (fun h => ?_) (fun h => ?_)
      rotate_left
      · exact absurd h (by decide)
      refine ew_iload_n g qd_M_act_415 rfl ?_
      refine ew_bipush g qd_M_act_416 bp_23 ?_
      refine en_gt g qd_M_act_418 (tgt := 423) (by decide) (by decide) (by decide) (fun h => ?_) (fun h => ?_)
      · exact absurd h (by decide)
      refine ew_iconst g qd_M_act_421 ic_5 ?_
      refine ew_iret g qd_M_act_422 hp ?_
      refine ⟨pCel (pSB s 15 yy xx) (nup (pCe s) (xx % 4) yy), pAt s + 1, pHo s, by rw [hho], hm3, hn3, (by omega), (by (try rw [ex]); (try rw [ey]); rfl), hfr3⟩
    · have ex : xx = 0 := hxx.symm
      have ey : yy = 0 := hyy.symm
      have ec : cp = 0 := hcp.symm
      have et : oTake 16 = 0 := rfl
      have ep : oPuts 16 = 0 := rfl
      rw [et] at hdB f2 f3
      rw [ep] at f3
      refine ew_tswI g qd_M_act_129 (off := 247) (tgt := 376) (by decide +kernel) (by decide +kernel) (by decide +kernel) (by decide) ?_
      refine ew_iload_n g qd_M_act_376 rfl ?_
      refine ew_bipush g qd_M_act_377 bp_6 ?_
      refine en_lt g qd_M_act_379 (tgt := 399) (by decide) (by decide) (by decide) (fun h => ?_) (fun h => ?_)
      · exact absurd h (by decide)
      refine ew_iload_n g qd_M_act_382 rfl ?_
      refine ew_bipush g qd_M_act_383 bp_12 ?_
      refine en_gt g qd_M_act_385 (tgt := 399) (by decide) (by decide) (by decide) (fun h => ?_) (fun h => ?_)
      rotate_left
      · exact absurd h (by decide)
      refine ew_iload_n g qd_M_act_399 rfl ?_
      refine ew_bipush g qd_M_act_400 bp_22 ?_
      refine en_ne g qd_M_act_402 (tgt := 407) (by decide) (by decide) (by decide) (fun h => ?_) (fun h => ?_)
      rotate_left
      · exact absurd h (by decide)
      refine ew_iload_n g qd_M_act_407 rfl ?_
      refine ew_bipush g qd_M_act_408 bp_23 ?_
      refine en_ne g qd_M_act_410 (tgt := 415) (by decide) (by decide) (by decide) (fun h => ?_) (fun h => ?_)
      rotate_left
      · exact absurd h (by decide)
      refine ew_iload_n g qd_M_act_415 rfl ?_
      refine ew_bipush g qd_M_act_416 bp_23 ?_
      refine en_gt g qd_M_act_418 (tgt := 423) (by decide) (by decide) (by decide) (fun h => ?_) (fun h => ?_)
      · exact absurd h (by decide)
      refine ew_iconst g qd_M_act_421 ic_5 ?_
      refine ew_iret g qd_M_act_422 hp ?_
      refine ⟨pSB s 16 yy xx, pAt s + 1, pHo s, by rw [hho], hmB, hnB, (by omega), (by (try rw [ex]); (try rw [ey]); rfl), hfrB⟩
    · have ex : xx = pUn s 0 := hxx.symm
      have ey : yy = 0 := hyy.symm
      have ec : cp = 0 := hcp.symm
      have et : oTake 17 = 1 := rfl
      have ep : oPuts 17 = 0 := rfl
      rw [et] at hdB f2 f3
      rw [ep] at f3
      refine ew_tswI g qd_M_act_129 (off := 190) (tgt := 319) (by decide +kernel) (by decide +kernel) (by decide +kernel) (by decide) ?_
      have hsm := f6 rfl
      have hgd := getD_lt (cd := cd) (a := pUn s 0) hcd
      have emk : mkI cd xx = nI ((mkAt cd (pUn s 0)).getD 0) := by rw [ex]; unfold mkI; cases hq : mkAt cd (pUn s 0) with | none => (rw [hq] at hsm; cases hsm) | some kk => rfl
      refine ew_aload_n g qd_M_act_319 rfl ?_
      refine ew_aload_n g qd_M_act_320 rfl ?_
      refine ew_iload_n g qd_M_act_321 rfl ?_
      refine ew_callV g qd_M_act_322 (k_M_markOf w k.2.1 sgB hcB lx) qv_M_97 (by decide) rfl ⟨_, _, rfl⟩ rfl rfl (Nat.le_of_ble_eq_true rfl) ⟨rfl, rfl, by decide, by decide⟩ (fun v sg1 hv => ?_)
      obtain ⟨rfl, rfl⟩ := hv
      refine en_top emk ?_
      refine ew_put g qd_M_act_325 qf_M_124 (qp_M_next _) (by decide) rfl rfl ?_
      refine ew_goto g qd_M_act_328 (tgt := 399) (by decide) ?_
      have hm3 := mM_f13 (x := nI ((mkAt cd (pUn s 0)).getD 0)) hmB
      have hfr3 := hfrB.tr (mFr_f (i := 13) (x := nI ((mkAt cd (pUn s 0)).getD 0)) (by decide))
      refine ew_iload_n g qd_M_act_399 rfl ?_
      refine ew_bipush g qd_M_act_400 bp_22 ?_
      refine en_ne g qd_M_act_402 (tgt := 407) (by decide) (by decide) (by decide) (fun h => ?_) (fun h => ?_)
      rotate_left
      · exact absurd h (by decide)
      refine ew_iload_n g qd_M_act_407 rfl ?_
      refine ew_bipush g qd_M_act_408 bp_23 ?_
      refine en_ne g qd_M_act_410 (tgt := 415) (by decide) (by decide) (by decide) (fun h => ?_) (fun h => ?_)
      rotate_left
      · exact absurd h (by decide)
      refine ew_iload_n g qd_M_act_415 rfl ?_
      refine ew_bipush g qd_M_act_416 bp_23 ?_
      refine en_gt g qd_M_act_418 (tgt := 423) (by decide) (by decide) (by decide) (fun h => ?_) (fun h => ?_)
      · exact absurd h (by decide)
      refine ew_iconst g qd_M_act_421 ic_5 ?_
      refine ew_iret g qd_M_act_422 hp ?_
      refine ⟨pSB s 17 yy xx, (mkAt cd (pUn s 0)).getD 0, pHo s, by rw [hho], hm3, by rw [sup_s, pk_us], hgd, (by (try rw [ex]); (try rw [ey]); rfl), hfr3⟩
    · have ex : xx = pUn s 0 := hxx.symm
      have ey : yy = pUn s 1 := hyy.symm
      have ec : cp = 0 := hcp.symm
      have et : oTake 18 = 2 := rfl
      have ep : oPuts 18 = 0 := rfl
      rw [et] at hdB f2 f3
      rw [ep] at f3
      refine ew_tswI g qd_M_act_129 (off := 202) (tgt := 331) (by decide +kernel) (by decide +kernel) (by decide +kernel) (by decide) ?_
      have hgd := getD_lt (cd := cd) (a := pUn s 0) hcd
      refine ew_aload_n g qd_M_act_331 rfl ?_
      refine ew_iload g qd_M_act_332 rfl ?_
      refine en_if_eq g qd_M_act_334 (tgt := 345) (by decide) (by omega) (fun hz => ?_) (fun hz => ?_)
      · refine ew_aload_n g qd_M_act_345 rfl ?_
        refine ew_get g qd_M_act_346 qf_M_124 (by decide) rfl rfl ?_
        refine en_top hnB ?_
        refine ew_put g qd_M_act_349 qf_M_124 (qp_M_next _) (by decide) rfl rfl ?_
        refine ew_goto g qd_M_act_352 (tgt := 399) (by decide) ?_
        have hm3 := mM_f13 (x := nI (pAt s + 1)) hmB
        have hfr3 := hfrB.tr (mFr_f (i := 13) (x := nI (pAt s + 1)) (by decide))
        have hdo : pDo cd inp cal s 18 a (pUn s 1) (pUn s 0) = pS1 cal s 18 (pUn s 1) (pUn s 0) := by show (if pUn s 1 ≠ 0 then _ else _) = _; rw [if_neg (fun q => q (by rw [← ey]; exact hz))]
        refine ew_iload_n g qd_M_act_399 rfl ?_
        refine ew_bipush g qd_M_act_400 bp_22 ?_
        refine en_ne g qd_M_act_402 (tgt := 407) (by decide) (by decide) (by decide) (fun h => ?_) (fun h => ?_)
        rotate_left
        · exact absurd h (by decide)
        refine ew_iload_n g qd_M_act_407 rfl ?_
        refine ew_bipush g qd_M_act_408 bp_23 ?_
        refine en_ne g qd_M_act_410 (tgt := 415) (by decide) (by decide) (by decide) (fun h => ?_) (fun h => ?_)
        rotate_left
        · exact absurd h (by decide)
        refine ew_iload_n g qd_M_act_415 rfl ?_
        refine ew_bipush g qd_M_act_416 bp_23 ?_
        refine en_gt g qd_M_act_418 (tgt := 423) (by decide) (by decide) (by decide) (fun h => ?_) (fun h => ?_)
        · exact absurd h (by decide)
        refine ew_iconst g qd_M_act_421 ic_5 ?_
        refine ew_iret g qd_M_act_422 hp ?_
        refine ⟨pSB s 18 yy xx, pAt s + 1, pHo s, by rw [hho], hm3, by rw [sup_s, pk_us], (by omega), (by rw [hdo]; (try rw [ex]); (try rw [ey]); rfl), hfr3⟩
      · have hsm := f7 rfl (by rw [← ey]; exact hz)
        have emk : mkI cd xx = nI ((mkAt cd (pUn s 0)).getD 0) := by rw [ex]; unfold mkI; cases hq : mkAt cd (pUn s 0) with | none => (rw [hq] at hsm; cases hsm) | some kk => rfl
        refine ew_aload_n g qd_M_act_337 rfl ?_
        refine ew_iload_n g qd_M_act_338 rfl ?_
        refine ew_callV g qd_M_act_339 (k_M_markOf w k.2.1 sgB hcB lx) qv_M_97 (by decide) rfl ⟨_, _, rfl⟩ rfl rfl (Nat.le_of_ble_eq_true rfl) ⟨rfl, rfl, by decide, by decide⟩ (fun v sg1 hv => ?_)
        obtain ⟨rfl, rfl⟩ := hv
        refine en_top emk ?_
        refine ew_goto g qd_M_act_342 (tgt := 349) (by decide) ?_
        refine ew_put g qd_M_act_349 qf_M_124 (qp_M_next _) (by decide) rfl rfl ?_
        refine ew_goto g qd_M_act_352 (tgt := 399) (by decide) ?_
        have hm3 := mM_f13 (x := nI ((mkAt cd (pUn s 0)).getD 0)) hmB
        have hfr3 := hfrB.tr (mFr_f (i := 13) (x := nI ((mkAt cd (pUn s 0)).getD 0)) (by decide))
        have hdo : pDo cd inp cal s 18 a (pUn s 1) (pUn s 0) = pJmp (pS1 cal s 18 (pUn s 1) (pUn s 0)) ((mkAt cd (pUn s 0)).getD 0) := by show (if pUn s 1 ≠ 0 then _ else _) = _; rw [if_pos (by rw [← ey]; exact hz)]
        refine ew_iload_n g qd_M_act_399 rfl ?_
        refine ew_bipush g qd_M_act_400 bp_22 ?_
        refine en_ne g qd_M_act_402 (tgt := 407) (by decide) (by decide) (by decide) (fun h => ?_) (fun h => ?_)
        rotate_left
        · exact absurd h (by decide)
        refine ew_iload_n g qd_M_act_407 rfl ?_
        refine ew_bipush g qd_M_act_408 bp_23 ?_
        refine en_ne g qd_M_act_410 (tgt := 415) (by decide) (by decide) (by decide) (fun h => ?_) (fun h => ?_)
        rotate_left
        · exact absurd h (by decide)
        refine ew_iload_n g qd_M_act_415 rfl ?_
        refine ew_bipush g qd_M_act_416 bp_23 ?_
        refine en_gt g qd_M_act_418 (tgt := 423) (by decide) (by decide) (by decide) (fun h => ?_) (fun h => ?_)
        · exact absurd h (by decide)
        refine ew_iconst g qd_M_act_421 ic_5 ?_
        refine ew_iret g qd_M_act_422 hp ?_
        refine ⟨pSB s 18 yy xx, (mkAt cd (pUn s 0)).getD 0, pHo s, by rw [hho], hm3, by rw [sup_s, pk_us], hgd, (by rw [hdo]; (try rw [ex]); (try rw [ey]); rfl), hfr3⟩
    · have ex : xx = pUn s 0 := hxx.symm
      have ey : yy = 0 := hyy.symm
      have ec : cp = 0 := hcp.symm
      have et : oTake 19 = 1 := rfl
      have ep : oPuts 19 = 1 := rfl
      rw [et] at hdB f2 f3
      rw [ep] at f3
      refine ew_tswI g qd_M_act_129 (off := 226) (tgt := 355) (by decide +kernel) (by decide +kernel) (by decide +kernel) (by decide) ?_
      have hc4 := hs.2.2.1 4 (by decide)
      refine ew_aload_n g qd_M_act_355 rfl ?_
      refine ew_iload_n g qd_M_act_356 rfl ?_
      refine ew_callV g qd_M_act_357 (k_M_send w k.2.1 sgB (c := pCe s 4) (d := pDe s - 1) (se := pSe s) (hmB.2.2.2.1 4 (by decide)) hc4 hmB.2.2.2.2.2.2.1 hdB (by omega) lx) qv_M_127 (by decide) rfl ⟨_, _, rfl⟩ rfl rfl (Nat.le_of_ble_eq_true rfl) ⟨rfl, rfl, by decide, by decide⟩ (fun v sg1 hv => ?_)
      obtain ⟨rfl, hv⟩ := hv
      rcases hv with ⟨hle, rfl⟩ | ⟨hlt, rfl⟩
      · have hm3 := mM_push (v := 1) (mM_f14 (d := true) (mM_cel (i := 4) (v := (pCe s 4 - xx)) hmB (by omega))) (by decide) (by show pDe s - oTake 19 < 6; rw [et]; omega)
        have hfr3 := hfrB.tr (((mFr_a (sg := sgB) (o := 44) (i := 4) (x := nI (pCe s 4 - xx)) (by decide)).tr (mFr_f (i := 14) (x := bI true) (by decide))).tr ((mFr_a (o := 46) (i := pDe s - 1) (x := nI 1) (by decide)).tr (mFr_f (i := 8) (x := nI (pDe s - 1 + 1)) (by decide))))
        have hn3 : sup (sup (sup (sup sgB 44 4 (nI (pCe s 4 - xx))) 41 14 (bI true)) 46 (pDe s - 1) (nI 1)) 41 8 (nI (pDe s - 1 + 1)) 41 13 = nI (pAt s + 1) := by rw [sup_s, pk_un (by decide), sup_n (by decide), sup_s, pk_un (by decide), sup_n (by decide)]; exact hnB
        refine ew_goto g qd_M_act_360 (tgt := 399) (by decide) ?_
        have hle0 : pUn s 0 ≤ pCe s 4 := by rw [← ex]; exact hle
        have hdo : pDo cd inp cal s 19 a (pUn s 1) (pUn s 0) = pPush (pAt s + 1, pDe s - oTake 19, pGa s - oCost 19, pSt s, nup (pCe s) 4 (pCe s 4 - pUn s 0), true, pLook cal s 19 (pUn s 1) (pUn s 0), pHo s, pWa s) 1 := by
          show pPush (pSnd (pS1 cal s 19 (pUn s 1) (pUn s 0)) 19 (pUn s 0)) (if pUn s 0 ≤ pCe s 4 then 1 else 0) = _
          rw [if_pos hle0]
          unfold pSnd
          rw [if_pos ⟨rfl, hle0⟩]
          rfl
        refine ew_iload_n g qd_M_act_399 rfl ?_
        refine ew_bipush g qd_M_act_400 bp_22 ?_
        refine en_ne g qd_M_act_402 (tgt := 407) (by decide) (by decide) (by decide) (fun h => ?_) (fun h => ?_)
        rotate_left
        · exact absurd h (by decide)
        refine ew_iload_n g qd_M_act_407 rfl ?_
        refine ew_bipush g qd_M_act_408 bp_23 ?_
        refine en_ne g qd_M_act_410 (tgt := 415) (by decide) (by decide) (by decide) (fun h => ?_) (fun h => ?_)
        rotate_left
        · exact absurd h (by decide)
        refine ew_iload_n g qd_M_act_415 rfl ?_
        refine ew_bipush g qd_M_act_416 bp_23 ?_
        refine en_gt g qd_M_act_418 (tgt := 423) (by decide) (by decide) (by decide) (fun h => ?_) (fun h => ?_)
        · exact absurd h (by decide)
        refine ew_iconst g qd_M_act_421 ic_5 ?_
        refine ew_iret g qd_M_act_422 hp ?_
        refine ⟨_, pAt s + 1, pHo s, by rw [hho], hm3, hn3, (by omega), (by rw [hdo]; (try rw [ex]); (try rw [ey]); rfl), hfr3⟩
      · have hm3 := mM_push (v := 0) (mM_f14 (d := (pSe s)) (mM_cel (i := 4) (v := (pCe s 4)) hmB (by omega))) (by decide) (by show pDe s - oTake 19 < 6; rw [et]; omega)
        have hfr3 := hfrB.tr (((mFr_a (sg := sgB) (o := 44) (i := 4) (x := nI (pCe s 4)) (by decide)).tr (mFr_f (i := 14) (x := bI (pSe s)) (by decide))).tr ((mFr_a (o := 46) (i := pDe s - 1) (x := nI 0) (by decide)).tr (mFr_f (i := 8) (x := nI (pDe s - 1 + 1)) (by decide))))
        have hn3 : sup (sup (sup (sup sgB 44 4 (nI (pCe s 4))) 41 14 (bI (pSe s))) 46 (pDe s - 1) (nI 0)) 41 8 (nI (pDe s - 1 + 1)) 41 13 = nI (pAt s + 1) := by rw [sup_s, pk_un (by decide), sup_n (by decide), sup_s, pk_un (by decide), sup_n (by decide)]; exact hnB
        refine ew_goto g qd_M_act_360 (tgt := 399) (by decide) ?_
        have hlt0 : pCe s 4 < pUn s 0 := by rw [← ex]; exact hlt
        have hnu : nup (pCe s) 4 (pCe s 4) = pCe s := by funext j; unfold nup; split; (next e => rw [e]); rfl
        have hdo : pDo cd inp cal s 19 a (pUn s 1) (pUn s 0) = pPush (pAt s + 1, pDe s - oTake 19, pGa s - oCost 19, pSt s, nup (pCe s) 4 (pCe s 4), pSe s, pLook cal s 19 (pUn s 1) (pUn s 0), pHo s, pWa s) 0 := by
          show pPush (pSnd (pS1 cal s 19 (pUn s 1) (pUn s 0)) 19 (pUn s 0)) (if pUn s 0 ≤ pCe s 4 then 1 else 0) = _
          rw [if_neg (by omega), hnu]
          unfold pSnd
          rw [if_neg (fun z => by have z2 : pUn s 0 ≤ pCe s 4 := z.2; omega)]
          rfl
        refine ew_iload_n g qd_M_act_399 rfl ?_
        refine ew_bipush g qd_M_act_400 bp_22 ?_
        refine en_ne g qd_M_act_402 (tgt := 407) (by decide) (by decide) (by decide) (fun h => ?_) (fun h => ?_)
        rotate_left
        · exact absurd h (by decide)
        refine ew_iload_n g qd_M_act_407 rfl ?_
        refine ew_bipush g qd_M_act_408 bp_23 ?_
        refine en_ne g qd_M_act_410 (tgt := 415) (by decide) (by decide) (by decide) (fun h => ?_) (fun h => ?_)
        rotate_left
        · exact absurd h (by decide)
        refine ew_iload_n g qd_M_act_415 rfl ?_
        refine ew_bipush g qd_M_act_416 bp_23 ?_
        refine en_gt g qd_M_act_418 (tgt := 423) (by decide) (by decide) (by decide) (fun h => ?_) (fun h => ?_)
        · exact absurd h (by decide)
        refine ew_iconst g qd_M_act_421 ic_5 ?_
        refine ew_iret g qd_M_act_422 hp ?_
        refine ⟨_, pAt s + 1, pHo s, by rw [hho], hm3, hn3, (by omega), (by rw [hdo]; (try rw [ex]); (try rw [ey]); rfl), hfr3⟩
    · have ex : xx = 0 := hxx.symm
      have ey : yy = 0 := hyy.symm
      have ec : cp = 0 := hcp.symm
      have et : oTake 20 = 0 := rfl
      have ep : oPuts 20 = 1 := rfl
      rw [et] at hdB f2 f3
      rw [ep] at f3
      refine ew_tswI g qd_M_act_129 (off := 234) (tgt := 363) (by decide +kernel) (by decide +kernel) (by decide +kernel) (by decide) ?_
      refine ew_aload_n g qd_M_act_363 rfl ?_
      refine ew_aload_n g qd_M_act_364 rfl ?_
      refine ew_getR g qd_M_act_365 qf_M_20 (by decide) rfl rfl ?_
      refine ew_iconst g qd_M_act_368 ic_4 ?_
      refine en_iald g qd_M_act_369 (by decide) rfl (by omega) (by omega) (show _ = nI (pCe s 4) from hmB.2.2.2.1 4 (by decide)) ?_
      refine ew_callV g qd_M_act_370 (k_M_give w k.2.1 sgB (nI (pCe s 4)) (d := pDe s - 0) hdB (by omega)) qv_M_112 (by decide) rfl ⟨_, _, rfl⟩ rfl rfl (Nat.le_of_ble_eq_true rfl) ⟨rfl, rfl, by decide, by decide⟩ (fun v sg1 hv => ?_)
      obtain ⟨rfl, rfl⟩ := hv
      have hm3 := mM_push (v := (pCe s 4)) hmB (hs.2.2.1 4 (by decide)) (by show pDe s - oTake 20 < 6; rw [et]; omega)
      have hfr3 := hfrB.tr ((mFr_a (sg := sgB) (o := 46) (i := pDe s - 0) (x := nI (pCe s 4)) (by decide)).tr (mFr_f (i := 8) (x := nI (pDe s - 0 + 1)) (by decide)))
      have hn3 : sup (sup sgB 46 (pDe s - 0) (nI (pCe s 4))) 41 8 (nI (pDe s - 0 + 1)) 41 13 = nI (pAt s + 1) := by rw [sup_s, pk_un (by decide), sup_n (by decide)]; exact hnB
      refine ew_goto g qd_M_act_373 (tgt := 399) (by decide) ?_
      refine ew_iload_n g qd_M_act_399 rfl ?_
      refine ew_bipush g qd_M_act_400 bp_22 ?_
      refine en_ne g qd_M_act_402 (tgt := 407) (by decide) (by decide) (by decide) (fun h => ?_) (fun h => ?_)
      rotate_left
      · exact absurd h (by decide)
      refine ew_iload_n g qd_M_act_407 rfl ?_
      refine ew_bipush g qd_M_act_408 bp_23 ?_
      refine en_ne g qd_M_act_410 (tgt := 415) (by decide) (by decide) (by decide) (fun h => ?_) (fun h => ?_)
      rotate_left
      · exact absurd h (by decide)
      refine ew_iload_n g qd_M_act_415 rfl ?_
      refine ew_bipush g qd_M_act_416 bp_23 ?_
      refine en_gt g qd_M_act_418 (tgt := 423) (by decide) (by decide) (by decide) (fun h => ?_) (fun h => ?_)
      · exact absurd h (by decide)
      refine ew_iconst g qd_M_act_421 ic_5 ?_
      refine ew_iret g qd_M_act_422 hp ?_
      refine ⟨pPush (pSB s 20 yy xx) (pCe s 4), pAt s + 1, pHo s, by rw [hho], hm3, hn3, (by omega), (by (try rw [ex]); (try rw [ey]); (try rw [ec]); rfl), hfr3⟩
    · have ex : xx = pUn s 0 := hxx.symm
      have ey : yy = 0 := hyy.symm
      have ec : cp = 0 := hcp.symm
      have et : oTake 21 = 1 := rfl
      have ep : oPuts 21 = 0 := rfl
      rw [et] at hdB f2 f3
      rw [ep] at f3
      refine ew_tswO g qd_M_act_129 (tgt := 376) (by decide +kernel) (by decide) ?_
      refine ew_iload_n g qd_M_act_376 rfl ?_
      refine ew_bipush g qd_M_act_377 bp_6 ?_
      refine en_lt g qd_M_act_379 (tgt := 399) (by decide) (by decide) (by decide) (fun h => ?_) (fun h => ?_)
      · exact absurd h (by decide)
      refine ew_iload_n g qd_M_act_382 rfl ?_
      refine ew_bipush g qd_M_act_383 bp_12 ?_
      refine en_gt g qd_M_act_385 (tgt := 399) (by decide) (by decide) (by decide) (fun h => ?_) (fun h => ?_)
      rotate_left
      · exact absurd h (by decide)
      refine ew_iload_n g qd_M_act_399 rfl ?_
      refine ew_bipush g qd_M_act_400 bp_22 ?_
      refine en_ne g qd_M_act_402 (tgt := 407) (by decide) (by decide) (by decide) (fun h => ?_) (fun h => ?_)
      rotate_left
      · exact absurd h (by decide)
      refine ew_iload_n g qd_M_act_407 rfl ?_
      refine ew_bipush g qd_M_act_408 bp_23 ?_
      refine en_ne g qd_M_act_410 (tgt := 415) (by decide) (by decide) (by decide) (fun h => ?_) (fun h => ?_)
      rotate_left
      · exact absurd h (by decide)
      refine ew_iload_n g qd_M_act_415 rfl ?_
      refine ew_bipush g qd_M_act_416 bp_23 ?_
      refine en_gt g qd_M_act_418 (tgt := 423) (by decide) (by decide) (by decide) (fun h => ?_) (fun h => ?_)
      · exact absurd h (by decide)
      refine ew_iconst g qd_M_act_421 ic_5 ?_
      refine ew_iret g qd_M_act_422 hp ?_
      refine ⟨pSB s 21 yy xx, pAt s + 1, pHo s, by rw [hho], hmB, hnB, (by omega), (by (try rw [ex]); (try rw [ey]); rfl), hfrB⟩
    · have ex : xx = 0 := hxx.symm
      have ey : yy = 0 := hyy.symm
      have ec : cp = 0 := hcp.symm
      have et : oTake 22 = 0 := rfl
      have ep : oPuts 22 = 0 := rfl
      rw [et] at hdB f2 f3
      rw [ep] at f3
      refine ew_tswO g qd_M_act_129 (tgt := 376) (by decide +kernel) (by decide) ?_
      refine ew_iload_n g qd_M_act_376 rfl ?_
      refine ew_bipush g qd_M_act_377 bp_6 ?_
      refine en_lt g qd_M_act_379 (tgt := 399) (by decide) (by decide) (by decide) (fun h => ?_) (fun h => ?_)
      · exact absurd h (by decide)
      refine ew_iload_n g qd_M_act_382 rfl ?_
      refine ew_bipush g qd_M_act_383 bp_12 ?_
      refine en_gt g qd_M_act_385 (tgt := 399) (by decide) (by decide) (by decide) (fun h => ?_) (fun h => ?_)
      rotate_left
      · exact absurd h (by decide)
      refine ew_iload_n g qd_M_act_399 rfl ?_
      refine ew_bipush g qd_M_act_400 bp_22 ?_
      refine en_ne g qd_M_act_402 (tgt := 407) (by decide) (by decide) (by decide) (fun h => ?_) (fun h => ?_)
      · exact absurd h (by decide)
      refine ew_iconst g qd_M_act_405 ic_0 ?_
      refine ew_iret g qd_M_act_406 hp ?_
      exact ⟨pSB s 22 yy xx, pAt s + 1, 0, rfl, hmB, hnB, by omega, by (try rw [ex]); (try rw [ey]); rfl, hfrB⟩
    · have ex : xx = 0 := hxx.symm
      have ey : yy = 0 := hyy.symm
      have ec : cp = 0 := hcp.symm
      have et : oTake 23 = 0 := rfl
      have ep : oPuts 23 = 0 := rfl
      rw [et] at hdB f2 f3
      rw [ep] at f3
      refine ew_tswO g qd_M_act_129 (tgt := 376) (by decide +kernel) (by decide) ?_
      refine ew_iload_n g qd_M_act_376 rfl ?_
      refine ew_bipush g qd_M_act_377 bp_6 ?_
      refine en_lt g qd_M_act_379 (tgt := 399) (by decide) (by decide) (by decide) (fun h => ?_) (fun h => ?_)
      · exact absurd h (by decide)
      refine ew_iload_n g qd_M_act_382 rfl ?_
      refine ew_bipush g qd_M_act_383 bp_12 ?_
      refine en_gt g qd_M_act_385 (tgt := 399) (by decide) (by decide) (by decide) (fun h => ?_) (fun h => ?_)
      rotate_left
      · exact absurd h (by decide)
      refine ew_iload_n g qd_M_act_399 rfl ?_
      refine ew_bipush g qd_M_act_400 bp_22 ?_
      refine en_ne g qd_M_act_402 (tgt := 407) (by decide) (by decide) (by decide) (fun h => ?_) (fun h => ?_)
      rotate_left
      · exact absurd h (by decide)
      refine ew_iload_n g qd_M_act_407 rfl ?_
      refine ew_bipush g qd_M_act_408 bp_23 ?_
      refine en_ne g qd_M_act_410 (tgt := 415) (by decide) (by decide) (by decide) (fun h => ?_) (fun h => ?_)
      · exact absurd h (by decide)
      refine ew_iconst g qd_M_act_413 ic_1 ?_
      refine ew_iret g qd_M_act_414 hp ?_
      exact ⟨pSB s 23 yy xx, pAt s + 1, 1, rfl, hmB, hnB, by omega, by (try rw [ex]); (try rw [ey]); rfl, hfrB⟩
    · have ex : xx = 0 := hxx.symm
      have ey : yy = 0 := hyy.symm
      have ec : cp = 0 := hcp.symm
      have et : oTake 24 = 0 := rfl
      have ep : oPuts 24 = 0 := rfl
      rw [et] at hdB f2 f3
      rw [ep] at f3
      refine ew_tswO g qd_M_act_129 (tgt := 376) (by decide +kernel) (by decide) ?_
      refine ew_iload_n g qd_M_act_376 rfl ?_
      refine ew_bipush g qd_M_act_377 bp_6 ?_
      refine en_lt g qd_M_act_379 (tgt := 399) (by decide) (by decide) (by decide) (fun h => ?_) (fun h => ?_)
      · exact absurd h (by decide)
      refine ew_iload_n g qd_M_act_382 rfl ?_
      refine ew_bipush g qd_M_act_383 bp_12 ?_
      refine en_gt g qd_M_act_385 (tgt := 399) (by decide) (by decide) (by decide) (fun h => ?_) (fun h => ?_)
      rotate_left
      · exact absurd h (by decide)
      refine ew_iload_n g qd_M_act_399 rfl ?_
      refine ew_bipush g qd_M_act_400 bp_22 ?_
      refine en_ne g qd_M_act_402 (tgt := 407) (by decide) (by decide) (by decide) (fun h => ?_) (fun h => ?_)
      rotate_left
      · exact absurd h (by decide)
      refine ew_iload_n g qd_M_act_407 rfl ?_
      refine ew_bipush g qd_M_act_408 bp_23 ?_
      refine en_ne g qd_M_act_410 (tgt := 415) (by decide) (by decide) (by decide) (fun h => ?_) (fun h => ?_)
      rotate_left
      · exact absurd h (by decide)
      refine ew_iload_n g qd_M_act_415 rfl ?_
      refine ew_bipush g qd_M_act_416 bp_23 ?_
      refine en_gt g qd_M_act_418 (tgt := 423) (by decide) (by decide) (by decide) (fun h => ?_) (fun h => ?_)
      rotate_left
      · exact absurd h (by decide)
      refine ew_aload_n g qd_M_act_423 rfl ?_
      refine ew_get g qd_M_act_424 qf_M_118 (by decide) rfl rfl ?_
      refine en_top (show _ = nI cal from hmB.2.2.2.2.2.2.2.2.2.1) ?_
      have hc4 := h10.2
      refine en_if_eq g qd_M_act_427 (tgt := 435) (by decide) (by omega) (fun hz => ?_) (fun hz => ?_)
      · refine ew_iconst g qd_M_act_435 ic_3 ?_
        refine ew_iret g qd_M_act_436 hp ?_
        have hlk : pLook cal s 24 (pUn s 1) (pUn s 0) = pFo s := by show (if (24 : Nat) = 24 ∧ cal ≠ 0 then _ else _) = _; rw [if_neg (fun z => z.2 hz)]; rfl
        exact ⟨pSB s 24 yy xx, pAt s + 1, 3, rfl, hmB, hnB, by omega, by show pEnd (pS1 cal s 24 (pUn s 1) (pUn s 0)) 3 = _; unfold pS1; rw [hlk]; rfl, hfrB⟩
      · refine ew_aload_n g qd_M_act_430 rfl ?_
        refine ew_iconst g qd_M_act_431 ic_2 ?_
        refine ew_callV g qd_M_act_432 (k_M_note w k.2.1 sgB (kd := 2) (show _ = nI (pAt s) from hmB.2.2.2.2.2.1) (by decide)) qv_M_104 (by decide) rfl ⟨_, _, rfl⟩ rfl rfl (Nat.le_of_ble_eq_true rfl) ⟨rfl, rfl, by decide, by decide⟩ (fun v sg1 hv => ?_)
        obtain ⟨rfl, rfl⟩ := hv
        refine ew_iconst g qd_M_act_435 ic_3 ?_
        refine ew_iret g qd_M_act_436 hp ?_
        have hlk : pLook cal s 24 (pUn s 1) (pUn s 0) = fup (pFo s) 2 (pAt s) := by show (if (24 : Nat) = 24 ∧ cal ≠ 0 then _ else _) = _; rw [if_pos ⟨rfl, hz⟩]
        refine ⟨pNote (pSB s 24 yy xx) (fup (pFo (pSB s 24 yy xx)) 2 (pAt s)), pAt s + 1, 3, rfl, mM_note (kd := 2) (s := pSB s 24 yy xx) hmB (by show pAt s < 32; omega) (by decide), by rw [sup_n (by decide)]; exact hnB, by omega, ?_, hfrB.tr (mFr_a (by decide))⟩
        show pEnd (pS1 cal s 24 (pUn s 1) (pUn s 0)) 3 = _
        unfold pS1
        rw [hlk]
        rfl
  have h110 : ∀ sgX : SG, mM sgX (pAt s, pDe s - oTake o, pGa s - oCost o, pSt s, pCe s, pSe s, (if pOver o yy xx = true then fup (pFo s) 1 (pAt s) else pFo s), pHo s, pWa s) inp cal f0 → sgX 41 13 = nI (pAt s + 1) → mFr sg sgX → ew_E qS w 6 k 110 [some (.inr 41), some (.inl (nI o)), some (.inl (nI a)), some (.inl (nI xx)), some (.inl (nI yy)), some (.inl (nI cp))] [] sgX := by
    intro sgX hmX hnX hfX
    have hov15 : o = 15 → ¬ pOver o yy xx = true := fun e z => by
      have := of_decide_eq_true z
      omega
    refine ew_iload_n g qd_M_act_110 rfl ?_
    refine ew_bipush g qd_M_act_111 bp_15 ?_
    refine en_ne g qd_M_act_113 (tgt := 128) (by decide) (by omega) (by omega) (fun h15 => ?_) (fun h15 => ?_)
    · refine h128 sgX ?_ hnX hfX
      have e : fnB s o yy xx = (if pOver o yy xx = true then fup (pFo s) 1 (pAt s) else pFo s) := by
        unfold fnB
        rw [if_neg (show ¬ (o = 15 ∧ pSe s = true) from fun z => h15 z.1)]
      unfold pSB
      rw [e]
      exact hmX
    · have hno := hov15 h15
      rw [if_neg hno] at hmX
      refine ew_aload_n g qd_M_act_116 rfl ?_
      refine ew_get g qd_M_act_117 qf_M_108 (by decide) rfl rfl ?_
      cases hse : pSe s with
      | false =>
        refine en_top (show _ = nI 0 by rw [show sgX 41 14 = bI (pSe s) from hmX.2.2.2.2.2.2.1, hse]; rfl) ?_
        refine en_if_eq g qd_M_act_120 (tgt := 128) (by decide) (by omega) (fun hz => ?_) (fun hz => ?_)
        · refine h128 sgX ?_ hnX hfX
          have e : fnB s o yy xx = pFo s := by
            unfold fnB
            rw [if_neg hno, if_neg (fun z => by rw [hse] at z; exact absurd z.2 (by decide))]
          unfold pSB
          rw [e]
          exact hmX
        · exact absurd rfl hz
      | true =>
        refine en_top (show _ = nI 1 by rw [show sgX 41 14 = bI (pSe s) from hmX.2.2.2.2.2.2.1, hse]; rfl) ?_
        refine en_if_eq g qd_M_act_120 (tgt := 128) (by decide) (by omega) (fun hz => ?_) (fun hz => ?_)
        · exact absurd hz (by decide)
        · refine ew_aload_n g qd_M_act_123 rfl ?_
          refine ew_iconst g qd_M_act_124 ic_3 ?_
          refine ew_callV g qd_M_act_125 (k_M_note w k.2.1 sgX (kd := 3) (show _ = nI (pAt s) from hmX.2.2.2.2.2.1) (by decide)) qv_M_104 (by decide) rfl ⟨_, _, rfl⟩ rfl rfl (Nat.le_of_ble_eq_true rfl) ⟨rfl, rfl, by decide, by decide⟩ (fun v sg1 hv => ?_)
          obtain ⟨rfl, rfl⟩ := hv
          refine h128 _ ?_ (by rw [sup_n (by decide)]; exact hnX) (hfX.tr (mFr_a (by decide)))
          have e : fnB s o yy xx = fup (pFo s) 3 (pAt s) := by
            unfold fnB
            rw [if_neg hno, if_pos ⟨h15, hse⟩]
          unfold pSB
          rw [e]
          exact mM_note (kd := 3) (s := (pAt s, pDe s - oTake o, pGa s - oCost o, pSt s, pCe s, pSe s, pFo s, pHo s, pWa s)) hmX (by show pAt s < 32; omega) (by decide)
  have h82 : ew_E qS w 6 k 82 [some (.inr 41), some (.inl (nI o)), some (.inl (nI a)), some (.inl (nI xx)), some (.inl (nI yy)), some (.inl (nI cp))] [] sg := by
    refine ew_aload_n g qd_M_act_82 rfl ?_
    refine ew_dup g qd_M_act_83 ?_
    refine ew_get g qd_M_act_84 qf_M_88 (by decide) rfl rfl ?_
    refine en_top h2 ?_
    refine ew_iload_n g qd_M_act_87 rfl ?_
    refine ew_callS g qd_M_act_88 (k_M_takes w k.2.1 sg ho) qs_M_91 rfl rfl (Nat.le_of_ble_eq_true rfl) ⟨rfl, rfl, by decide, by decide⟩ (fun v sg1 hv => ?_)
    obtain ⟨rfl, rfl⟩ := hv
    refine ew_isub g qd_M_act_91 ?_
    refine en_top (pk_sub f2) ?_
    refine ew_put g qd_M_act_92 qf_M_88 (qp_M_depth _) (by decide) rfl rfl ?_
    refine ew_iload_n g qd_M_act_95 rfl ?_
    refine ew_iload g qd_M_act_96 rfl ?_
    refine ew_iload_n g qd_M_act_98 rfl ?_
    have hmA := mM_f8 (d := pDe s - oTake o) (by show pDe s - oTake o ≤ pDe s; omega) hm
    have hnA : sup sg1 41 8 (nI (pDe s - oTake o)) 41 13 = nI (pAt s + 1) := by rw [sup_s, pk_un (by decide)]; exact hnx
    have hfA : mFr sg1 (sup sg1 41 8 (nI (pDe s - oTake o))) := mFr_f (by decide)
    refine ew_callS g qd_M_act_99 (k_M_overflows w k.2.1 _ ho lx ly) qs_M_100 rfl rfl (Nat.le_of_ble_eq_true rfl) ⟨rfl, rfl, by decide, by decide⟩ (fun v sg2 hv => ?_)
    obtain ⟨rfl, rfl⟩ := hv
    cases hov : pOver o yy xx with
    | false =>
      refine en_top (show _ = nI 0 from rfl) ?_
      refine en_if_eq g qd_M_act_102 (tgt := 110) (by decide) (by omega) (fun hz => ?_) (fun hz => ?_)
      · refine h110 _ ?_ hnA hfA
        rw [if_neg (by rw [hov]; decide)]
        exact hmA
      · exact absurd rfl hz
    | true =>
      refine en_top (show _ = nI 1 from rfl) ?_
      refine en_if_eq g qd_M_act_102 (tgt := 110) (by decide) (by omega) (fun hz => ?_) (fun hz => ?_)
      · exact absurd hz (by decide)
      · refine ew_aload_n g qd_M_act_105 rfl ?_
        refine ew_iconst g qd_M_act_106 ic_1 ?_
        refine ew_callV g qd_M_act_107 (k_M_note w k.2.1 _ (kd := 1) (show _ = nI (pAt s) from hmA.2.2.2.2.2.1) (by decide)) qv_M_104 (by decide) rfl ⟨_, _, rfl⟩ rfl rfl (Nat.le_of_ble_eq_true rfl) ⟨rfl, rfl, by decide, by decide⟩ (fun v sg1 hv => ?_)
        obtain ⟨rfl, rfl⟩ := hv
        refine h110 _ ?_ (by rw [sup_n (by decide)]; exact hnA) (hfA.tr (mFr_a (by decide)))
        rw [if_pos hov]
        exact mM_note (kd := 1) (s := (pAt s, pDe s - oTake o, pGa s - oCost o, pSt s, pCe s, pSe s, pFo s, pHo s, pWa s)) hmA (by show pAt s < 32; omega) (by decide)
  have h58 : ew_E qS w 6 k 58 [some (.inr 41), some (.inl (nI o)), some (.inl (nI a)), some (.inl (nI xx)), some (.inl (nI yy)), none] [] sg := by
    refine ew_iload_n g qd_M_act_58 rfl ?_
    refine ew_iconst g qd_M_act_59 ic_3 ?_
    refine en_ne g qd_M_act_60 (tgt := 79) (by decide) (by omega) (by omega) (fun ho3 => ?_) (fun ho3 => ?_)
    · refine ew_iconst g qd_M_act_79 ic_0 ?_
      refine ew_istore g qd_M_act_80 (by decide) ?_
      rw [if_neg ho3] at hcp
      rw [← hcp] at h82
      exact h82
    · have h34 := f4 ho3
      refine ew_aload_n g qd_M_act_63 rfl ?_
      refine ew_getR g qd_M_act_64 qf_M_26 (by decide) rfl rfl ?_
      refine ew_aload_n g qd_M_act_67 rfl ?_
      refine ew_get g qd_M_act_68 qf_M_88 (by decide) rfl rfl ?_
      refine en_top h2 ?_
      refine ew_iconst g qd_M_act_71 ic_1 ?_
      refine ew_isub g qd_M_act_72 ?_
      refine en_top (pk_sub (by omega)) ?_
      refine ew_iload_n g qd_M_act_73 rfl ?_
      refine ew_isub g qd_M_act_74 ?_
      refine en_top (pk_sub (by omega)) ?_
      refine en_iald g qd_M_act_75 (by decide) rfl (by omega) (by omega) (hun a h34) ?_
      refine ew_goto g qd_M_act_76 (tgt := 80) (by decide) ?_
      refine ew_istore g qd_M_act_80 (by decide) ?_
      rw [if_pos ho3] at hcp
      rw [← hcp] at h82
      exact h82
  have h33 : ew_E qS w 6 k 33 [some (.inr 41), some (.inl (nI o)), some (.inl (nI a)), some (.inl (nI xx)), none, none] [] sg := by
    refine ew_iload_n g qd_M_act_33 rfl ?_
    refine ew_callS g qd_M_act_34 (k_M_takes w k.2.1 sg ho) qs_M_91 rfl rfl (Nat.le_of_ble_eq_true rfl) ⟨rfl, rfl, by decide, by decide⟩ (fun v sg1 hv => ?_)
    obtain ⟨rfl, rfl⟩ := hv
    refine ew_iconst g qd_M_act_37 ic_1 ?_
    refine en_le g qd_M_act_38 (tgt := 55) (by decide) (by omega) (by omega) (fun ht => ?_) (fun ht => ?_)
    · refine ew_iconst g qd_M_act_55 ic_0 ?_
      refine ew_istore g qd_M_act_56 (by decide) ?_
      rw [if_neg (by omega)] at hyy
      rw [← hyy] at h58
      exact h58
    · have e1 := hun 1 (by omega)
      rw [show pDe s - 1 - 1 = pDe s - 2 by omega] at e1
      refine ew_aload_n g qd_M_act_41 rfl ?_
      refine ew_getR g qd_M_act_42 qf_M_26 (by decide) rfl rfl ?_
      refine ew_aload_n g qd_M_act_45 rfl ?_
      refine ew_get g qd_M_act_46 qf_M_88 (by decide) rfl rfl ?_
      refine en_top h2 ?_
      refine ew_iconst g qd_M_act_49 ic_2 ?_
      refine ew_isub g qd_M_act_50 ?_
      refine en_top (pk_sub (by omega)) ?_
      refine en_iald g qd_M_act_51 (by decide) rfl (by omega) (by omega) e1 ?_
      refine ew_goto g qd_M_act_52 (tgt := 56) (by decide) ?_
      refine ew_istore g qd_M_act_56 (by decide) ?_
      rw [if_pos ht] at hyy
      rw [← hyy] at h58
      exact h58
  refine ew_aload_n g qd_M_act_0 rfl ?_
  refine ew_getR g qd_M_act_1 qf_M_13 (by decide) rfl rfl ?_
  refine ew_aload_n g qd_M_act_4 rfl ?_
  refine ew_get g qd_M_act_5 qf_M_78 (by decide) rfl rfl ?_
  refine en_top h6 ?_
  refine en_iald g qd_M_act_8 (by decide) rfl (by omega) (by omega) harg ?_
  refine ew_istore_n g qd_M_act_9 (by decide) ?_
  refine ew_iload_n g qd_M_act_10 rfl ?_
  refine ew_callS g qd_M_act_11 (k_M_takes w k.2.1 sg ho) qs_M_91 rfl rfl (Nat.le_of_ble_eq_true rfl) ⟨rfl, rfl, by decide, by decide⟩ (fun v sg1 hv => ?_)
  obtain ⟨rfl, rfl⟩ := hv
  refine en_if_le g qd_M_act_14 (tgt := 31) (by decide) (by omega) (fun ht => ?_) (fun ht => ?_)
  · refine ew_iconst g qd_M_act_31 ic_0 ?_
    refine ew_istore_n g qd_M_act_32 (by decide) ?_
    rw [if_neg (by omega)] at hxx
    rw [← hxx] at h33
    exact h33
  · have e0 := hun 0 (by omega)
    rw [Nat.sub_zero] at e0
    refine ew_aload_n g qd_M_act_17 rfl ?_
    refine ew_getR g qd_M_act_18 qf_M_26 (by decide) rfl rfl ?_
    refine ew_aload_n g qd_M_act_21 rfl ?_
    refine ew_get g qd_M_act_22 qf_M_88 (by decide) rfl rfl ?_
    refine en_top h2 ?_
    refine ew_iconst g qd_M_act_25 ic_1 ?_
    refine ew_isub g qd_M_act_26 ?_
    refine en_top (pk_sub (by omega)) ?_
    refine en_iald g qd_M_act_27 (by decide) rfl (by omega) (by omega) e0 ?_
    refine ew_goto g qd_M_act_28 (tgt := 32) (by decide) ?_
    refine ew_istore_n g qd_M_act_32 (by decide) ?_
    rw [if_pos ht] at hxx
    rw [← hxx] at h33
    exact h33
