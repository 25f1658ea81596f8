/-! a transaction of the reference -/
def mV (sg : SG) (s : PM) (f0 : Nat → Nat → Bool) : Prop := (∀ i, i < 5 → sg 44 i = nI (pCe s i)) ∧ sg 41 9 = nI (pGa s) ∧ sg 41 8 = nI (pDe s) ∧ (∀ kd, kd < 5 → ∀ i, i < 32 → bt (sg 50 kd) i = (f0 kd i || pFo s kd i))
theorem mM.v {sg : SG} {s : PM} {inp cal : Nat} {f0 : Nat → Nat → Bool} (h : mM sg s inp cal f0) : mV sg s f0 := ⟨h.2.2.2.1, h.2.2.2.2.1, h.2.1, h.2.2.2.2.2.2.2.1⟩
/-- the way of transaction t -/
def mW (sg : SG) (t : Nat) (l : List Nat) : Prop := sg 48 t = nI l.length ∧ l.length ≤ 41 ∧ ∀ i, i < l.length → sg 47 (41 * t + i) = nI (l.getD i 0)
/-- what a transaction leaves alone -/
def mFt (sg sg' : SG) (t : Nat) : Prop := (∀ o, o ≠ 41 → o ≠ 44 → o ≠ 45 → o ≠ 46 → o ≠ 47 → o ≠ 48 → o ≠ 49 → o ≠ 50 → sg' o = sg o) ∧ (∀ i, i ≠ 8 → i ≠ 9 → i ≠ 10 → i ≠ 11 → i ≠ 12 → i ≠ 13 → i ≠ 14 → sg' 41 i = sg 41 i) ∧ (∀ p, p < 41 * t ∨ 41 * t + 41 ≤ p → sg' 47 p = sg 47 p) ∧ (∀ u, u ≠ t → sg' 48 u = sg 48 u ∧ sg' 49 u = sg 49 u)
theorem mFt.rf (sg : SG) (t : Nat) : mFt sg sg t := ⟨fun _ _ _ _ _ _ _ _ _ => rfl, fun _ _ _ _ _ _ _ _ => rfl, fun _ _ => rfl, fun _ _ => ⟨rfl, rfl⟩⟩
theorem mFt.tr {a b c : SG} {t : Nat} (h : mFt a b t) (h' : mFt b c t) : mFt a c t := ⟨fun o h1 h2 h3 h4 h5 h6 h7 h8 => (h'.1 o h1 h2 h3 h4 h5 h6 h7 h8).trans (h.1 o h1 h2 h3 h4 h5 h6 h7 h8), fun i h1 h2 h3 h4 h5 h6 h7 => (h'.2.1 i h1 h2 h3 h4 h5 h6 h7).trans (h.2.1 i h1 h2 h3 h4 h5 h6 h7), fun p hp => (h'.2.2.1 p hp).trans (h.2.2.1 p hp), fun u hu => ⟨(h'.2.2.2 u hu).1.trans (h.2.2.2 u hu).1, (h'.2.2.2 u hu).2.trans (h.2.2.2 u hu).2⟩⟩
theorem mFr.t {a b : SG} (h : mFr a b) (t : Nat) : mFt a b t := ⟨fun o h1 h2 _ h4 _ _ _ h8 => h.1 o h1 h2 h4 h8, fun i h1 h2 h3 _ _ h6 h7 => h.2 i h1 h2 h3 h6 h7, fun p _ => by rw [h.1 47 (by decide) (by decide) (by decide) (by decide)], fun u _ => by rw [h.1 48 (by decide) (by decide) (by decide) (by decide), h.1 49 (by decide) (by decide) (by decide) (by decide)]; exact ⟨rfl, rfl⟩⟩
theorem mFt.code {sg sg' : SG} {t : Nat} {cd : CDE} (h : mFt sg sg' t) (hc : mCode sg cd) : mCode sg' cd := by
  unfold mCode at hc ⊢
  rw [h.2.1 0 (by decide) (by decide) (by decide) (by decide) (by decide) (by decide) (by decide), h.1 42 (by decide) (by decide) (by decide) (by decide) (by decide) (by decide) (by decide) (by decide), h.1 43 (by decide) (by decide) (by decide) (by decide) (by decide) (by decide) (by decide) (by decide)]
  exact hc
theorem mW_fr {sg sg' : SG} {t : Nat} {l : List Nat} (h : mW sg t l) (h7 : sg' 47 = sg 47) (h8 : sg' 48 = sg 48) : mW sg' t l := by
  unfold mW at h ⊢
  rw [h7, h8]
  exact h
theorem mM_o {sg : SG} {s : PM} {inp cal o i : Nat} {x : Int32} {f0 : Nat → Nat → Bool} (h : mM sg s inp cal f0) (ho : o = 45 ∨ o = 47 ∨ o = 48 ∨ o = 49) : mM (sup sg o i x) s inp cal f0 := by
  unfold mM
  rw [sup_n (show (41 : Nat) ≠ o by omega), sup_n (show (46 : Nat) ≠ o by omega), sup_n (show (44 : Nat) ≠ o by omega), sup_n (show (50 : Nat) ≠ o by omega)]
  exact h
theorem k_M_transact (w : WC) (l : Launch) (sg : SG) {cd : CDE} {num lim t : Nat} {c : Nat → Nat} {f0 : Nat → Nat → Bool} (hcd : mCode sg cd) (hn : num < 64) (hl : lim ≤ 40) (hc : c16 c) (h44 : ∀ i, i < 5 → sg 44 i = nI (c i)) (h4 : sg 41 4 = nI lim) (ht : t < 2) (hf0 : ∀ kd, kd < 5 → ∀ i, i < 32 → bt (sg 50 kd) i = f0 kd i) (hcz : pZ c) : ew_M qS w l qy_M_transact qw_M_transact qr_M_transact [.inr 41, .inl (nI t), .inl (nI num)] sg (fun v sg' => v = none ∧ mV sg' (pTx cd lim num c false) f0 ∧ mW sg' t (pWa (pTx cd lim num c false)) ∧ sg' 49 t = nI (pHo (pTx cd lim num c false)) ∧ mFt sg sg' t) := by
  refine ew_entry (ws' := qwg) (own := qR_M) (cc := qc_M_transact) (nL := 5) (ret := none) qnk (by decide) rfl rfl (Nat.le_of_ble_eq_true rfl) ?_
  intro k g hp
  -- the end, behind the loop
  have hback : ∀ (how : Nat) (s : PM) (x4 : Option MV) (sg1 : SG), how ≤ 5 → mV sg1 s f0 → mW sg1 t (pWa s) → mFt sg sg1 t → (∀ i, i < 5 → sg1 45 i = nI (c i)) → pTx cd lim num c false = (if how = 1 ∨ how = 2 then pCel (pEnd s how) c else pEnd s (if how = 5 then 0 else how)) → (how = 5 → pHo s = 5) → ew_E qS w 5 k 220 [some (.inr 41), some (.inl (nI t)), some (.inl (nI num)), some (.inl (nI how)), x4] [] sg1 := by
    intro how s x4 sg1 h5 hv hw hfr hbef e hh5
    have hend : ∀ sg2 : SG, sg2 = sup sg1 49 t (nI (if how = 5 then 0 else how)) → ew_E qS w 5 k 236 [some (.inr 41), some (.inl (nI t)), some (.inl (nI num)), some (.inl (nI how)), x4] [] sg2 := by
      intro sg2 e2
      subst e2
      have hv2 : mV (sup sg1 49 t (nI (if how = 5 then 0 else how))) s f0 := by
        unfold mV at hv ⊢
        rw [sup_n (by decide), sup_n (by decide), sup_n (by decide)]
        exact hv
      have hw2 := mW_fr (sg' := sup sg1 49 t (nI (if how = 5 then 0 else how))) hw (sup_n (by decide)) (sup_n (by decide))
      have hfr2 : mFt sg (sup sg1 49 t (nI (if how = 5 then 0 else how))) t := hfr.tr ⟨fun o _ _ _ _ _ _ h7 _ => sup_n h7, fun i _ _ _ _ _ _ _ => by rw [sup_n (by decide)], fun p _ => by rw [sup_n (by decide)], fun u hu => ⟨by rw [sup_n (by decide)], by rw [sup_s, pk_un hu]⟩⟩
      by_cases hrev : how = 1 ∨ how = 2
      · rw [if_pos hrev] at e
        have hhow : (if how = 5 then 0 else how) = how := if_neg (by omega)
        rw [hhow] at hv2 hw2 hfr2 ⊢
        have loop : ∀ (d i : Nat) (sg3 : SG), i + d = 5 → (∀ j, j < 5 → sg3 44 j = nI (if j < i then c j else pCe s j)) → sg3 45 = sg1 45 → (∀ o, o ≠ 44 → sg3 o = sup sg1 49 t (nI how) o) → ew_E qS w 5 k 239 [some (.inr 41), some (.inl (nI t)), some (.inl (nI num)), some (.inl (nI how)), some (.inl (nI i))] [] sg3 := by
          intro d
          induction d with
          | zero =>
            intro i sg3 hi hcel h45 ho
            have e5 : i = 5 := by omega
            subst e5
            refine ew_iload g qd_M_transact_239 rfl ?_
            refine ew_iconst g qd_M_transact_241 ic_5 ?_
            refine en_ge g qd_M_transact_242 (tgt := 275) (by decide) (by omega) (by omega) (fun hz => ?_) (fun hz => ?_)
            · refine ew_vret g qd_M_transact_275 hp ?_
              rw [e]
              refine ⟨rfl, ⟨fun j hj => ?_, ?_, ?_, ?_⟩, ?_, ?_, ?_⟩
              · have := hcel j hj
                rw [if_pos hj] at this
                exact this
              · rw [ho 41 (by decide)]; exact hv2.2.1
              · rw [ho 41 (by decide)]; exact hv2.2.2.1
              · rw [ho 50 (by decide)]; exact hv2.2.2.2
              · exact mW_fr hw2 (ho 47 (by decide)) (ho 48 (by decide))
              · rw [ho 49 (by decide), sup_s, pk_us]; rfl
              · refine hfr2.tr ⟨fun o _ h2 _ _ _ _ _ _ => ho o h2, fun i _ _ _ _ _ _ _ => by rw [ho 41 (by decide)], fun p _ => by rw [ho 47 (by decide)], fun u hu => by rw [ho 48 (by decide), ho 49 (by decide)]; exact ⟨rfl, rfl⟩⟩
            · omega
          | succ d ih =>
            intro i sg3 hi hcel h45 ho
            have h255 : ew_E qS w 5 k 255 [some (.inr 41), some (.inl (nI t)), some (.inl (nI num)), some (.inl (nI how)), some (.inl (nI i))] [] sg3 := by
              refine ew_aload_n g qd_M_transact_255 rfl ?_
              refine ew_getR g qd_M_transact_256 qf_M_20 (by decide) rfl rfl ?_
              refine ew_iload g qd_M_transact_259 rfl ?_
              refine ew_aload_n g qd_M_transact_261 rfl ?_
              refine ew_getR g qd_M_transact_262 qf_M_23 (by decide) rfl rfl ?_
              refine ew_iload g qd_M_transact_265 rfl ?_
              refine en_iald g qd_M_transact_267 (by decide) rfl (by omega) (by omega) (show sg3 45 i = nI (c i) by rw [h45]; exact hbef i (by omega)) ?_
              refine en_iast g qd_M_transact_268 (by decide) rfl (by omega) (by omega) ?_
              refine ew_iinc g qd_M_transact_269 (by decide) rfl (ii_1 _) ?_
              refine ew_goto g qd_M_transact_272 (tgt := 239) (by decide) ?_
              refine ih (i + 1) _ (by omega) (fun j hj => ?_) (by rw [sup_n (by decide)]; exact h45) (fun o h1 => by rw [sup_n h1]; exact ho o h1)
              rw [sup_s]
              by_cases ej : j = i
              · subst ej
                rw [pk_us, if_pos (by omega)]
              · rw [pk_un ej, hcel j hj]
                by_cases hji : j < i
                · rw [if_pos hji, if_pos (by omega)]
                · rw [if_neg hji, if_neg (by omega)]
            refine ew_iload g qd_M_transact_239 rfl ?_
            refine ew_iconst g qd_M_transact_241 ic_5 ?_
            refine en_ge g qd_M_transact_242 (tgt := 275) (by decide) (by omega) (by omega) (fun hz => ?_) (fun hz => ?_)
            · omega
            · refine ew_iload_n g qd_M_transact_245 rfl ?_
              refine ew_iconst g qd_M_transact_246 ic_1 ?_
              refine en_eq g qd_M_transact_247 (tgt := 255) (by decide) (by omega) (by omega) (fun hz1 => ?_) (fun hz1 => ?_)
              · exact h255
              · refine ew_iload_n g qd_M_transact_250 rfl ?_
                refine ew_iconst g qd_M_transact_251 ic_2 ?_
                refine en_ne g qd_M_transact_252 (tgt := 275) (by decide) (by omega) (by omega) (fun hz2 => ?_) (fun hz2 => ?_)
                · omega
                · exact h255
        refine ew_iconst g qd_M_transact_236 ic_0 ?_
        refine ew_istore g qd_M_transact_237 (by decide) ?_
        refine loop 5 0 _ rfl (fun j hj => ?_) (sup_n (by decide)) (fun o _ => rfl)
        rw [if_neg (by omega)]
        exact hv2.1 j hj
      · rw [if_neg hrev] at e
        refine ew_iconst g qd_M_transact_236 ic_0 ?_
        refine ew_istore g qd_M_transact_237 (by decide) ?_
        refine ew_iload g qd_M_transact_239 rfl ?_
        refine ew_iconst g qd_M_transact_241 ic_5 ?_
        refine en_ge g qd_M_transact_242 (tgt := 275) (by decide) (by omega) (by omega) (fun hz => ?_) (fun hz => ?_)
        · exact absurd hz (by decide)
        · refine ew_iload_n g qd_M_transact_245 rfl ?_
          refine ew_iconst g qd_M_transact_246 ic_1 ?_
          refine en_eq g qd_M_transact_247 (tgt := 255) (by decide) (by omega) (by omega) (fun hz1 => ?_) (fun hz1 => ?_)
          · omega
          · refine ew_iload_n g qd_M_transact_250 rfl ?_
            refine ew_iconst g qd_M_transact_251 ic_2 ?_
            refine en_ne g qd_M_transact_252 (tgt := 275) (by decide) (by omega) (by omega) (fun hz2 => ?_) (fun hz2 => ?_)
            · refine ew_vret g qd_M_transact_275 hp ?_
              rw [e]
              exact ⟨rfl, hv2, hw2, by rw [sup_s, pk_us]; rfl, hfr2⟩
            · omega
    refine ew_aload_n g qd_M_transact_220 rfl ?_
    refine ew_getR g qd_M_transact_221 qf_M_35 (by decide) rfl rfl ?_
    refine ew_iload_n g qd_M_transact_224 rfl ?_
    refine ew_iload_n g qd_M_transact_225 rfl ?_
    refine ew_iconst g qd_M_transact_226 ic_5 ?_
    refine en_ne g qd_M_transact_227 (tgt := 234) (by decide) (by omega) (by omega) (fun hz => ?_) (fun hz => ?_)
    · refine ew_iload_n g qd_M_transact_234 rfl ?_
      refine en_iast g qd_M_transact_235 (by decide) rfl (by omega) (by omega) ?_
      exact hend _ (by rw [if_neg hz])
    · refine ew_iconst g qd_M_transact_230 ic_0 ?_
      refine ew_goto g qd_M_transact_231 (tgt := 235) (by decide) ?_
      refine en_iast g qd_M_transact_235 (by decide) rfl (by omega) (by omega) ?_
      exact hend _ (by rw [if_pos hz])
  -- the loop
  have hloop : ∀ (d : Nat) (s : PM) (x4 : Option MV) (sg1 : SG), pGa s < d → pHo s = 5 → mM sg1 s (num / 4) (num % 4) f0 → mW sg1 t (pWa s) → (pWa s).length + pGa s ≤ 40 → mFt sg sg1 t → (∀ i, i < 5 → sg1 45 i = nI (c i)) → (∀ r, r = pRun cd (num / 4) (num % 4) d s → pTx cd lim num c false = if pHo r = 1 ∨ pHo r = 2 then pCel r c else r) → ew_E qS w 5 k 71 [some (.inr 41), some (.inl (nI t)), some (.inl (nI num)), some (.inl (nI 5)), x4] [] sg1 := by
    intro d
    induction d with
    | zero => intro s x4 sg1 hga; omega
    | succ d ih =>
      intro s x4 sg1 hga hho hm hw hlen hfr hbef he
      obtain ⟨hok, m2, m3, m4, m5, m6, m7, m8, m9, m10⟩ := id hm
      have ha32 := hok.2.2.2.2
      have hd6 := hok.1
      have hg40 := hok.2.2.2.1
      have hc1 := hfr.code hcd
      have hz32 := hc1.1.1
      have hru : pRun cd (num / 4) (num % 4) (d + 1) s = if cd.1 ≤ pAt s then pEnd s 0 else pRun cd (num / 4) (num % 4) d (pStep cd (num / 4) (num % 4) s) := by
        show (if pHo s ≠ 5 then s else _) = _
        rw [if_neg (fun q => q hho)]
      refine ew_iload_n g qd_M_transact_71 rfl ?_
      refine ew_iconst g qd_M_transact_72 ic_5 ?_
      refine en_ne g qd_M_transact_73 (tgt := 220) (by decide) (by omega) (by omega) (fun h5n => ?_) (fun h5n => ?_)
      · exact absurd rfl h5n
      · refine ew_aload_n g qd_M_transact_76 rfl ?_
        refine ew_get g qd_M_transact_77 qf_M_78 (by decide) rfl rfl ?_
        refine en_top m6 ?_
        refine ew_aload_n g qd_M_transact_80 rfl ?_
        refine ew_get g qd_M_transact_81 qf_M_72 (by decide) rfl rfl ?_
        refine en_top hc1.2.1 ?_
        refine en_ge g qd_M_transact_84 (tgt := 220) (by decide) (by omega) (by omega) (fun hat => ?_) (fun hat => ?_)
        · refine hback 5 s x4 sg1 (by decide) hm.v hw hfr hbef ?_ (fun _ => hho)
          have := he _ rfl
          rw [hru, if_pos hat] at this
          rw [this, if_neg (by show ¬ ((0 : Nat) = 1 ∨ (0 : Nat) = 2); decide)]
          rfl
        · have he' : ∀ r, r = pRun cd (num / 4) (num % 4) d (pStep cd (num / 4) (num % 4) s) → pTx cd lim num c false = if pHo r = 1 ∨ pHo r = 2 then pCel r c else r := fun r hr => he r (by rw [hru, if_neg (by omega)]; exact hr)
          obtain ⟨ho25, ha16⟩ := hc1.1.2 _ hat
          obtain ⟨hop, harg⟩ := hc1.2.2 _ hat
          obtain ⟨hT, hC, hC1, hPu⟩ := o_small _ ho25
          have hwl := hw.1
          generalize hoo : cd.2.1 (pAt s) = o at ho25 hop hT hC hC1 hPu
          refine ew_aload_n g qd_M_transact_87 rfl ?_
          refine ew_getR g qd_M_transact_88 qf_M_7 (by decide) rfl rfl ?_
          refine ew_aload_n g qd_M_transact_91 rfl ?_
          refine ew_get g qd_M_transact_92 qf_M_78 (by decide) rfl rfl ?_
          refine en_top m6 ?_
          refine en_iald g qd_M_transact_95 (by decide) rfl (by omega) (by omega) hop ?_
          refine ew_istore g qd_M_transact_96 (by decide) ?_
          refine ew_aload_n g qd_M_transact_98 rfl ?_
          refine ew_getR g qd_M_transact_99 qf_M_29 (by decide) rfl rfl ?_
          refine ew_bipush g qd_M_transact_102 bp_41 ?_
          refine ew_iload_n g qd_M_transact_104 rfl ?_
          refine ew_imul g qd_M_transact_105 ?_
          refine en_top (pk_mul _ _) ?_
          refine ew_aload_n g qd_M_transact_106 rfl ?_
          refine ew_getR g qd_M_transact_107 qf_M_32 (by decide) rfl rfl ?_
          refine ew_iload_n g qd_M_transact_110 rfl ?_
          refine en_iald g qd_M_transact_111 (by decide) rfl (by omega) (by omega) hwl ?_
          refine ew_iadd g qd_M_transact_112 ?_
          refine en_top (nI_add _ _) ?_
          refine ew_aload_n g qd_M_transact_113 rfl ?_
          refine ew_get g qd_M_transact_114 qf_M_78 (by decide) rfl rfl ?_
          refine en_top m6 ?_
          refine en_iast g qd_M_transact_117 (by decide) rfl (by omega) (by omega) ?_
          refine ew_aload_n g qd_M_transact_118 rfl ?_
          refine ew_getR g qd_M_transact_119 qf_M_32 (by decide) rfl rfl ?_
          refine ew_iload_n g qd_M_transact_122 rfl ?_
          refine ew_dup2 g qd_M_transact_123 ?_
          refine en_iald g qd_M_transact_124 (by decide) rfl (by omega) (by omega) (show sup sg1 47 (41 * t + (pWa s).length) (nI (pAt s)) 48 t = nI (pWa s).length by rw [sup_n (by decide)]; exact hwl) ?_
          refine ew_iconst g qd_M_transact_125 ic_1 ?_
          refine ew_iadd g qd_M_transact_126 ?_
          refine en_top (nI_add _ _) ?_
          refine en_iast g qd_M_transact_127 (by decide) rfl (by omega) (by omega) ?_
          refine ew_aload_n g qd_M_transact_128 rfl ?_
          refine ew_aload_n g qd_M_transact_129 rfl ?_
          refine ew_get g qd_M_transact_130 qf_M_78 (by decide) rfl rfl ?_
          refine en_top (show sup (sup sg1 47 (41 * t + (pWa s).length) (nI (pAt s))) 48 t (nI ((pWa s).length + 1)) 41 10 = nI (pAt s) by rw [sup_n (by decide), sup_n (by decide)]; exact m6) ?_
          refine ew_iconst g qd_M_transact_133 ic_1 ?_
          refine ew_iadd g qd_M_transact_134 ?_
          refine en_top (nI_add _ _) ?_
          refine ew_put g qd_M_transact_135 qf_M_124 (qp_M_next _) (by decide) rfl rfl ?_
          refine ew_aload_n g qd_M_transact_138 rfl ?_
          refine ew_iload g qd_M_transact_139 rfl ?_
          generalize hs2 : sup (sup (sup sg1 47 (41 * t + (pWa s).length) (nI (pAt s))) 48 t (nI ((pWa s).length + 1))) 41 13 (nI (pAt s + 1)) = sg2
          have hm2 : mM sg2 (pWay s (pWa s ++ [pAt s])) (num / 4) (num % 4) f0 := by
            rw [← hs2]
            exact mM_f13 (s := pWay s (pWa s ++ [pAt s])) (mM_o (mM_o hm (by omega)) (by omega))
          have hfr12 : mFt sg1 sg2 t := by
            rw [← hs2]
            refine ⟨fun o h1 _ _ _ h5 h6 _ _ => by rw [sup_n h1, sup_n h6, sup_n h5], fun i _ _ _ _ _ h6 _ => by rw [sup_s, pk_un h6, sup_n (by decide), sup_n (by decide)], fun p hp => by rw [sup_n (by decide), sup_n (by decide), sup_s, pk_un (by omega)], fun u hu => ⟨by rw [sup_n (by decide), sup_s, pk_un hu, sup_n (by decide)], by rw [sup_n (by decide), sup_n (by decide), sup_n (by decide)]⟩⟩
          have hw2 : mW sg2 t (pWa s ++ [pAt s]) := by
            rw [← hs2]
            refine ⟨by rw [sup_n (by decide), sup_s, pk_us]; simp, by simp; omega, fun i hi => ?_⟩
            have hi : i < (pWa s).length + 1 := by simpa using hi
            rw [sup_n (by decide), sup_n (by decide), sup_s]
            by_cases ei : i = (pWa s).length
            · subst ei
              rw [pk_us]
              simp
            · rw [pk_un (by omega), hw.2.2 i (by omega)]
              have : (pWa s ++ [pAt s]).getD i 0 = (pWa s).getD i 0 := by simp [List.getElem?_append, show i < (pWa s).length by omega]
              rw [this]
          have hn2 : sg2 41 13 = nI (pAt s + 1) := by rw [← hs2, sup_s, pk_us]
          have hb2 : ∀ i, i < 5 → sg2 45 i = nI (c i) := fun i hi => by rw [← hs2, sup_n (by decide), sup_n (by decide), sup_n (by decide)]; exact hbef i hi
          have hc2 := (hfr.tr hfr12).code hcd
          have hfr2 := hfr.tr hfr12
          clear hs2
          -- a fault
          have hfault : ∀ (f : Nat) (sg3 : SG), pFault cd s o (cd.2.2 (pAt s)) = some f → f < 5 → sg3 = sup sg2 50 f (sg2 50 f ||| (nI 1 <<< (nI (pAt s) &&& 31))) → ew_E qS w 5 k 209 [some (.inr 41), some (.inl (nI t)), some (.inl (nI num)), some (.inl (nI 2)), some (.inl (nI o))] [] sg3 := by
            intro f sg3 hf hf5 e3
            have hm3 : mM sg3 (pNote (pWay s (pWa s ++ [pAt s])) (fup (pFo s) f (pAt s))) (num / 4) (num % 4) f0 := by rw [e3]; exact mM_note (s := pWay s (pWa s ++ [pAt s])) hm2 (by show pAt s < 32; omega) hf5
            have hfr3 : mFr sg2 sg3 := by rw [e3]; exact mFr_a (by decide)
            have hn3 : sg3 41 13 = nI (pAt s + 1) := by rw [e3, sup_n (by decide)]; exact hn2
            have hstep : pStep cd (num / 4) (num % 4) s = pEnd (pNote (pWay s (pWa s ++ [pAt s])) (fup (pFo s) f (pAt s))) 2 := by
              unfold pStep pPer
              rw [hoo]
              have hf' : pFault cd (pWay s (pWa s ++ [pAt s])) o (cd.2.2 (pAt s)) = some f := hf
              rw [hf']
              rfl
            refine ew_aload_n g qd_M_transact_209 rfl ?_
            refine ew_aload_n g qd_M_transact_210 rfl ?_
            refine ew_get g qd_M_transact_211 qf_M_124 (by decide) rfl rfl ?_
            refine en_top hn3 ?_
            refine ew_put g qd_M_transact_214 qf_M_78 (qp_M_at _) (by decide) rfl rfl ?_
            refine ew_goto g qd_M_transact_217 (tgt := 71) (by decide) ?_
            refine ew_iload_n g qd_M_transact_71 rfl ?_
            refine ew_iconst g qd_M_transact_72 ic_5 ?_
            refine en_ne g qd_M_transact_73 (tgt := 220) (by decide) (by omega) (by omega) (fun hz => ?_) (fun hz => ?_)
            · refine hback 2 (pNote (pWay s (pWa s ++ [pAt s])) (fup (pFo s) f (pAt s))) _ _ (by decide) (mM_f10 (d := pAt s + 1) (by omega) hm3).v (mW_fr hw2 (by rw [sup_n (by decide), hfr3.1 47 (by decide) (by decide) (by decide) (by decide)]) (by rw [sup_n (by decide), hfr3.1 48 (by decide) (by decide) (by decide) (by decide)])) ((hfr2.tr (hfr3.t t)).tr ((mFr_f (by decide)).t t)) (fun i hi => by rw [sup_n (by decide), hfr3.1 45 (by decide) (by decide) (by decide) (by decide)]; exact hb2 i hi) ?_ (fun z => absurd z (by decide))
              have := he' _ rfl
              rw [hstep, pRun_stop (by show (2 : Nat) ≠ 5; decide)] at this
              rw [this]
              rfl
            · exact absurd hz (by decide)
          refine ew_callV g qd_M_transact_141 (k_M_faults w k.2.1 sg2 hc2 hm2 hat ho25) qv_M_134 (by decide) rfl ⟨_, _, rfl⟩ rfl rfl (Nat.le_of_ble_eq_true rfl) ⟨rfl, rfl, by decide, by decide⟩ (fun v sg3 hv => ?_)
          obtain ⟨rfl, rfl⟩ := hv
          have hfe : pFault cd (pWay s (pWa s ++ [pAt s])) o (cd.2.2 (pAt (pWay s (pWa s ++ [pAt s])))) = pFault cd s o (cd.2.2 (pAt s)) := rfl
          rw [hfe]
          by_cases hf4 : pFault cd s o (cd.2.2 (pAt s)) = some 4
          · refine en_top (show _ = nI 1 by rw [decide_eq_true hf4]; rfl) ?_
            refine en_if_eq g qd_M_transact_144 (tgt := 157) (by decide) (by omega) (fun hz => ?_) (fun hz => ?_)
            · exact absurd hz (by decide)
            · refine ew_aload_n g qd_M_transact_147 rfl ?_
              refine ew_iconst g qd_M_transact_148 ic_4 ?_
              refine ew_callV g qd_M_transact_149 (k_M_note w k.2.1 sg3 (kd := 4) (show _ = nI (pAt s) from hm2.2.2.2.2.2.1) (by decide)) qv_M_104 (by decide) rfl ⟨_, _, rfl⟩ rfl rfl (Nat.le_of_ble_eq_true rfl) ⟨rfl, rfl, by decide, by decide⟩ (fun v sg4 hv => ?_)
              obtain ⟨rfl, hv⟩ := hv
              refine ew_iconst g qd_M_transact_152 ic_2 ?_
              refine ew_istore_n g qd_M_transact_153 (by decide) ?_
              refine ew_goto g qd_M_transact_154 (tgt := 209) (by decide) ?_
              exact hfault 4 sg4 hf4 (by decide) hv
          · refine en_top (show _ = nI 0 by rw [decide_eq_false hf4]; rfl) ?_
            refine en_if_eq g qd_M_transact_144 (tgt := 157) (by decide) (by omega) (fun hz => ?_) (fun hz => ?_)
            · -- no such fault
              have hgo : pFault cd s o (cd.2.2 (pAt s)) = none → ew_E qS w 5 k 188 [some (.inr 41), some (.inl (nI t)), some (.inl (nI num)), some (.inl (nI 5)), some (.inl (nI o))] [] sg3 := by
                intro hf
                obtain ⟨f1, -⟩ := pFault_none hf
                refine ew_aload_n g qd_M_transact_188 rfl ?_
                refine ew_dup g qd_M_transact_189 ?_
                refine ew_get g qd_M_transact_190 qf_M_81 (by decide) rfl rfl ?_
                refine en_top (show _ = nI (pGa s) from hm2.2.2.2.2.1) ?_
                refine ew_iload g qd_M_transact_193 rfl ?_
                refine ew_callS g qd_M_transact_195 (k_M_cost w k.2.1 sg3 ho25) qs_M_84 rfl rfl (Nat.le_of_ble_eq_true rfl) ⟨rfl, rfl, by decide, by decide⟩ (fun v sg4 hv => ?_)
                obtain ⟨rfl, rfl⟩ := hv
                refine ew_isub g qd_M_transact_198 ?_
                refine en_top (pk_sub f1) ?_
                refine ew_put g qd_M_transact_199 qf_M_81 (qp_M_gas _) (by decide) rfl rfl ?_
                refine ew_aload_n g qd_M_transact_202 rfl ?_
                refine ew_iload g qd_M_transact_203 rfl ?_
                have hm4 := mM_f9 (d := pGa s - oCost o) (by omega) hm2
                have hfr4 : mFr sg4 (sup sg4 41 9 (nI (pGa s - oCost o))) := mFr_f (by decide)
                refine ew_callV g qd_M_transact_205 (k_M_act w k.2.1 _ (s := pWay s (pWa s ++ [pAt s])) (a := cd.2.2 (pAt s)) (o := o) (hfr4.code hc2) hm4 hok hat ho25 rfl hf (by rw [sup_s, pk_un (by decide)]; exact hn2) hho) qv_M_138 (by decide) rfl ⟨_, _, rfl⟩ rfl rfl (Nat.le_of_ble_eq_true rfl) ⟨rfl, rfl, by decide, by decide⟩ (fun v sg5 hv => ?_)
                obtain ⟨s3, nx, how, rfl, hm5, hn5, hnx32, hdo, hfr5⟩ := hv
                have hstep : pStep cd (num / 4) (num % 4) s = pEnd (pJmp s3 nx) how := by
                  have e1 : pStep cd (num / 4) (num % 4) s = pPer cd (num / 4) (num % 4) (pWay s (pWa s ++ [pAt s])) o (cd.2.2 (pAt s)) := by
                    unfold pStep
                    rw [hoo]
                  rw [e1]
                  unfold pPer
                  have hf' : pFault cd (pWay s (pWa s ++ [pAt s])) o (cd.2.2 (pAt s)) = none := hf
                  rw [hf']
                  exact hdo
                have hst := pStep_ok (cd := cd) (inp := num / 4) (cal := num % 4) hc1.1 (by omega) (by omega) hat hok
                obtain ⟨hwa, hho5⟩ := pPer_wa (cd := cd) (inp := num / 4) (cal := num % 4) (s := pWay s (pWa s ++ [pAt s])) (o := o) (a := cd.2.2 (pAt s)) (Nat.le_of_eq hho)
                have hwa' : pWa s3 = pWa s ++ [pAt s] := by
                  have e1 : pWa (pStep cd (num / 4) (num % 4) s) = pWa s ++ [pAt s] := by
                    unfold pStep
                    rw [hoo]
                    exact hwa
                  rw [hstep] at e1
                  exact e1
                have hho' : how ≤ 5 := by
                  have e1 : pHo (pStep cd (num / 4) (num % 4) s) ≤ 5 := by
                    unfold pStep
                    rw [hoo]
                    exact hho5
                  rw [hstep] at e1
                  exact e1
                have hfr6 : mFt sg (sup sg5 41 10 (nI nx)) t := (hfr2.tr ((hfr4.tr hfr5).t t)).tr ((mFr_f (by decide)).t t)
                have hw6 : mW (sup sg5 41 10 (nI nx)) t (pWa s3) := by
                  rw [hwa']
                  refine mW_fr hw2 ?_ ?_
                  · rw [sup_n (by decide), hfr5.1 47 (by decide) (by decide) (by decide) (by decide), sup_n (by decide)]
                  · rw [sup_n (by decide), hfr5.1 48 (by decide) (by decide) (by decide) (by decide), sup_n (by decide)]
                have hb6 : ∀ i, i < 5 → sup sg5 41 10 (nI nx) 45 i = nI (c i) := fun i hi => by rw [sup_n (by decide), hfr5.1 45 (by decide) (by decide) (by decide) (by decide), sup_n (by decide)]; exact hb2 i hi
                have hm6 : mM (sup sg5 41 10 (nI nx)) (pJmp s3 nx) (num / 4) (num % 4) f0 := mM_f10 hnx32 hm5
                refine ew_istore_n g qd_M_transact_208 (by decide) ?_
                refine ew_aload_n g qd_M_transact_209 rfl ?_
                refine ew_aload_n g qd_M_transact_210 rfl ?_
                refine ew_get g qd_M_transact_211 qf_M_124 (by decide) rfl rfl ?_
                refine en_top hn5 ?_
                refine ew_put g qd_M_transact_214 qf_M_78 (qp_M_at _) (by decide) rfl rfl ?_
                refine ew_goto g qd_M_transact_217 (tgt := 71) (by decide) ?_
                by_cases h5 : how = 5
                · subst h5
                  have hga' : pGa s3 + 1 ≤ pGa s := by
                    rcases pStep_ga (cd := cd) (inp := num / 4) (cal := num % 4) (s := s) with z | z
                    · rw [hstep] at z; exact absurd rfl z
                    · rw [hstep] at z; exact z
                  refine ih (pEnd (pJmp s3 nx) 5) _ _ (by show pGa s3 < d; omega) rfl hm6 hw6 (by show (pWa s3).length + pGa s3 ≤ 40; rw [hwa']; simp; omega) hfr6 hb6 (fun r hr => he' r (by rw [hstep]; exact hr))
                · refine ew_iload_n g qd_M_transact_71 rfl ?_
                  refine ew_iconst g qd_M_transact_72 ic_5 ?_
                  refine en_ne g qd_M_transact_73 (tgt := 220) (by decide) (by omega) (by omega) (fun hz2 => ?_) (fun hz2 => ?_)
                  · refine hback how (pJmp s3 nx) _ _ hho' hm6.v hw6 hfr6 hb6 ?_ (fun z => absurd z h5)
                    have := he' _ rfl
                    rw [hstep, pRun_stop (show pHo (pEnd (pJmp s3 nx) how) ≠ 5 from h5)] at this
                    rw [this]
                    show (if how = 1 ∨ how = 2 then _ else _) = _
                    by_cases hr : how = 1 ∨ how = 2
                    · rw [if_pos hr, if_pos hr]
                    · rw [if_neg hr, if_neg hr, if_neg h5]
                  · exact absurd hz2 h5
              refine ew_iload g qd_M_transact_157 rfl ?_
              refine ew_bipush g qd_M_transact_159 bp_21 ?_
              refine en_ne g qd_M_transact_161 (tgt := 188) (by decide) (by omega) (by omega) (fun h21 => ?_) (fun h21 => ?_)
              · refine hgo ?_
                cases hq : pFault cd s o (cd.2.2 (pAt s)) with
                | none => rfl
                | some f =>
                  exfalso
                  unfold pFault at hq hf4
                  by_cases q0 : pGa s < oCost o ∨ pDe s < oTake o ∨ 6 < pDe s - oTake o + oPuts o
                  · rw [if_pos q0] at hf4; exact hf4 rfl
                  · rw [if_neg q0] at hq hf4
                    by_cases q3 : o = 3
                    · rw [if_pos q3] at hq hf4
                      split at hq
                      · cases hq
                      · rename_i qq; rw [if_neg qq] at hf4; exact hf4 rfl
                    · rw [if_neg q3] at hq hf4
                      by_cases q4 : o = 4
                      · rw [if_pos q4] at hq hf4
                        split at hq
                        · cases hq
                        · rename_i qq; rw [if_neg qq] at hf4; exact hf4 rfl
                      · rw [if_neg q4] at hq hf4
                        by_cases q17 : o = 17
                        · rw [if_pos q17] at hq hf4
                          split at hq
                          · cases hq
                          · rename_i qq; rw [if_neg qq] at hf4; exact hf4 rfl
                        · rw [if_neg q17] at hq hf4
                          by_cases q18 : o = 18
                          · rw [if_pos q18] at hq hf4
                            split at hq
                            · cases hq
                            · rename_i qq; rw [if_neg qq] at hf4; exact hf4 rfl
                          · rw [if_neg q18, if_neg h21] at hq
                            cases hq
              · have hde1 : 1 ≤ pDe s := by
                  have : oTake o = 1 := by rw [h21]; decide
                  by_cases q : pDe s < oTake o
                  · exact absurd (show pFault cd s o (cd.2.2 (pAt s)) = some 4 by unfold pFault; rw [if_pos (Or.inr (Or.inl q))]) hf4
                  · omega
                have h0 : ¬ (pGa s < oCost o ∨ pDe s < oTake o ∨ 6 < pDe s - oTake o + oPuts o) := fun q => hf4 (by unfold pFault; rw [if_pos q])
                have hF21 : pFault cd s o (cd.2.2 (pAt s)) = if pUn s 0 ≠ 0 then none else some 0 := by
                  unfold pFault
                  rw [if_neg h0, if_neg (by omega), if_neg (by omega), if_neg (by omega), if_neg (by omega), if_pos h21]
                have e0 : sg3 46 (pDe s - 1) = nI (pUn s 0) := by
                  have := mM_un (s := pWay s (pWa s ++ [pAt s])) hm2 (i := 0) (show 0 < pDe s by omega)
                  exact this
                have u0 := pUn_lt hok 0
                refine ew_aload_n g qd_M_transact_164 rfl ?_
                refine ew_getR g qd_M_transact_165 qf_M_26 (by decide) rfl rfl ?_
                refine ew_aload_n g qd_M_transact_168 rfl ?_
                refine ew_get g qd_M_transact_169 qf_M_88 (by decide) rfl rfl ?_
                refine en_top (show _ = nI (pDe s) from hm2.2.1) ?_
                refine ew_iconst g qd_M_transact_172 ic_1 ?_
                refine ew_isub g qd_M_transact_173 ?_
                refine en_top (pk_sub hde1) ?_
                refine en_iald g qd_M_transact_174 (by decide) rfl (by omega) (by omega) e0 ?_
                refine en_if_ne g qd_M_transact_175 (tgt := 188) (by decide) (by omega) (fun hz3 => ?_) (fun hz3 => ?_)
                · exact hgo (by rw [hF21, if_pos hz3])
                · refine ew_aload_n g qd_M_transact_178 rfl ?_
                  refine ew_iconst g qd_M_transact_179 ic_0 ?_
                  refine ew_callV g qd_M_transact_180 (k_M_note w k.2.1 sg3 (kd := 0) (show _ = nI (pAt s) from hm2.2.2.2.2.2.1) (by decide)) qv_M_104 (by decide) rfl ⟨_, _, rfl⟩ rfl rfl (Nat.le_of_ble_eq_true rfl) ⟨rfl, rfl, by decide, by decide⟩ (fun v sg4 hv => ?_)
                  obtain ⟨rfl, hv⟩ := hv
                  refine ew_iconst g qd_M_transact_183 ic_2 ?_
                  refine ew_istore_n g qd_M_transact_184 (by decide) ?_
                  refine ew_goto g qd_M_transact_185 (tgt := 209) (by decide) ?_
                  exact hfault 0 sg4 (by rw [hF21, if_neg (fun q => q hz3)]) (by decide) hv
            · exact absurd rfl hz
  -- the beginning
  have hcopy : ∀ (d i : Nat) (sg1 : SG), i + d = 5 → (∀ j, j < i → sg1 45 j = nI (c j)) → (∀ o, o ≠ 45 → sg1 o = sg o) → ew_E qS w 5 k 2 [some (.inr 41), some (.inl (nI t)), some (.inl (nI num)), some (.inl (nI i)), none] [] sg1 := by
    intro d
    induction d with
    | zero =>
      intro i sg1 hi hbef ho
      have e5 : i = 5 := by omega
      subst e5
      refine ew_iload_n g qd_M_transact_2 rfl ?_
      refine ew_iconst g qd_M_transact_3 ic_5 ?_
      refine en_ge g qd_M_transact_4 (tgt := 25) (by decide) (by omega) (by omega) (fun hz => ?_) (fun hz => ?_)
      · refine ew_aload_n g qd_M_transact_25 rfl ?_
        refine ew_iload_n g qd_M_transact_26 rfl ?_
        refine ew_iconst g qd_M_transact_27 ic_4 ?_
        refine ew_idiv g qd_M_transact_28 (by decide +kernel) ?_
        refine en_top (pk_div (by omega) (by decide) (by decide)) ?_
        refine ew_put g qd_M_transact_29 qf_M_115 (qp_M_input _) (by decide) rfl rfl ?_
        refine ew_aload_n g qd_M_transact_32 rfl ?_
        refine ew_iload_n g qd_M_transact_33 rfl ?_
        refine ew_iconst g qd_M_transact_34 ic_4 ?_
        refine ew_irem g qd_M_transact_35 (by decide +kernel) ?_
        refine en_top (pk_rem (by omega) (by decide) (by decide)) ?_
        refine ew_put g qd_M_transact_36 qf_M_118 (qp_M_caller _) (by decide) rfl rfl ?_
        refine ew_aload_n g qd_M_transact_39 rfl ?_
        refine ew_iconst g qd_M_transact_40 ic_0 ?_
        refine ew_put g qd_M_transact_41 qf_M_88 (qp_M_depth _) (by decide) rfl rfl ?_
        refine ew_aload_n g qd_M_transact_44 rfl ?_
        refine ew_aload_n g qd_M_transact_45 rfl ?_
        refine ew_get g qd_M_transact_46 qf_M_16 (by decide) rfl rfl ?_
        refine en_top (show sup (sup (sup sg1 41 11 (nI (num / 4))) 41 12 (nI (num % 4))) 41 8 (nI 0) 41 4 = nI lim by rw [sup_s, pk_un (by decide), sup_s, pk_un (by decide), sup_s, pk_un (by decide), ho 41 (by decide)]; exact h4) ?_
        refine ew_put g qd_M_transact_49 qf_M_81 (qp_M_gas _) (by decide) rfl rfl ?_
        refine ew_aload_n g qd_M_transact_52 rfl ?_
        refine ew_iconst g qd_M_transact_53 ic_0 ?_
        refine ew_put g qd_M_transact_54 qf_M_78 (qp_M_at _) (by decide) rfl rfl ?_
        refine ew_aload_n g qd_M_transact_57 rfl ?_
        refine ew_iconst g qd_M_transact_58 ic_0 ?_
        refine en_top bI_f.symm ?_
        refine ew_put g qd_M_transact_59 qf_M_108 (qp_M_sent _) (by decide) rfl rfl ?_
        refine ew_aload_n g qd_M_transact_62 rfl ?_
        refine ew_getR g qd_M_transact_63 qf_M_32 (by decide) rfl rfl ?_
        refine ew_iload_n g qd_M_transact_66 rfl ?_
        refine ew_iconst g qd_M_transact_67 ic_0 ?_
        refine en_iast g qd_M_transact_68 (by decide) rfl (by omega) (by omega) ?_
        refine ew_iconst g qd_M_transact_69 ic_5 ?_
        refine ew_istore_n g qd_M_transact_70 (by decide) ?_
        generalize hs2 : sup (sup (sup (sup (sup (sup (sup sg1 41 11 (nI (num / 4))) 41 12 (nI (num % 4))) 41 8 (nI 0)) 41 9 (nI lim)) 41 10 (nI 0)) 41 14 (bI false)) 48 t (nI 0) = sg2
        have e41 : sg2 41 = upd (upd (upd (upd (upd (upd (sg 41) 11 (nI (num / 4))) 12 (nI (num % 4))) 8 (nI 0)) 9 (nI lim)) 10 (nI 0)) 14 (bI false) := by
          rw [← hs2, sup_n (by decide)]
          simp only [sup_s]
          rw [ho 41 (by decide)]
        have eo : ∀ o, o ≠ 41 → o ≠ 45 → o ≠ 48 → sg2 o = sg o := fun o q1 q2 q3 => by
          rw [← hs2, sup_n q3]
          simp only [sup_n q1]
          exact ho o q2
        have e45 : ∀ j, j < 5 → sg2 45 j = nI (c j) := fun j hj => by
          rw [← hs2, sup_n (by decide)]
          simp only [sup_n (show (45 : Nat) ≠ 41 by decide)]
          exact hbef j hj
        have e48 : sg2 48 = upd (sg 48) t (nI 0) := by
          rw [← hs2, sup_s]
          simp only [sup_n (show (48 : Nat) ≠ 41 by decide)]
          rw [ho 48 (by decide)]
        refine hloop 41 (pBeg lim c 5) _ sg2 (by show lim < 41; omega) rfl ?_ ⟨by rw [e48, pk_us]; rfl, Nat.zero_le 41, fun i hi => absurd hi (Nat.not_lt_zero i)⟩ (by show 0 + lim ≤ 40; omega) ⟨fun o q1 q2 q3 q4 q5 q6 q7 q8 => eo o q1 q3 q6, fun i q1 q2 q3 q4 q5 q6 q7 => ?_, fun p _ => by rw [eo 47 (by decide) (by decide) (by decide)], fun u hu => ⟨by rw [e48, pk_un hu], by rw [eo 49 (by decide) (by decide) (by decide)]⟩⟩ e45 (fun r hr => by rw [hr]; rfl)
        · unfold mM
          rw [e41, eo 46 (by decide) (by decide) (by decide), eo 44 (by decide) (by decide) (by decide), eo 50 (by decide) (by decide) (by decide)]
          refine ⟨⟨Nat.zero_le 6, fun i hi => absurd hi (Nat.not_lt_zero i), hc, hl, Nat.zero_le _⟩, by simp [upd, pBeg, pDe], fun i hi => absurd hi (Nat.not_lt_zero i), h44, by simp [upd, pBeg, pGa], by simp [upd, pBeg, pAt], by simp [upd, pBeg, pSe], fun kd hk i hi => ?_, ⟨by simp [upd], by omega⟩, ⟨by simp [upd], by omega⟩⟩
          rw [hf0 kd hk i hi]
          show f0 kd i = (f0 kd i || false)
          simp
        · rw [e41, pk_un q7, pk_un q3, pk_un q2, pk_un q1, pk_un q5, pk_un q4]
      · omega
    | succ d ih =>
      intro i sg1 hi hbef ho
      refine ew_iload_n g qd_M_transact_2 rfl ?_
      refine ew_iconst g qd_M_transact_3 ic_5 ?_
      refine en_ge g qd_M_transact_4 (tgt := 25) (by decide) (by omega) (by omega) (fun hz => ?_) (fun hz => ?_)
      · omega
      · refine ew_aload_n g qd_M_transact_7 rfl ?_
        refine ew_getR g qd_M_transact_8 qf_M_23 (by decide) rfl rfl ?_
        refine ew_iload_n g qd_M_transact_11 rfl ?_
        refine ew_aload_n g qd_M_transact_12 rfl ?_
        refine ew_getR g qd_M_transact_13 qf_M_20 (by decide) rfl rfl ?_
        refine ew_iload_n g qd_M_transact_16 rfl ?_
        refine en_iald g qd_M_transact_17 (by decide) rfl (by omega) (by omega) (show sg1 44 i = nI (c i) by rw [ho 44 (by decide)]; exact h44 i (by omega)) ?_
        refine en_iast g qd_M_transact_18 (by decide) rfl (by omega) (by omega) ?_
        refine ew_iinc g qd_M_transact_19 (by decide) rfl (ii_1 _) ?_
        refine ew_goto g qd_M_transact_22 (tgt := 2) (by decide) ?_
        refine ih (i + 1) _ (by omega) (fun j hj => ?_) (fun o q => by rw [sup_n q]; exact ho o q)
        rw [sup_s]
        by_cases ej : j = i
        · rw [ej, pk_us]
        · rw [pk_un ej]; exact hbef j (by omega)
  refine ew_iconst g qd_M_transact_0 ic_0 ?_
  refine ew_istore_n g qd_M_transact_1 (by decide) ?_
  exact hcopy 5 0 sg rfl (fun j hj => absurd hj (Nat.not_lt_zero j)) (fun _ _ => rfl)
