/-! CarvedWeeks: lay -/
/-- the same kinds, and the same links but for the class's own -/
def SGe (sg sg' : SG) : Prop := sg'.2.2.1 = sg.2.2.1 ∧ ∀ q, q ≠ 0 → sg'.2.2.2 q = sg.2.2.2 q
theorem SGe.refl {sg : SG} : SGe sg sg := ⟨rfl, fun _ _ => rfl⟩
theorem SGe.trans {a b c : SG} (h : SGe a b) (k : SGe b c) : SGe a c := ⟨k.1.trans h.1, fun q hq => (k.2 q hq).trans (h.2 q hq)⟩
section SGE
variable {sg sg' : SG} {I : IM}
theorem Tab.sge {t a mx w n : Nat} (h : Tab sg I t a mx w n) (e : SGe sg sg') (ht : t ≠ 0) : Tab sg' I t a mx w n := by
  obtain ⟨h1, h2, h3, h4⟩ := h
  exact ⟨by rw [e.1]; exact h1, by rw [e.2 t ht]; exact h2, by rw [e.1]; exact h3, h4⟩
theorem TownK.sge {T : Nat} (h : TownK sg T) (e : SGe sg sg') (ht : T ≠ 0) : TownK sg' T := by
  unfold TownK at h ⊢
  rw [e.1, e.2 T ht]; exact h
theorem WeekK.sge {w : Nat} (h : WeekK sg w) (e : SGe sg sg') (ht : w ≠ 0) : WeekK sg' w := by
  unfold WeekK at h ⊢
  rw [e.1, e.2 w ht]; exact h
theorem CTown.sge {T : Nat} {tv : TV} (h : CTown sg I T tv) (e : SGe sg sg') (ht : T ≠ 0) : CTown sg' I T tv := by
  obtain ⟨h1, h2, h3, ⟨a1, a2⟩, ⟨b1, b2⟩, ⟨c1, c2⟩, ⟨d1, d2⟩⟩ := h
  exact ⟨h1.sge e ht, h2, h3, ⟨a1.sge e (by omega), a2⟩, ⟨b1.sge e (by omega), b2⟩, ⟨c1.sge e (by omega), c2⟩, ⟨d1.sge e (by omega), d2⟩⟩
theorem CWlds.sge {T : Nat} {tv : TV} (h : CWlds sg I T tv) (e : SGe sg sg') : CWlds sg' I T tv := ⟨h.1.sge e (by omega), h.2⟩
theorem TownSh.sge {T : Nat} (h : TownSh sg I T) (e : SGe sg sg') (ht : T ≠ 0) : TownSh sg' I T := by
  obtain ⟨h1, ⟨a, ha⟩, ⟨b, hb⟩, ⟨c, hc⟩, ⟨d, hd⟩, ⟨f, hf⟩⟩ := h
  exact ⟨h1.sge e ht, ⟨a, ha.sge e (by omega)⟩, ⟨b, hb.sge e (by omega)⟩, ⟨c, hc.sge e (by omega)⟩, ⟨d, hd.sge e (by omega)⟩, ⟨f, hf.sge e (by omega)⟩⟩
theorem WeekSh.sge {w : Nat} (h : WeekSh sg I w) (e : SGe sg sg') (ht : w ≠ 0) : WeekSh sg' I w := by
  obtain ⟨h1, ⟨a, ha⟩, ⟨b, hb⟩⟩ := h
  exact ⟨h1.sge e ht, ⟨a, ha.sge e (by omega)⟩, ⟨b, hb.sge e (by omega)⟩⟩
theorem CWeek.sge {w np : Nat} {W : WV} (h : CWeek sg I w W np) (e : SGe sg sg') (ht : w ≠ 0) : CWeek sg' I w W np := by
  obtain ⟨h1, h2, h3, ⟨a1, a2⟩, b1, b2⟩ := h
  exact ⟨h1.sge e ht, h2, h3, ⟨a1.sge e (by omega), a2⟩, b1.sge e (by omega), b2⟩
theorem CShelf.sge {S M np : Nat} {v : SV} (h : CShelf sg I S M np v) (e : SGe sg sg') (ht : S ≠ 0) : CShelf sg' I S M np v := by
  obtain ⟨⟨k1, k2, k3, k4, k5, k6⟩, h2, h3, h4, b, h5, h6, h7⟩ := h
  exact ⟨⟨by rw [e.1]; exact k1, by rw [e.2 S ht]; exact k2, by rw [e.1]; exact k3, fun i hi => by rw [e.2 (S + 1) (by omega)]; exact k4 i hi, k5, k6⟩, fun i hi => (h2 i hi).sge e (by omega), h3, h4, b, h5, h6, fun i hi => (h7 i hi).sge e (by omega)⟩
theorem CShelf.empty {S M np np' : Nat} {v : SV} (h : CShelf sg I S M np v) : CShelf sg (upI I S 2 (nI 0)) S M np' (0, v.2) := by
  obtain ⟨h1, h2, h3, h4, b, h5, h6, h7⟩ := h.clear
  exact ⟨h1, h2, h3, h4, b, h5, h6, fun i hi => absurd hi (Nat.not_lt_zero i)⟩
theorem CTxt.sge {x : XV} (h : CTxt sg I x) (e : SGe sg sg') : CTxt sg' I x := ⟨h.1.sge e (by decide), h.2⟩
end SGE
def layB (x : XV) : Bool := (flt x).isNone && (decide (0 < (tP (tolT x)).1) && (decide (0 < (tS (tolT x)).1) && lawB (tolT x) (tX (tolT x))))
theorem layB_t {x : XV} (h : layB x = true) : flt x = none ∧ 0 < (tP (tolT x)).1 ∧ 0 < (tS (tolT x)).1 ∧ lawB (tolT x) (tX (tolT x)) = true := by
  unfold layB at h
  simp only [Bool.and_eq_true, decide_eq_true_eq, Option.isNone_iff_eq_none] at h
  exact h
theorem layB_of {x : XV} (h : flt x = none ∧ 0 < (tP (tolT x)).1 ∧ 0 < (tS (tolT x)).1 ∧ lawB (tolT x) (tX (tolT x)) = true) : layB x = true := by
  unfold layB
  simp only [Bool.and_eq_true, decide_eq_true_eq, Option.isNone_iff_eq_none]
  exact h
def lTv (x : XV) (tv : TV) : TV := if layB x = true then tolT x else tv
def gLay (x : XV) (W : WV) (P K : SV) : RS := if layB x = true then (x, begV (tolT x), (0, P.2), (0, K.2), nI (nw' (tolT x))) else (x, W, P, K, -2)
theorem rd_flt {x : XV} : ∀ {n p : Nat} {s : PS} {q : Nat}, (rdF x n p s).1 = some q → q < x.1
  | 0, _, _, _, h => by cases h
  | n + 1, p, s, q, h => by
    rw [rdF] at h
    by_cases c : p < x.1
    · rw [if_pos c] at h
      cases hy : itF x s p with
      | none => rw [hy] at h; cases h; exact c
      | some y => rw [hy] at h; exact rd_flt h
    · rw [if_neg c] at h; cases h
def lyQ (sg : SG) (I : IM) (tv : TV) (r0 : RS) : Option Value → SG → IM → Prop := fun a0 s0 J => a0 = some (.int r0.2.2.2.2) ∧ SGe sg s0 ∧ s0.1 = sg.1 ∧ s0.2.1 = sg.2.1 ∧ (∀ q, 92 ≤ q → J q = I q) ∧ ∃ A B, CSt s0 J A B r0.1 tv r0.2.1 r0.2.2.1 r0.2.2.2.1
theorem tol_ok {x : XV} : TVok (tolT x) := (rd_ok (x := x) (n := 200) (p := 0) init_ok).1
theorem beg_ok {tv : TV} (hok : TVok tv) (hl : lawB tv (tX tv) = true) : WKok tv (begV tv) := by
  refine ⟨⟨hok.2.2.1, hl, (by decide : (0 : Nat) < 100000), ⟨Nat.zero_le _, fun m hm => absurd hm (Nat.not_lt_zero m), fun s hs => Nat.zero_le _⟩, fun i hi => (hok.2.2.2.2.1 i hi).1⟩, Nat.zero_le _⟩
theorem ok_lay {x : XV} {tv : TV} {W : WV} {P K : SV} (hS : STok x tv W P K) : RSok (lTv x tv) (gLay x W P K) := by
  unfold lTv gLay
  by_cases h : layB x = true
  · rw [if_pos h, if_pos h]
    have h := layB_t h
    exact ⟨hS.1, tol_ok, h.2.1, h.2.2.1, beg_ok tol_ok h.2.2.2, ⟨Nat.zero_le _, fun i hi => absurd hi (Nat.not_lt_zero i)⟩, ⟨Nat.zero_le _, fun i hi => absurd hi (Nat.not_lt_zero i)⟩⟩
  · rw [if_neg h, if_neg h]; exact hS
section LAY
variable {g : GC} {sg : SG} {I : IM} {A B : Nat} {x : XV} {tv : TV} {W : WV} {P K : SV}
theorem X_lay (hC : CSt sg I A B x tv W P K) (hS : STok x tv W P K) : Ct m_X5_lay g [rf g 0] sg I (lyQ sg I (lTv x tv) (gLay x W P K)) := by
  have hC0 := hC
  obtain ⟨hX0, hok, hnp, hns, ⟨hWok, hwk⟩, hPok, hKok⟩ := hS
  obtain ⟨⟨kc, c0, c1, c2, c3, c4, c5, c6, hAB, kt, u0, u1⟩, ⟨hXt, cX⟩, ⟨nn, hNt⟩, hPs, hKs, hW, hD, ⟨hT, hWl⟩, hB⟩ := hC
  have hmk := hWok.2.2.2.1
  have hn12 := hmk.1
  have hF1 := hok.1
  have hF8 := hok.2.1
  have h256 := p2_le8 hF8
  have h16 := p2_le16 hF8
  have hnw := nw_le hF8
  have hnw0 := nw_pos hWok
  have htr := hWok.1
  obtain ⟨⟨wk, w0, w1⟩, we2, we3, ⟨hM, cM⟩, hH, cH⟩ := id hW
  obtain ⟨⟨tk, t0, t1, t2, t3, t4⟩, tF5, tX6, ⟨hLt, cL⟩, ⟨hPt, cP⟩, ⟨hSt, cS⟩, ⟨hBt, cB⟩⟩ := id hT
  obtain ⟨hWt, cW⟩ := id hWl
  have kX := hXt.1
  have kM := hM.1
  have kH := hH.1
  have kL := hLt.1
  have kP := hPt.1
  have kS := hSt.1
  have kB := hBt.1
  have kW := hWt.1
  have nL10 := hLt.2.2.2.2.2.2.1
  have nP5 := hPt.2.2.2.2.2.2.1
  have nS5 := hSt.2.2.2.2.2.2.1
  have nB6 := hBt.2.2.2.2.2.2.1
  have kP0 := hPs.1.1
  have kK0 := hKs.1.1
  have hN2 : TxK sg := ⟨kt, u0, u1⟩
  have hok2 := tol_ok (x := x)
  refine Ct.of rfl (Nat.le_of_ble_eq_true rfl) fun X => ?_
  show V X _ sg I 0 [some (rf g 0), none] []
  have hno : ∀ J, (∀ q, q ≠ 1 → q ≠ 4 → q ≠ 5 → (q < B ∨ B + 11 ≤ q) → J q = I q) → (∃ m, Tab sg J 4 5 3 1 m) → TownSh sg J B → ¬ layB x = true → lyQ sg I (lTv x tv) (gLay x W P K) (some (.int (-2))) sg J := by
    intro J hf hm hB9 hl
    unfold lTv gLay
    rw [if_neg hl, if_neg hl]
    exact ⟨rfl, SGe.refl, rfl, rfl, fun q hq => hf q (by omega) (by omega) (by omega) (by omega), A, B, hC0.drafted hf hm hB9⟩
  have hyes : ∀ J, (∀ q, q ≠ 1 → q ≠ 4 → q ≠ 5 → (q < B ∨ B + 11 ≤ q) → J q = I q) → (∃ m, Tab sg J 4 5 3 1 m) → TownSh sg J B → CTown sg J B (tolT x) → Tab sg J (B + 9) (B + 10) 256 2 0 → flt x = none → 0 < (tP (tolT x)).1 → 0 < (tS (tolT x)).1 → lawB (tolT x) (tX (tolT x)) = true → V X (ZQ X (lyQ sg I (lTv x tv) (gLay x W P K))) sg J 64 [some (rf g 0), none] [] := by
    intro J hf hm hB9 hTB hWB hfl y2 y3 y4
    have hl : layB x = true := layB_of ⟨hfl, y2, y3, y4⟩
    have e1 : lTv x tv = tolT x := if_pos hl
    have e2 : gLay x W P K = (x, begV (tolT x), (0, P.2), (0, K.2), nI (nw' (tolT x))) := if_pos hl
    rw [e1, e2]
    have hJC := hC0.drafted hf hm hB9
    obtain ⟨-, jTx, -, jPs, jKs, jW, jD, ⟨jT, jWl⟩, -⟩ := id hJC
    refine V_aload_n rfl dX5_lay_64 ?_
    refine gf_X5_41 (by assumption) (by assumption) rfl dX5_lay_65 ?_
    refine V_ast1 rfl rfl dX5_lay_68 ?_
    refine V_aload_n rfl dX5_lay_69 ?_
    refine V_aload_n rfl dX5_lay_70 ?_
    refine gf_X5_45 (by assumption) (by assumption) rfl dX5_lay_71 ?_
    refine pf_X5_41 (by assumption) rfl dX5_lay_74 ?_
    refine V_aload_n rfl dX5_lay_77 ?_
    refine V_aload_n rfl dX5_lay_78 ?_
    refine pf_X5_45 (by assumption) rfl dX5_lay_79 ?_
    obtain ⟨S2, hS2⟩ : ∃ S2, S2 = sgR (sgR sg (upR sg.2.2.2 0 5 (some B))) (upR (sgR sg (upR sg.2.2.2 0 5 (some B))).2.2.2 0 6 (some A)) := ⟨_, rfl⟩
    show V X _ (sgR (sgR sg (upR sg.2.2.2 0 5 (some B))) (upR (sgR sg (upR sg.2.2.2 0 5 (some B))).2.2.2 0 6 (some A))) J 82 [some (rf g 0), some (rf g A)] []
    rw [← hS2]
    have hSE : SGe sg S2 := ⟨by rw [hS2], fun q hq => by rw [hS2]; exact funext fun k => (upR_ne (Or.inl hq)).trans (upR_ne (Or.inl hq))⟩
    have hr : ∀ k, S2.2.2.2 0 k = if k = 6 then some A else if k = 5 then some B else sg.2.2.2 0 k := by
      intro k
      rw [hS2]
      show upR (upR sg.2.2.2 0 5 (some B)) 0 6 (some A) 0 k = _
      by_cases c6 : k = 6
      · rw [if_pos c6, c6]; exact upR_eq
      · rw [if_neg c6, upR_ne (Or.inr c6)]
        by_cases c5 : k = 5
        · rw [if_pos c5, c5]; exact upR_eq
        · rw [if_neg c5, upR_ne (Or.inr c5)]
    have hS1 : S2.1 = sg.1 := by rw [hS2]
    have hS21 : S2.2.1 = sg.2.1 := by rw [hS2]
    have hfit : S2.1 - sg.1 + 0 ≤ 0 ∧ S2.2.1 - sg.2.1 + 0 ≤ 0 := by rw [hS1, hS21]; exact ⟨by omega, by omega⟩
    have kc2 : (S2.2.2.1 0).1 = 5 := by rw [hSE.1]; exact kc
    have d1 : S2.2.2.2 0 1 = some 6 := (hr 1).trans c1
    have d2 : S2.2.2.2 0 2 = some 48 := (hr 2).trans c2
    have d3 : S2.2.2.2 0 3 = some 60 := (hr 3).trans c3
    have d5 : S2.2.2.2 0 5 = some B := hr 5
    have d6 : S2.2.2.2 0 6 = some A := hr 6
    have d0 : S2.2.2.2 0 0 = some 1 := (hr 0).trans c0
    have d4 : S2.2.2.2 0 4 = some 65 := (hr 4).trans c4
    have hTB2 := hTB.sge hSE (by omega)
    have hWB2 := hWB.sge hSE (by omega)
    have kT2 := hTB2.1.1
    have kNow : (S2.2.2.1 60).1 = 4 := by rw [hSE.1]; exact wk
    have hP2 := jPs.sge hSE (by decide)
    have hK2 := jKs.sge hSE (by decide)
    have kP2 := hP2.1.1
    have kK2 := hK2.1.1
    have t94 := hTB2.1.2.2.2.2.2
    refine V_aload_n rfl dX5_lay_82 ?_
    refine gf_X5_41 (by assumption) (by assumption) rfl dX5_lay_83 ?_
    refine cl_X5_74 (C_findWorlds hTB2 hWB2 hok2) (by assumption) rfl rfl hfit (Nat.le_of_ble_eq_true rfl) dX5_lay_86 (fun rr s8 J2 hq => ?_)
    obtain ⟨rfl, hs, q1, hf2⟩ := hq
    have hs := hs.symm
    subst hs
    show V X _ S2 J2 89 _ []
    have hT3 := hTB2.other (fun q q1 q2 => hf2 q (by omega) (by omega))
    refine V_aload_n rfl dX5_lay_89 ?_
    refine gf_X5_31 (by assumption) (by assumption) rfl dX5_lay_90 ?_
    refine V_aload_n rfl dX5_lay_93 ?_
    refine gf_X5_41 (by assumption) (by assumption) rfl dX5_lay_94 ?_
    refine cl_X5_77 (C_begin hT3 (jW.sh.sge hSE (by decide) |>.other (fun q _ _ => hf2 q (by omega) (by omega))) hok2 (by unfold aprt; omega)) (by assumption) rfl rfl hfit (Nat.le_of_ble_eq_true rfl) dX5_lay_97 (fun rr2 s7 J3 hq => ?_)
    obtain ⟨rfl, hs, p1, hf3⟩ := hq
    have hs := hs.symm
    subst hs
    unfold outW at hf3
    show V X _ S2 J3 100 _ []
    have hP3 := (hP2.other (fun q _ _ => hf2 q (by omega) (by omega))).other (fun q _ _ => hf3 q (by omega))
    have hK3 := (hK2.other (fun q _ _ => hf2 q (by omega) (by omega))).other (fun q _ _ => hf3 q (by omega))
    refine V_aload_n rfl dX5_lay_100 ?_
    refine gf_X5_21 (by assumption) (by assumption) rfl dX5_lay_101 ?_
    refine cf_X5_101 (C_sClear hP3) (by assumption) rfl rfl hfit (Nat.le_of_ble_eq_true rfl) dX5_lay_104 ?_
    refine V_aload_n rfl dX5_lay_107 ?_
    refine gf_X5_25 (by assumption) (by assumption) rfl dX5_lay_108 ?_
    refine cf_X5_101 (C_sClear (hK3.other (fun q _ _ => funext fun k => upI_ne (Or.inl (by omega))))) (by assumption) rfl rfl hfit (Nat.le_of_ble_eq_true rfl) dX5_lay_111 ?_
    obtain ⟨J5, hJ5⟩ : ∃ J5, J5 = upI (upI J3 6 2 (nI 0)) 48 2 (nI 0) := ⟨_, rfl⟩
    rw [← hJ5]
    have hf5 : ∀ q, q ≠ 6 → q ≠ 48 → J5 q = J3 q := fun q a b => by rw [hJ5]; exact funext fun k => by rw [upI_ne (Or.inl b), upI_ne (Or.inl a)]
    have hW5 := (q1.1.other (hf3 _ (by omega))).other (hf5 _ (by omega) (by omega))
    have kW5 := hW5.1
    refine V_aload_n rfl dX5_lay_114 ?_
    refine gf_X5_41 (by assumption) (by assumption) rfl dX5_lay_115 ?_
    refine gf_X5_102 (by assumption) (by assumption) rfl dX5_lay_118 ?_
    refine cf_X5_84 (C_size hW5) (by assumption) rfl rfl hfit (Nat.le_of_ble_eq_true rfl) dX5_lay_121 ?_
    refine V_iret rfl hS1 hS21 ?_ dX5_lay_124
    have hfa : ∀ q, q ≠ 6 → q ≠ 48 → (q < 60 ∨ 65 ≤ q) → q ≠ B + 9 → q ≠ B + 10 → J5 q = J q := fun q a b c d e => (hf5 q a b).trans ((hf3 q c).trans (hf2 q d e))
    obtain ⟨m, hm⟩ := hm
    refine ⟨rfl, hSE, hS1, hS21, fun q hq => (hfa q (by omega) (by omega) (by omega) (by omega) (by omega)).trans (hf q (by omega) (by omega) (by omega) (by omega)), B, A, ⟨kc2, d0, d1, d2, d3, d4, d5, d6, by omega, by rw [hSE.1]; exact kt, by rw [hSE.2 1 (by decide)]; exact u0, by rw [hSE.2 1 (by decide)]; exact u1⟩, (jTx.sge hSE).other (hfa _ (by omega) (by omega) (by omega) (by omega) (by omega)) (hfa _ (by omega) (by omega) (by omega) (by omega) (by omega)), ⟨m, (hm.sge hSE (by decide)).other (hfa _ (by omega) (by omega) (by omega) (by omega) (by omega))⟩, ?_, ?_, p1.other (fun q _ _ => hf5 q (by omega) (by omega)), (jD.sge hSE (by decide)).other (fun q _ _ => hfa q (by omega) (by omega) (by omega) (by omega) (by omega)), ⟨((hT3.other (fun q _ _ => hf3 q (by omega))).other (fun q _ _ => hf5 q (by omega) (by omega))), ((q1.other (fun q _ _ => hf3 q (by omega))).other (fun q _ _ => hf5 q (by omega) (by omega)))⟩, ?_⟩
    · have h9 := (hP3.empty (np' := (tP (tolT x)).1)).other (J := J5) (fun q _ _ => by rw [hJ5]; exact funext fun k => upI_ne (Or.inl (by omega)))
      exact h9
    · have h9 := ((hK3.other (J := upI J3 6 2 (nI 0)) (fun q _ _ => funext fun k => upI_ne (Or.inl (by omega)))).empty (np' := (tP (tolT x)).1))
      rw [← hJ5] at h9
      exact h9
    · exact ((jT.sh jWl).sge hSE (by omega)).other (fun q _ _ => hfa q (by omega) (by omega) (by omega) (by omega) (by omega))
  refine V_aload_n rfl dX5_lay_0 ?_
  refine gf_X5_10 (by assumption) (by assumption) rfl dX5_lay_1 ?_
  refine V_aload_n rfl dX5_lay_4 ?_
  refine gf_X5_45 (by assumption) (by assumption) rfl dX5_lay_5 ?_
  refine cl_X5_70 (C_readInto hN2 ⟨hXt, cX⟩ hX0 hNt hB (by omega)) (by assumption) rfl rfl ft0 (Nat.le_of_ble_eq_true rfl) dX5_lay_8 (fun rr s9 J9 hq => ?_)
  obtain ⟨hs, hf, hm, rfl, hB9, hq⟩ := hq
  have hs := hs.symm
  subst hs
  have hx200 := hX0.1
  cases hfl : flt x with
  | some p =>
    have hnl : ¬ layB x = true := fun z => by rw [(layB_t z).1] at hfl; cases hfl
    have hpl : p < x.1 := rd_flt hfl
    have hn4 : ¬ nI p = -4 := fun e => absurd (nI_ge0 (show p < 2147483648 by omega)) (by rw [e]; decide)
    show V X _ sg J9 11 _ [.int (nI p)]
    refine V_bipush (-4) (by decide) dX5_lay_11 ?_
    refine V_icmp_ne 61 dX5_lay_13 (by decide) (fun h13 => ?_) (fun h13 => absurd h13 (by exact hn4))
    refine V_bipush (-2) (by decide) dX5_lay_61 ?_
    refine V_iret rfl rfl rfl ?_ dX5_lay_63
    exact hno J9 hf hm hB9 hnl
  | none =>
    obtain ⟨hTB, hWB⟩ := hq hfl
    have hkB := hTB.1.1
    obtain ⟨-, b0, b1, b2, b3, b4⟩ := id hTB.1
    obtain ⟨-, bF, bX, ⟨bLt, bL⟩, ⟨bPt, bP⟩, ⟨bSt, bS⟩, -⟩ := id hTB
    have mP5 := bPt.2.2.2.2.2.2.1
    have mS5 := bSt.2.2.2.2.2.2.1
    have kP := bPt.1
    have kS := bSt.1
    show V X _ sg J9 11 _ [.int (-4)]
    refine V_bipush (-4) (by decide) dX5_lay_11 ?_
    refine V_icmp_ne 61 dX5_lay_13 (by decide) (fun h13 => absurd h13 (by exact fun z => z rfl)) (fun h13 => ?_)
    refine V_aload_n rfl dX5_lay_16 ?_
    refine gf_X5_45 (by assumption) (by assumption) rfl dX5_lay_17 ?_
    refine gf_X5_87 (by assumption) (by assumption) rfl dX5_lay_20 ?_
    refine cf_X5_84 (C_size bPt) (by assumption) rfl rfl ft0 (Nat.le_of_ble_eq_true rfl) dX5_lay_23 ?_
    refine V_iconst (nI 1) (by decide) dX5_lay_26 ?_
    refine V_icmp_ltN 61 dX5_lay_27 (by decide) (by omega) (by omega) (fun h27 => ?_) (fun h27 => ?_)
    · skip
      refine V_bipush (-2) (by decide) dX5_lay_61 ?_
      refine V_iret rfl rfl rfl ?_ dX5_lay_63
      exact hno J9 hf hm hB9 (fun z => by obtain ⟨y1, y2, y3, y4⟩ := layB_t z; first | omega | exact absurd y4 h58)
    · skip
      refine V_aload_n rfl dX5_lay_30 ?_
      refine gf_X5_45 (by assumption) (by assumption) rfl dX5_lay_31 ?_
      refine gf_X5_90 (by assumption) (by assumption) rfl dX5_lay_34 ?_
      refine cf_X5_84 (C_size bSt) (by assumption) rfl rfl ft0 (Nat.le_of_ble_eq_true rfl) dX5_lay_37 ?_
      refine V_iconst (nI 1) (by decide) dX5_lay_40 ?_
      refine V_icmp_ltN 61 dX5_lay_41 (by decide) (by omega) (by omega) (fun h41 => ?_) (fun h41 => ?_)
      · skip
        refine V_bipush (-2) (by decide) dX5_lay_61 ?_
        refine V_iret rfl rfl rfl ?_ dX5_lay_63
        exact hno J9 hf hm hB9 (fun z => by obtain ⟨y1, y2, y3, y4⟩ := layB_t z; first | omega | exact absurd y4 h58)
      · skip
        refine V_aload_n rfl dX5_lay_44 ?_
        refine gf_X5_45 (by assumption) (by assumption) rfl dX5_lay_45 ?_
        refine V_aload_n rfl dX5_lay_48 ?_
        refine gf_X5_45 (by assumption) (by assumption) rfl dX5_lay_49 ?_
        refine gfe_X5_93 (by assumption) (by assumption) rfl dX5_lay_52 ?_
        refine cf_X5_97 (C_isWorld hTB hok2 hok2.2.2.1) (by assumption) rfl rfl ft0 (Nat.le_of_ble_eq_true rfl) dX5_lay_55 ?_
        refine V_if_neB 64 dX5_lay_58 (by decide) (fun h58 => ?_) (fun h58 => ?_)
        · skip
          exact hyes J9 hf hm hB9 hTB hWB hfl (by omega) (by omega) h58
        · skip
          refine V_bipush (-2) (by decide) dX5_lay_61 ?_
          refine V_iret rfl rfl rfl ?_ dX5_lay_63
          exact hno J9 hf hm hB9 (fun z => by obtain ⟨y1, y2, y3, y4⟩ := layB_t z; first | omega | exact absurd y4 h58)
end LAY
