/-! CarvedWeeks: lay -/
/-- the same kinds, and the same links but for the class's own -/
def SGe (sg sg' : SG) : Prop := sg'.2.2.1 = sg.2.2.1 ∧ ∀ q, q ≠ 0 → sg'.2.2.2 q = sg.2.2.2 q
theorem SGe.refl {sg : SG} : SGe sg sg := ⟨rfl, fun _ _ => rfl⟩
theorem SGe.trans {a b c : SG} (h : SGe a b) (k : SGe b c) : SGe a c := ⟨k.1.trans h.1, fun q hq => (k.2 q hq).trans (h.2 q hq)⟩
section SGE
variable {sg sg' : SG} {I : IM}
theorem Tab.sge {t a mx w n : Nat} (h : Tab sg I t a mx w n) (e : SGe sg sg') (ht : t ≠ 0) : Tab sg' I t a mx w n := by
  obtain ⟨h1, h2, h3, h4⟩ := h
  exact ⟨by rw [e.1]; exact h1, by rw [e.2 t ht]; exact h2, by rw [e.1]; exact h3, h4⟩
theorem TownK.sge {T : Nat} (h : TownK sg T) (e : SGe sg sg') (ht : T ≠ 0) : TownK sg' T := by
  unfold TownK at h ⊢
  rw [e.1, e.2 T ht]; exact h
theorem WeekK.sge {w : Nat} (h : WeekK sg w) (e : SGe sg sg') (ht : w ≠ 0) : WeekK sg' w := by
  unfold WeekK at h ⊢
  rw [e.1, e.2 w ht]; exact h
theorem CTown.sge {T : Nat} {tv : TV} (h : CTown sg I T tv) (e : SGe sg sg') (ht : T ≠ 0) : CTown sg' I T tv := by
  obtain ⟨h1, h2, h3, ⟨a1, a2⟩, ⟨b1, b2⟩, ⟨c1, c2⟩, ⟨d1, d2⟩⟩ := h
  exact ⟨h1.sge e ht, h2, h3, ⟨a1.sge e (by omega), a2⟩, ⟨b1.sge e (by omega), b2⟩, ⟨c1.sge e (by omega), c2⟩, ⟨d1.sge e (by omega), d2⟩⟩
theorem CWlds.sge {T : Nat} {tv : TV} (h : CWlds sg I T tv) (e : SGe sg sg') : CWlds sg' I T tv := ⟨h.1.sge e (by omega), h.2⟩
theorem TownSh.sge {T : Nat} (h : TownSh sg I T) (e : SGe sg sg') (ht : T ≠ 0) : TownSh sg' I T := by
  obtain ⟨h1, ⟨a, ha⟩, ⟨b, hb⟩, ⟨c, hc⟩, ⟨d, hd⟩, ⟨f, hf⟩⟩ := h
  exact ⟨h1.sge e ht, ⟨a, ha.sge e (by omega)⟩, ⟨b, hb.sge e (by omega)⟩, ⟨c, hc.sge e (by omega)⟩, ⟨d, hd.sge e (by omega)⟩, ⟨f, hf.sge e (by omega)⟩⟩
theorem WeekSh.sge {w : Nat} (h : WeekSh sg I w) (e : SGe sg sg') (ht : w ≠ 0) : WeekSh sg' I w := by
  obtain ⟨h1, ⟨a, ha⟩, ⟨b, hb⟩⟩ := h
  exact ⟨h1.sge e ht, ⟨a, ha.sge e (by omega)⟩, ⟨b, hb.sge e (by omega)⟩⟩
theorem CWeek.sge {w np : Nat} {W : WV} (h : CWeek sg I w W np) (e : SGe sg sg') (ht : w ≠ 0) : CWeek sg' I w W np := by
  obtain ⟨h1, h2, h3, ⟨a1, a2⟩, b1, b2⟩ := h
  exact ⟨h1.sge e ht, h2, h3, ⟨a1.sge e (by omega), a2⟩, b1.sge e (by omega), b2⟩
theorem CShelf.sge {S M np : Nat} {v : SV} (h : CShelf sg I S M np v) (e : SGe sg sg') (ht : S ≠ 0) : CShelf sg' I S M np v := by
  obtain ⟨⟨k1, k2, k3, k4, k5, k6⟩, h2, h3, h4, b, h5, h6, h7⟩ := h
  exact ⟨⟨by rw [e.1]; exact k1, by rw [e.2 S ht]; exact k2, by rw [e.1]; exact k3, fun i hi => by rw [e.2 (S + 1) (by omega)]; exact k4 i hi, k5, k6⟩, fun i hi => (h2 i hi).sge e (by omega), h3, h4, b, h5, h6, fun i hi => (h7 i hi).sge e (by omega)⟩
theorem CShelf.empty {S M np np' : Nat} {v : SV} (h : CShelf sg I S M np v) : CShelf sg (upI I S 2 (nI 0)) S M np' (0, v.2) := by
  obtain ⟨h1, h2, h3, h4, b, h5, h6, h7⟩ := h.clear
  exact ⟨h1, h2, h3, h4, b, h5, h6, fun i hi => absurd hi (Nat.not_lt_zero i)⟩
theorem CTxt.sge {x : XV} (h : CTxt sg I x) (e : SGe sg sg') : CTxt sg' I x := ⟨h.1.sge e (by decide), h.2⟩
end SGE
def layB (x : XV) : Prop := flt x = none ∧ 0 < (tP (tolT x)).1 ∧ 0 < (tS (tolT x)).1 ∧ lawB (tolT x) (tX (tolT x)) = true
noncomputable def lTv (x : XV) (tv : TV) : TV := open Classical in if layB x then tolT x else tv
noncomputable def gLay (x : XV) (W : WV) (P K : SV) : RS := open Classical in if layB x then (x, begV (tolT x), (0, P.2), (0, K.2), nI (nw' (tolT x))) else (x, W, P, K, -2)
def lyQ (sg : SG) (I : IM) (tv : TV) (r0 : RS) : Option Value → SG → IM → Prop := fun a0 s0 J => a0 = some (.int r0.2.2.2.2) ∧ SGe sg s0 ∧ s0.1 = sg.1 ∧ s0.2.1 = sg.2.1 ∧ (∀ q, 92 ≤ q → J q = I q) ∧ ∃ A B, CSt s0 J A B r0.1 tv r0.2.1 r0.2.2.1 r0.2.2.2.1
theorem tol_ok {x : XV} : TVok (tolT x) := (rd_ok (x := x) (n := 200) (p := 0) init_ok).1
theorem beg_ok {tv : TV} (hok : TVok tv) (hl : lawB tv (tX tv) = true) : WKok tv (begV tv) := by
  refine ⟨⟨hok.2.2.1, hl, (by decide : (0 : Nat) < 100000), ⟨Nat.zero_le _, fun m hm => absurd hm (Nat.not_lt_zero m), fun s hs => Nat.zero_le _⟩, fun i hi => (hok.2.2.2.2.1 i hi).1⟩, Nat.zero_le _⟩
theorem ok_lay {x : XV} {tv : TV} {W : WV} {P K : SV} (hS : STok x tv W P K) : RSok (lTv x tv) (gLay x W P K) := by
  classical
  unfold lTv gLay
  by_cases h : layB x
  · rw [if_pos h, if_pos h]
    exact ⟨hS.1, tol_ok, h.2.1, h.2.2.1, beg_ok tol_ok h.2.2.2, ⟨Nat.zero_le _, fun i hi => absurd hi (Nat.not_lt_zero i)⟩, ⟨Nat.zero_le _, fun i hi => absurd hi (Nat.not_lt_zero i)⟩⟩
  · rw [if_neg h, if_neg h]; exact hS
section LAY
variable {g : GC} {sg : SG} {I : IM} {A B : Nat} {x : XV} {tv : TV} {W : WV} {P K : SV}
theorem X_lay (hC : CSt sg I A B x tv W P K) (hS : STok x tv W P K) : Ct m_X5_lay g [rf g 0] sg I (lyQ sg I (lTv x tv) (gLay x W P K)) := by
  classical
  have hC0 := hC
  obtain ⟨hX0, hok, hnp, hns, ⟨hWok, hwk⟩, hPok, hKok⟩ := hS
  obtain ⟨⟨kc, c0, c1, c2, c3, c4, c5, c6, hAB, kt, u0, u1⟩, ⟨hXt, cX⟩, ⟨nn, hNt⟩, hPs, hKs, hW, hD, ⟨hT, hWl⟩, hB⟩ := hC
  have hmk := hWok.2.2.2.1
  have hn12 := hmk.1
  have hF1 := hok.1
  have hF8 := hok.2.1
  have h256 := p2_le8 hF8
  have h16 := p2_le16 hF8
  have hnw := nw_le hF8
  have hnw0 := nw_pos hWok
  have htr := hWok.1
  obtain ⟨⟨wk, w0, w1⟩, we2, we3, ⟨hM, cM⟩, hH, cH⟩ := id hW
  obtain ⟨⟨tk, t0, t1, t2, t3, t4⟩, tF5, tX6, ⟨hLt, cL⟩, ⟨hPt, cP⟩, ⟨hSt, cS⟩, ⟨hBt, cB⟩⟩ := id hT
  obtain ⟨hWt, cW⟩ := id hWl
  have kX := hXt.1
  have kM := hM.1
  have kH := hH.1
  have kL := hLt.1
  have kP := hPt.1
  have kS := hSt.1
  have kB := hBt.1
  have kW := hWt.1
  have nL10 := hLt.2.2.2.2.2.2.1
  have nP5 := hPt.2.2.2.2.2.2.1
  have nS5 := hSt.2.2.2.2.2.2.1
  have nB6 := hBt.2.2.2.2.2.2.1
  have kP0 := hPs.1.1
  have kK0 := hKs.1.1
  have hN2 : TxK sg := ⟨kt, u0, u1⟩
  have hok2 := tol_ok (x := x)
  refine Ct.of rfl (Nat.le_of_ble_eq_true rfl) fun X => ?_
  show V X _ sg I 0 [some (rf g 0), none] []
  have hno : ∀ J, (∀ q, q ≠ 1 → q ≠ 4 → q ≠ 5 → (q < B ∨ B + 11 ≤ q) → J q = I q) → (∃ m, Tab sg J 4 5 3 1 m) → TownSh sg J B → ¬ layB x → lyQ sg I (lTv x tv) (gLay x W P K) (some (.int (-2))) sg J := by
    intro J hf hm hB9 hl
    unfold lTv gLay
    rw [if_neg hl, if_neg hl]
    exact ⟨rfl, SGe.refl, rfl, rfl, fun q hq => hf q (by omega) (by omega) (by omega) (by omega), A, B, hC0.drafted hf hm hB9⟩
  refine V_aload_n rfl dX5_lay_0 ?_
  refine gf_X5_10 (by assumption) (by assumption) rfl dX5_lay_1 ?_
  refine V_aload_n rfl dX5_lay_4 ?_
  refine gf_X5_45 (by assumption) (by assumption) rfl dX5_lay_5 ?_
  refine cl_X5_70 (C_readInto hN2 ⟨hXt, cX⟩ hX0 hNt hB (by omega)) (by assumption) rfl rfl ft0 (Nat.le_of_ble_eq_true rfl) dX5_lay_8 (fun rr s9 J9 hq => ?_)
  obtain ⟨hs, hf, hm, rfl, hB9, hq⟩ := hq
  have hs := hs.symm
  subst hs
  cases hfl : flt x with
  | some p =>
    have hnl : ¬ layB x := fun z => by rw [z.1] at hfl; cases hfl
    have hpn : ¬ nI p = -4 ∨ nI p = -4 := (Classical.em _).symm
    sorry
  | none => sorry
end LAY
