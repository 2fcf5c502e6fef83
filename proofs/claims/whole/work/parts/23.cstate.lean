/-! CarvedWeeks: what changes the week, the shelves, the text -/
abbrev RS : Type := XV × WV × SV × SV × Int32
def stQ (sg : SG) (I : IM) (A B : Nat) (tv : TV) (r0 : RS) : Option Value → SG → IM → Prop := fun a0 s0 J => a0 = some (.int r0.2.2.2.2) ∧ s0 = sg ∧ CSt sg J A B r0.1 tv r0.2.1 r0.2.2.1 r0.2.2.2.1 ∧ ∀ q, 92 ≤ q → J q = I q
theorem CTxt.other {sg : SG} {I J : IM} {x : XV} (h : CTxt sg I x) (e2 : J 2 = I 2) (e3 : J 3 = I 3) : CTxt sg J x := ⟨h.1.other e2, fun i hi => by rw [e3]; exact h.2 i hi⟩
theorem CSt.gen {sg : SG} {I J : IM} {A B : Nat} {x x' : XV} {tv : TV} {W W' : WV} {P K P' K' : SV} (h : CSt sg I A B x tv W P K) (h1 : CTxt sg J x') (h2 : CShelf sg J 6 8 (tP tv).1 P') (h3 : CShelf sg J 48 2 (tP tv).1 K') (h4 : CWeek sg J 60 W' (tP tv).1) (e : ∀ q, (q = 4 ∨ q = 5 ∨ (65 ≤ q ∧ q < 92)) → J q = I q) : CSt sg J A B x' tv W' P' K' := by
  obtain ⟨a, b, ⟨m, c⟩, d, f, k, l, ⟨n1, n2⟩, p⟩ := h
  have hAB := a.2.2.2.2.2.2.2.2.1
  exact ⟨a, h1, ⟨m, c.other (e _ (by omega))⟩, h2, h3, h4, l.other (fun q _ _ => e q (by omega)), ⟨n1.other (fun q _ _ => e q (by omega)), n2.other (fun q _ _ => e q (by omega))⟩, p.other (fun q _ _ => e q (by omega))⟩
theorem CSt.now {sg : SG} {I J : IM} {A B : Nat} {x : XV} {tv : TV} {W W' : WV} {P K : SV} (h : CSt sg I A B x tv W P K) (h4 : CWeek sg J 60 W' (tP tv).1) (e : outW 60 I J) : CSt sg J A B x tv W' P K := by
  unfold outW at e
  exact h.gen (h.2.1.other (e _ (by omega)) (e _ (by omega))) (h.2.2.2.1.other (fun q _ _ => e q (by omega))) (h.2.2.2.2.1.other (fun q _ _ => e q (by omega))) h4 (fun q _ => e q (by omega))
theorem CSt.past {sg : SG} {I J : IM} {A B : Nat} {x : XV} {tv : TV} {W : WV} {P P' K : SV} (h : CSt sg I A B x tv W P K) (h4 : CShelf sg J 6 8 (tP tv).1 P') (e : outS 6 8 I J) : CSt sg J A B x tv W P' K := by
  unfold outS at e
  exact h.gen (h.2.1.other (e _ (by omega)) (e _ (by omega))) h4 (h.2.2.2.2.1.other (fun q _ _ => e q (by omega))) (h.2.2.2.2.2.1.other (fun q _ _ => e q (by omega))) (fun q _ => e q (by omega))
theorem CSt.kept {sg : SG} {I J : IM} {A B : Nat} {x : XV} {tv : TV} {W : WV} {P K' K : SV} (h : CSt sg I A B x tv W P K) (h4 : CShelf sg J 48 2 (tP tv).1 K') (e : outS 48 2 I J) : CSt sg J A B x tv W P K' := by
  unfold outS at e
  exact h.gen (h.2.1.other (e _ (by omega)) (e _ (by omega))) (h.2.2.2.1.other (fun q _ _ => e q (by omega))) h4 (h.2.2.2.2.2.1.other (fun q _ _ => e q (by omega))) (fun q _ => e q (by omega))
theorem CSt.txt {sg : SG} {I J : IM} {A B : Nat} {x x' : XV} {tv : TV} {W : WV} {P K : SV} (h : CSt sg I A B x tv W P K) (h1 : CTxt sg J x') (e : ∀ q, q ≠ 2 → q ≠ 3 → J q = I q) : CSt sg J A B x' tv W P K :=
  h.gen h1 (h.2.2.2.1.other (fun q _ _ => e q (by omega) (by omega))) (h.2.2.2.2.1.other (fun q _ _ => e q (by omega) (by omega))) (h.2.2.2.2.2.1.other (fun q _ _ => e q (by omega) (by omega))) (fun q _ => e q (by omega) (by omega))
theorem CWeek.truth {sg : SG} {I : IM} {w np s : Nat} {W : WV} (h : CWeek sg I w W np) : CWeek sg (upI I w 2 (nI s)) w (s, wK W, wM W, wH W) np := by
  have e : ∀ q, q ≠ w → (upI I w 2 (nI s)) q = I q := fun q c => funext fun b => upI_ne (Or.inl c)
  exact ⟨h.1, upI_eq, by rw [upI_ne (Or.inr (by decide))]; exact h.2.2.1, ⟨h.2.2.2.1.1.other (e _ (by omega)), fun k hk c hc => by rw [e _ (by omega)]; exact h.2.2.2.1.2 k hk c hc⟩, h.2.2.2.2.1.other (e _ (by omega)), fun i hi => by rw [e _ (by omega)]; exact h.2.2.2.2.2 i hi⟩
theorem CWeek.hours {sg : SG} {I : IM} {w np i v : Nat} {W : WV} (h : CWeek sg I w W np) : CWeek sg (upI I (w + 4) (i * 1 + 0) (nI v)) w (wT W, wK W, wM W, fun j => if j = i then v else wH W j) np := by
  have e : ∀ q, q ≠ w + 4 → (upI I (w + 4) (i * 1 + 0) (nI v)) q = I q := fun q c => funext fun b => upI_ne (Or.inl c)
  refine ⟨h.1, by rw [e _ (by omega)]; exact h.2.1, by rw [e _ (by omega)]; exact h.2.2.1, ⟨h.2.2.2.1.1.other (e _ (by omega)), fun k hk c hc => by rw [e _ (by omega)]; exact h.2.2.2.1.2 k hk c hc⟩, h.2.2.2.2.1.other (e _ (by omega)), fun j hj => ?_⟩
  show _ = nI (if j = i then v else wH W j)
  by_cases c : j = i
  · subst c; rw [if_pos rfl]; exact upI_eq
  · rw [if_neg c, upI_ne (Or.inr (by omega))]; exact h.2.2.2.2.2 j hj
theorem CShelf.clear {sg : SG} {I : IM} {S M np : Nat} {v : SV} (h : CShelf sg I S M np v) : CShelf sg (upI I S 2 (nI 0)) S M np (0, v.2) := by
  obtain ⟨h1, h2, h3, h4, b, h5, h6, h7⟩ := h
  exact ⟨h1, fun i hi => (h2 i hi).other (fun q q1 _ => funext fun k => upI_ne (Or.inl (by omega))), Nat.zero_le _, upI_eq, b, h5, by rw [upI_ne (Or.inr (by decide))]; exact h6, fun i hi => absurd hi (Nat.not_lt_zero i)⟩
noncomputable def gWrite (x : XV) (W : WV) (P K : SV) (l : Int32) : RS := if nI 32 ≤ l ∧ l ≤ nI 126 then (if x.1 < 200 then ((x.1 + 1, fun i => if i = x.1 then ix l else x.2 i), W, P, K, nI (x.1 + 1)) else (x, W, P, K, -3)) else (x, W, P, K, -1)
def gWipe (x : XV) (W : WV) (P K : SV) : RS := ((0, x.2), W, P, K, nI x.1)
noncomputable def gDeed (x : XV) (tv : TV) (W : WV) (P K : SV) (s : Int32) : RS := ifb s (2 ^ tF tv) (fun s => if lawB tv s = true then (x, (s, wK W, wM W, wH W), pushS 8 P W, K, nI (pc16 (wT W ^^^ s))) else (x, W, P, K, -2)) (x, W, P, K, -1)
noncomputable def gCarve (x : XV) (tv : TV) (W : WV) (P K : SV) (i s f t : Int32) : RS := ifb i (tP tv).1 (fun i => ifb s (tS tv).1 (fun s => ifb f (tF tv) (fun f => if wH W i < hrsN tv s ∨ freeN tv W s = 0 then (x, W, P, K, -2) else if (wM W).1 = 12 then (x, W, P, K, -3) else
  (x, (wT W, wK W, addTB (wM W) (if t = 0 then tsy f (wT W) ^^^ 1 else tsy f (wT W)) s i, fun j => if j = i then wH W i - hrsN tv s else wH W j), pushS 8 P W, K, nI (wM W).1)) (x, W, P, K, -1)) (x, W, P, K, -1)) (x, W, P, K, -1)
noncomputable def gChisel (x : XV) (tv : TV) (W : WV) (P K : SV) (i m : Int32) : RS := ifb i (tP tv).1 (fun i => ifb m (wM W).1 (fun m => if wH W i < hrsN tv ((wM W).2 m 1) then (x, W, P, K, -2) else
  (x, (wT W, wK W, rmTB (wM W) m, fun j => if j = i then wH W i - hrsN tv ((wM W).2 m 1) else wH W j), pushS 8 P W, K, nI ((wM W).1 - 1))) (x, W, P, K, -1)) (x, W, P, K, -1)
def gBell (x : XV) (tv : TV) (W : WV) (P K : SV) : RS := if wK W < 999 then (x, ringV tv W, pushS 8 P W, K, nI (wM (ringV tv W)).1) else (x, W, P, K, -2)
def gUndo (x : XV) (W : WV) (P K : SV) : RS := if P.1 = 0 then (x, W, P, K, -2) else (x, P.2 (P.1 - 1), (P.1 - 1, P.2), K, nI (P.1 - 1))
def gKeep (x : XV) (W : WV) (P K : SV) : RS := if K.1 < 2 then (x, W, P, pushS 2 K W, nI (K.1 + 1)) else (x, W, P, K, -3)
def gBack (x : XV) (W : WV) (P K : SV) : RS := if K.1 = 0 then (x, W, P, K, -2) else (x, K.2 (K.1 - 1), (0, P.2), (K.1 - 1, K.2), nI (K.1 - 1))
theorem pushS_1 {M : Nat} {v : SV} {W : WV} (h : v.1 < M) : (pushS M v W).1 = v.1 + 1 := by unfold pushS; rw [if_pos h]
section CSTATE
variable {g : GC} {sg : SG} {I : IM} {A B : Nat} {x : XV} {tv : TV} {W : WV} {P K : SV}
theorem X_write {l : Int32} (hC : CSt sg I A B x tv W P K) (hS : STok x tv W P K) : Ct m_X5_write g [rf g 0, .int l] sg I (stQ sg I A B tv (gWrite x W P K l)) := by
  have hC0 := hC
  have hS0 := hS
  obtain ⟨hX0, hok, hnp, hns, ⟨hWok, hwk⟩, hPok, hKok⟩ := hS
  obtain ⟨⟨kc, c0, c1, c2, c3, c4, c5, c6, hAB, kt, u0, u1⟩, ⟨hXt, cX⟩, ⟨nn, hNt⟩, hPs, hKs, hW, hD, ⟨hT, hWl⟩, hB⟩ := hC
  have hmk := hWok.2.2.2.1
  have hn12 := hmk.1
  have hF1 := hok.1
  have hF8 := hok.2.1
  have h256 := p2_le8 hF8
  have h16 := p2_le16 hF8
  have hnw := nw_le hF8
  have hnw0 := nw_pos hWok
  have htr := hWok.1
  obtain ⟨⟨wk, w0, w1⟩, we2, we3, ⟨hM, cM⟩, hH, cH⟩ := id hW
  obtain ⟨⟨tk, t0, t1, t2, t3, t4⟩, tF5, tX6, ⟨hLt, cL⟩, ⟨hPt, cP⟩, ⟨hSt, cS⟩, ⟨hBt, cB⟩⟩ := id hT
  obtain ⟨hWt, cW⟩ := id hWl
  have kX := hXt.1
  have kM := hM.1
  have kH := hH.1
  have kL := hLt.1
  have kP := hPt.1
  have kS := hSt.1
  have kB := hBt.1
  have kW := hWt.1
  have nL10 := hLt.2.2.2.2.2.2.1
  have nP5 := hPt.2.2.2.2.2.2.1
  have nS5 := hSt.2.2.2.2.2.2.1
  have nB6 := hBt.2.2.2.2.2.2.1
  have kP0 := hPs.1.1
  have kK0 := hKs.1.1
  refine Ct.of rfl (Nat.le_of_ble_eq_true rfl) fun X => ?_
  show V X _ sg I 0 [some (rf g 0), some (.int l)] []
  have h200 := hX0.1
  refine V_iload_n rfl dX5_write_0 ?_
  refine V_bipush (nI 32) (by decide) dX5_write_1 ?_
  refine V_icmp_lt 12 dX5_write_3 (by decide) (fun h3 => ?_) (fun h3 => ?_)
  · skip
    refine V_iconst (-1) (by decide) dX5_write_12 ?_
    refine V_iret rfl rfl rfl ?_ dX5_write_13
    unfold stQ
    rw [show gWrite x W P K l = (x, W, P, K, -1) from by unfold gWrite; rw [if_neg]; intro z; first | exact absurd z.1 (by rw [Int32.not_le]; exact h3) | exact h9 z.2]
    exact ⟨rfl, rfl, hC0, fun q _ => rfl⟩
  · skip
    refine V_iload_n rfl dX5_write_6 ?_
    refine V_bipush (nI 126) (by decide) dX5_write_7 ?_
    refine V_icmp_le 14 dX5_write_9 (by decide) (fun h9 => ?_) (fun h9 => ?_)
    · skip
      refine V_aload_n rfl dX5_write_14 ?_
      refine gf_X5_10 (by assumption) (by assumption) rfl dX5_write_15 ?_
      refine gf_X5_56 (by assumption) (by assumption) rfl dX5_write_18 ?_
      refine V_iload_n rfl dX5_write_21 ?_
      refine V_iconst (nI 0) (by decide) dX5_write_22 ?_
      refine V_iconst (nI 0) (by decide) dX5_write_23 ?_
      refine cl_X5_64 (C_add hXt) (by assumption) rfl rfl ft0 (Nat.le_of_ble_eq_true rfl) dX5_write_24 (fun r1 s1 J1 hq => ?_)
      have hin : nI 32 ≤ l ∧ l ≤ nI 126 := ⟨by rw [Int32.not_lt] at h3; exact h3, h9⟩
      have hl0 : ¬ l < 0 := fun z => h3 (Int32.lt_trans z (by decide))
      obtain ⟨m, hm, rfl⟩ := nn_ex hl0
      obtain ⟨hs, hq⟩ := hq
      have hs := hs.symm
      subst hs
      rcases hq with ⟨a1, rfl, a2, a3, a4, a5⟩ | ⟨a1, rfl, rfl⟩
      · show V X _ sg J1 27 _ [.int (nI 1)]
        have hgw : gWrite x W P K (nI m) = ((x.1 + 1, fun i => if i = x.1 then m else x.2 i), W, P, K, nI (x.1 + 1)) := by unfold gWrite; rw [if_pos hin, if_pos a1, ix_nI hm]
        rw [hgw]
        refine V_if_eqN 43 dX5_write_27 (by decide) (by omega) (fun h27 => absurd h27 (by decide)) (fun h27 => ?_)
        refine V_aload_n rfl dX5_write_30 ?_
        refine gf_X5_10 (by assumption) (by assumption) rfl dX5_write_31 ?_
        refine gf_X5_56 (by assumption) (by assumption) rfl dX5_write_34 ?_
        refine cf_X5_84 (C_size a2) (by assumption) rfl rfl ft0 (Nat.le_of_ble_eq_true rfl) dX5_write_37 ?_
        refine V_goto 45 dX5_write_40 (by decide) ?_
        refine V_iret rfl rfl rfl ?_ dX5_write_45
        unfold stQ
        refine ⟨rfl, rfl, hC0.txt ⟨a2, fun i hi => ?_⟩ a5, fun q hq => a5 q (by omega) (by omega)⟩
        show _ = nI (if i = x.1 then m else x.2 i)
        have hi2 : i < x.1 + 1 := hi
        by_cases c : i = x.1
        · rw [if_pos c, c, a4 0 (by decide)]; rfl
        · rw [if_neg c, a3 _ (by omega)]; exact cX i (by omega)
      · show V X _ sg J1 27 _ [.int (nI 0)]
        have hgw : gWrite x W P K (nI m) = (x, W, P, K, -3) := by unfold gWrite; rw [if_pos hin, if_neg (by omega)]
        rw [hgw]
        refine V_if_eqN 43 dX5_write_27 (by decide) (by omega) (fun h27 => ?_) (fun h27 => absurd h27 (by decide))
        refine V_bipush (-3) (by decide) dX5_write_43 ?_
        refine V_iret rfl rfl rfl ?_ dX5_write_45
        unfold stQ
        exact ⟨rfl, rfl, hC0, fun q _ => rfl⟩
    · skip
      refine V_iconst (-1) (by decide) dX5_write_12 ?_
      refine V_iret rfl rfl rfl ?_ dX5_write_13
      unfold stQ
      rw [show gWrite x W P K l = (x, W, P, K, -1) from by unfold gWrite; rw [if_neg]; intro z; first | exact absurd z.1 (by rw [Int32.not_le]; exact h3) | exact h9 z.2]
      exact ⟨rfl, rfl, hC0, fun q _ => rfl⟩
theorem X_wipe (hC : CSt sg I A B x tv W P K) (hS : STok x tv W P K) : Ct m_X5_wipe g [rf g 0] sg I (stQ sg I A B tv (gWipe x W P K)) := by
  have hC0 := hC
  obtain ⟨hX0, hok, hnp, hns, ⟨hWok, hwk⟩, hPok, hKok⟩ := hS
  obtain ⟨⟨kc, c0, c1, c2, c3, c4, c5, c6, hAB, kt, u0, u1⟩, ⟨hXt, cX⟩, ⟨nn, hNt⟩, hPs, hKs, hW, hD, ⟨hT, hWl⟩, hB⟩ := hC
  have hmk := hWok.2.2.2.1
  have hn12 := hmk.1
  have hF1 := hok.1
  have hF8 := hok.2.1
  have h256 := p2_le8 hF8
  have h16 := p2_le16 hF8
  have hnw := nw_le hF8
  have hnw0 := nw_pos hWok
  have htr := hWok.1
  obtain ⟨⟨wk, w0, w1⟩, we2, we3, ⟨hM, cM⟩, hH, cH⟩ := id hW
  obtain ⟨⟨tk, t0, t1, t2, t3, t4⟩, tF5, tX6, ⟨hLt, cL⟩, ⟨hPt, cP⟩, ⟨hSt, cS⟩, ⟨hBt, cB⟩⟩ := id hT
  obtain ⟨hWt, cW⟩ := id hWl
  have kX := hXt.1
  have kM := hM.1
  have kH := hH.1
  have kL := hLt.1
  have kP := hPt.1
  have kS := hSt.1
  have kB := hBt.1
  have kW := hWt.1
  have nL10 := hLt.2.2.2.2.2.2.1
  have nP5 := hPt.2.2.2.2.2.2.1
  have nS5 := hSt.2.2.2.2.2.2.1
  have nB6 := hBt.2.2.2.2.2.2.1
  have kP0 := hPs.1.1
  have kK0 := hKs.1.1
  refine Ct.of rfl (Nat.le_of_ble_eq_true rfl) fun X => ?_
  show V X _ sg I 0 [some (rf g 0), none] []
  refine V_aload_n rfl dX5_wipe_0 ?_
  refine gf_X5_10 (by assumption) (by assumption) rfl dX5_wipe_1 ?_
  refine gf_X5_56 (by assumption) (by assumption) rfl dX5_wipe_4 ?_
  refine cf_X5_84 (C_size hXt) (by assumption) rfl rfl ft0 (Nat.le_of_ble_eq_true rfl) dX5_wipe_7 ?_
  refine V_ist1 rfl rfl dX5_wipe_10 ?_
  refine V_aload_n rfl dX5_wipe_11 ?_
  refine gf_X5_10 (by assumption) (by assumption) rfl dX5_wipe_12 ?_
  refine gf_X5_56 (by assumption) (by assumption) rfl dX5_wipe_15 ?_
  refine cf_X5_81 (C_clear hXt) (by assumption) rfl rfl ft0 (Nat.le_of_ble_eq_true rfl) dX5_wipe_18 ?_
  refine V_iload_n rfl dX5_wipe_21 ?_
  refine V_iret rfl rfl rfl ?_ dX5_wipe_22
  unfold stQ gWipe
  exact ⟨rfl, rfl, hC0.txt ⟨hXt.resize (fun k hk => upI_ne (Or.inr hk)) upI_eq (Nat.zero_le _), fun i hi => absurd hi (Nat.not_lt_zero i)⟩ (fun q q2 _ => funext fun k => upI_ne (Or.inl q2)), fun q hq => funext fun k => upI_ne (Or.inl (by omega))⟩
theorem X_deed {s : Int32} (hC : CSt sg I A B x tv W P K) (hS : STok x tv W P K) : Ct m_X5_deed g [rf g 0, .int s] sg I (stQ sg I A B tv (gDeed x tv W P K s)) := by
  have hC0 := hC
  obtain ⟨hX0, hok, hnp, hns, ⟨hWok, hwk⟩, hPok, hKok⟩ := hS
  obtain ⟨⟨kc, c0, c1, c2, c3, c4, c5, c6, hAB, kt, u0, u1⟩, ⟨hXt, cX⟩, ⟨nn, hNt⟩, hPs, hKs, hW, hD, ⟨hT, hWl⟩, hB⟩ := hC
  have hmk := hWok.2.2.2.1
  have hn12 := hmk.1
  have hF1 := hok.1
  have hF8 := hok.2.1
  have h256 := p2_le8 hF8
  have h16 := p2_le16 hF8
  have hnw := nw_le hF8
  have hnw0 := nw_pos hWok
  have htr := hWok.1
  obtain ⟨⟨wk, w0, w1⟩, we2, we3, ⟨hM, cM⟩, hH, cH⟩ := id hW
  obtain ⟨⟨tk, t0, t1, t2, t3, t4⟩, tF5, tX6, ⟨hLt, cL⟩, ⟨hPt, cP⟩, ⟨hSt, cS⟩, ⟨hBt, cB⟩⟩ := id hT
  obtain ⟨hWt, cW⟩ := id hWl
  have kX := hXt.1
  have kM := hM.1
  have kH := hH.1
  have kL := hLt.1
  have kP := hPt.1
  have kS := hSt.1
  have kB := hBt.1
  have kW := hWt.1
  have nL10 := hLt.2.2.2.2.2.2.1
  have nP5 := hPt.2.2.2.2.2.2.1
  have nS5 := hSt.2.2.2.2.2.2.1
  have nB6 := hBt.2.2.2.2.2.2.1
  have kP0 := hPs.1.1
  have kK0 := hKs.1.1
  have hsb := set_bel (tv := tv) (s0 := s) hF8
  refine Ct.of rfl (Nat.le_of_ble_eq_true rfl) fun X => ?_
  show V X _ sg I 0 [some (rf g 0), some (.int s), none] []
  refine V_aload_n rfl dX5_deed_0 ?_
  refine gf_X5_41 (by assumption) (by assumption) rfl dX5_deed_1 ?_
  refine V_iload_n rfl dX5_deed_4 ?_
  refine cf_X5_132 (C_isSet (tv := tv) tk tF5 hF8) (by assumption) rfl rfl ft0 (Nat.le_of_ble_eq_true rfl) dX5_deed_5 ?_
  refine V_if_neB 13 dX5_deed_8 (by decide) (fun h8 => ?_) (fun h8 => ?_)
  · skip
    obtain ⟨j, hj, rfl⟩ := bel_ex (by omega) (hsb.mp h8)
    have hxo : wT W ^^^ j < 65536 := Nat.xor_lt_two_pow (n := 16) (by omega) (by omega)
    refine V_aload_n rfl dX5_deed_13 ?_
    refine gf_X5_41 (by assumption) (by assumption) rfl dX5_deed_14 ?_
    refine V_iload_n rfl dX5_deed_17 ?_
    refine cf_X5_97 (C_isWorld hT hok hj) (by assumption) rfl rfl ft0 (Nat.le_of_ble_eq_true rfl) dX5_deed_18 ?_
    refine V_if_neB 27 dX5_deed_21 (by decide) (fun h21 => ?_) (fun h21 => ?_)
    · skip
      refine V_aload_n rfl dX5_deed_27 ?_
      refine gf_X5_21 (by assumption) (by assumption) rfl dX5_deed_28 ?_
      refine V_aload_n rfl dX5_deed_31 ?_
      refine gf_X5_31 (by assumption) (by assumption) rfl dX5_deed_32 ?_
      refine cl_X5_135 (C_push hPs hW hn12 nP5 (Or.inr (by decide))) (by assumption) rfl rfl ft0 (Nat.le_of_ble_eq_true rfl) dX5_deed_35 (fun rr s1 J1 hq => ?_)
      obtain ⟨rfl, hs, q1, q2⟩ := hq
      have hs := hs.symm
      subst hs
      show V X _ sg J1 38 _ []
      have hC1 := hC0.past q1 q2
      obtain ⟨-, jXt0, -, jPs, jKs, jW, jD, ⟨jT, jWl⟩, -⟩ := id hC1
      obtain ⟨-, je2, je3, ⟨jM, jcM⟩, jH, jcH⟩ := id jW
      obtain ⟨-, jF5, jX6, -, ⟨jPt, jcP⟩, ⟨jSt, jcS⟩, -⟩ := id jT
      refine V_aload_n rfl dX5_deed_38 ?_
      refine gf_X5_31 (by assumption) (by assumption) rfl dX5_deed_39 ?_
      refine gfe_X5_125 (by assumption) (by assumption) rfl dX5_deed_42 ?_
      refine V_iload_n rfl dX5_deed_45 ?_
      refine V_ixorN dX5_deed_46 ?_
      refine cf_X5_139 (C_bitCount hxo) rfl rfl ft0 (Nat.le_of_ble_eq_true rfl) dX5_deed_47 ?_
      refine V_ist2 rfl rfl dX5_deed_50 ?_
      refine V_aload_n rfl dX5_deed_51 ?_
      refine gf_X5_31 (by assumption) (by assumption) rfl dX5_deed_52 ?_
      refine V_iload_n rfl dX5_deed_55 ?_
      refine pf_X5_125 (by assumption) rfl dX5_deed_56 ?_
      refine V_iload_n rfl dX5_deed_59 ?_
      refine V_iret rfl rfl rfl ?_ dX5_deed_60
      unfold stQ
      rw [show gDeed x tv W P K (nI j) = (x, (j, wK W, wM W, wH W), pushS 8 P W, K, nI (pc16 (wT W ^^^ j))) from by unfold gDeed; rw [ifb_pos hj (by omega) rfl, if_pos h21]]
      exact ⟨rfl, rfl, hC1.now jW.truth (fun q hq => funext fun k => upI_ne (Or.inl (by omega))), fun q hq => (funext fun k => upI_ne (Or.inl (by omega))).trans (q2 q (by omega))⟩
    · skip
      refine V_bipush (-2) (by decide) dX5_deed_24 ?_
      refine V_iret rfl rfl rfl ?_ dX5_deed_26
      unfold stQ
      rw [show gDeed x tv W P K (nI j) = (x, W, P, K, -2) from by unfold gDeed; rw [ifb_pos hj (by omega) rfl, if_neg h21]]
      exact ⟨rfl, rfl, hC0, fun q _ => rfl⟩
  · skip
    refine V_iconst (-1) (by decide) dX5_deed_11 ?_
    refine V_iret rfl rfl rfl ?_ dX5_deed_12
    unfold stQ
    rw [show gDeed x tv W P K s = (x, W, P, K, -1) from by unfold gDeed; rw [ifb_neg (fun z => h8 (hsb.mpr z))]]
    exact ⟨rfl, rfl, hC0, fun q _ => rfl⟩
theorem X_bell (hC : CSt sg I A B x tv W P K) (hS : STok x tv W P K) : Ct m_X5_bell g [rf g 0] sg I (stQ sg I A B tv (gBell x tv W P K)) := by
  have hC0 := hC
  obtain ⟨hX0, hok, hnp, hns, ⟨hWok, hwk⟩, hPok, hKok⟩ := hS
  obtain ⟨⟨kc, c0, c1, c2, c3, c4, c5, c6, hAB, kt, u0, u1⟩, ⟨hXt, cX⟩, ⟨nn, hNt⟩, hPs, hKs, hW, hD, ⟨hT, hWl⟩, hB⟩ := hC
  have hmk := hWok.2.2.2.1
  have hn12 := hmk.1
  have hF1 := hok.1
  have hF8 := hok.2.1
  have h256 := p2_le8 hF8
  have h16 := p2_le16 hF8
  have hnw := nw_le hF8
  have hnw0 := nw_pos hWok
  have htr := hWok.1
  obtain ⟨⟨wk, w0, w1⟩, we2, we3, ⟨hM, cM⟩, hH, cH⟩ := id hW
  obtain ⟨⟨tk, t0, t1, t2, t3, t4⟩, tF5, tX6, ⟨hLt, cL⟩, ⟨hPt, cP⟩, ⟨hSt, cS⟩, ⟨hBt, cB⟩⟩ := id hT
  obtain ⟨hWt, cW⟩ := id hWl
  have kX := hXt.1
  have kM := hM.1
  have kH := hH.1
  have kL := hLt.1
  have kP := hPt.1
  have kS := hSt.1
  have kB := hBt.1
  have kW := hWt.1
  have nL10 := hLt.2.2.2.2.2.2.1
  have nP5 := hPt.2.2.2.2.2.2.1
  have nS5 := hSt.2.2.2.2.2.2.1
  have nB6 := hBt.2.2.2.2.2.2.1
  have kP0 := hPs.1.1
  have kK0 := hKs.1.1
  refine Ct.of rfl (Nat.le_of_ble_eq_true rfl) fun X => ?_
  show V X _ sg I 0 [some (rf g 0)] []
  refine V_aload_n rfl dX5_bell_0 ?_
  refine gf_X5_31 (by assumption) (by assumption) rfl dX5_bell_1 ?_
  refine gfe_X5_168 (by assumption) (by assumption) rfl dX5_bell_4 ?_
  refine V_sipush (nI 999) (by decide) dX5_bell_7 ?_
  refine V_icmp_ltN 16 dX5_bell_10 (by decide) (by omega) (by omega) (fun h10 => ?_) (fun h10 => ?_)
  · skip
    refine V_aload_n rfl dX5_bell_16 ?_
    refine gf_X5_21 (by assumption) (by assumption) rfl dX5_bell_17 ?_
    refine V_aload_n rfl dX5_bell_20 ?_
    refine gf_X5_31 (by assumption) (by assumption) rfl dX5_bell_21 ?_
    refine cl_X5_135 (C_push hPs hW hn12 nP5 (Or.inr (by decide))) (by assumption) rfl rfl ft0 (Nat.le_of_ble_eq_true rfl) dX5_bell_24 (fun rr s1 J1 hq => ?_)
    obtain ⟨rfl, hs, q1, q2⟩ := hq
    have hs := hs.symm
    subst hs
    show V X _ sg J1 27 _ []
    have hC1 := hC0.past q1 q2
    obtain ⟨-, jXt0, -, jPs, jKs, jW, jD, ⟨jT, jWl⟩, -⟩ := id hC1
    obtain ⟨-, je2, je3, ⟨jM, jcM⟩, jH, jcH⟩ := id jW
    obtain ⟨-, jF5, jX6, -, ⟨jPt, jcP⟩, ⟨jSt, jcS⟩, -⟩ := id jT
    refine V_aload_n rfl dX5_bell_27 ?_
    refine gf_X5_31 (by assumption) (by assumption) rfl dX5_bell_28 ?_
    refine V_aload_n rfl dX5_bell_31 ?_
    refine gf_X5_41 (by assumption) (by assumption) rfl dX5_bell_32 ?_
    refine cl_X5_171 (C_ring jT jW hok hmk (by omega) (by unfold aprt; omega)) (by assumption) rfl rfl ft0 (Nat.le_of_ble_eq_true rfl) dX5_bell_35 (fun rr2 s2 J2 hq => ?_)
    obtain ⟨rfl, hs, r1, r2⟩ := hq
    have hs := hs.symm
    subst hs
    show V X _ sg J2 38 _ []
    refine V_aload_n rfl dX5_bell_38 ?_
    refine gf_X5_31 (by assumption) (by assumption) rfl dX5_bell_39 ?_
    refine gf_X5_122 (by assumption) (by assumption) rfl dX5_bell_42 ?_
    refine cf_X5_84 (C_size r1.2.2.2.1.1) (by assumption) rfl rfl ft0 (Nat.le_of_ble_eq_true rfl) dX5_bell_45 ?_
    refine V_iret rfl rfl rfl ?_ dX5_bell_48
    unfold stQ
    rw [show gBell x tv W P K = (x, ringV tv W, pushS 8 P W, K, nI (wM (ringV tv W)).1) from by unfold gBell; rw [if_pos h10]]
    exact ⟨rfl, rfl, hC1.now r1 r2, fun q hq => (r2 q (by omega)).trans (q2 q (by omega))⟩
  · skip
    refine V_bipush (-2) (by decide) dX5_bell_13 ?_
    refine V_iret rfl rfl rfl ?_ dX5_bell_15
    unfold stQ
    rw [show gBell x tv W P K = (x, W, P, K, -2) from by unfold gBell; rw [if_neg h10]]
    exact ⟨rfl, rfl, hC0, fun q _ => rfl⟩
theorem X_keep (hC : CSt sg I A B x tv W P K) (hS : STok x tv W P K) : Ct m_X5_keep g [rf g 0] sg I (stQ sg I A B tv (gKeep x W P K)) := by
  have hC0 := hC
  obtain ⟨hX0, hok, hnp, hns, ⟨hWok, hwk⟩, hPok, hKok⟩ := hS
  obtain ⟨⟨kc, c0, c1, c2, c3, c4, c5, c6, hAB, kt, u0, u1⟩, ⟨hXt, cX⟩, ⟨nn, hNt⟩, hPs, hKs, hW, hD, ⟨hT, hWl⟩, hB⟩ := hC
  have hmk := hWok.2.2.2.1
  have hn12 := hmk.1
  have hF1 := hok.1
  have hF8 := hok.2.1
  have h256 := p2_le8 hF8
  have h16 := p2_le16 hF8
  have hnw := nw_le hF8
  have hnw0 := nw_pos hWok
  have htr := hWok.1
  obtain ⟨⟨wk, w0, w1⟩, we2, we3, ⟨hM, cM⟩, hH, cH⟩ := id hW
  obtain ⟨⟨tk, t0, t1, t2, t3, t4⟩, tF5, tX6, ⟨hLt, cL⟩, ⟨hPt, cP⟩, ⟨hSt, cS⟩, ⟨hBt, cB⟩⟩ := id hT
  obtain ⟨hWt, cW⟩ := id hWl
  have kX := hXt.1
  have kM := hM.1
  have kH := hH.1
  have kL := hLt.1
  have kP := hPt.1
  have kS := hSt.1
  have kB := hBt.1
  have kW := hWt.1
  have nL10 := hLt.2.2.2.2.2.2.1
  have nP5 := hPt.2.2.2.2.2.2.1
  have nS5 := hSt.2.2.2.2.2.2.1
  have nB6 := hBt.2.2.2.2.2.2.1
  have kP0 := hPs.1.1
  have kK0 := hKs.1.1
  refine Ct.of rfl (Nat.le_of_ble_eq_true rfl) fun X => ?_
  show V X _ sg I 0 [some (rf g 0)] []
  refine V_aload_n rfl dX5_keep_0 ?_
  refine gf_X5_25 (by assumption) (by assumption) rfl dX5_keep_1 ?_
  refine cf_X5_268 (C_sIsFull hKs) (by assumption) rfl rfl ft0 (Nat.le_of_ble_eq_true rfl) dX5_keep_4 ?_
  refine V_if_eqB 13 dX5_keep_7 (by decide) (fun h7 => ?_) (fun h7 => ?_)
  · skip
    refine V_aload_n rfl dX5_keep_13 ?_
    refine gf_X5_25 (by assumption) (by assumption) rfl dX5_keep_14 ?_
    refine V_aload_n rfl dX5_keep_17 ?_
    refine gf_X5_31 (by assumption) (by assumption) rfl dX5_keep_18 ?_
    refine cl_X5_135 (C_push hKs hW hn12 nP5 (Or.inr (by decide))) (by assumption) rfl rfl ft0 (Nat.le_of_ble_eq_true rfl) dX5_keep_21 (fun rr s1 J1 hq => ?_)
    obtain ⟨rfl, hs, q1, q2⟩ := hq
    have hs := hs.symm
    subst hs
    show V X _ sg J1 24 _ []
    have hC1 := hC0.kept q1 q2
    refine V_aload_n rfl dX5_keep_24 ?_
    refine gf_X5_25 (by assumption) (by assumption) rfl dX5_keep_25 ?_
    refine cf_X5_174 (C_sSize q1) (by assumption) rfl rfl ft0 (Nat.le_of_ble_eq_true rfl) dX5_keep_28 ?_
    refine V_iret rfl rfl rfl ?_ dX5_keep_31
    unfold stQ
    rw [pushS_1 (by omega)]
    rw [show gKeep x W P K = (x, W, P, pushS 2 K W, nI (K.1 + 1)) from by unfold gKeep; rw [if_pos (by omega)]]
    exact ⟨rfl, rfl, hC1, fun q hq => q2 q (by omega)⟩
  · skip
    refine V_bipush (-3) (by decide) dX5_keep_10 ?_
    refine V_iret rfl rfl rfl ?_ dX5_keep_12
    unfold stQ
    rw [show gKeep x W P K = (x, W, P, K, -3) from by unfold gKeep; rw [if_neg (by omega)]]
    exact ⟨rfl, rfl, hC0, fun q _ => rfl⟩
theorem X_undo (hC : CSt sg I A B x tv W P K) (hS : STok x tv W P K) : Ct m_X5_undo g [rf g 0] sg I (stQ sg I A B tv (gUndo x W P K)) := by
  have hC0 := hC
  obtain ⟨hX0, hok, hnp, hns, ⟨hWok, hwk⟩, hPok, hKok⟩ := hS
  obtain ⟨⟨kc, c0, c1, c2, c3, c4, c5, c6, hAB, kt, u0, u1⟩, ⟨hXt, cX⟩, ⟨nn, hNt⟩, hPs, hKs, hW, hD, ⟨hT, hWl⟩, hB⟩ := hC
  have hmk := hWok.2.2.2.1
  have hn12 := hmk.1
  have hF1 := hok.1
  have hF8 := hok.2.1
  have h256 := p2_le8 hF8
  have h16 := p2_le16 hF8
  have hnw := nw_le hF8
  have hnw0 := nw_pos hWok
  have htr := hWok.1
  obtain ⟨⟨wk, w0, w1⟩, we2, we3, ⟨hM, cM⟩, hH, cH⟩ := id hW
  obtain ⟨⟨tk, t0, t1, t2, t3, t4⟩, tF5, tX6, ⟨hLt, cL⟩, ⟨hPt, cP⟩, ⟨hSt, cS⟩, ⟨hBt, cB⟩⟩ := id hT
  obtain ⟨hWt, cW⟩ := id hWl
  have kX := hXt.1
  have kM := hM.1
  have kH := hH.1
  have kL := hLt.1
  have kP := hPt.1
  have kS := hSt.1
  have kB := hBt.1
  have kW := hWt.1
  have nL10 := hLt.2.2.2.2.2.2.1
  have nP5 := hPt.2.2.2.2.2.2.1
  have nS5 := hSt.2.2.2.2.2.2.1
  have nB6 := hBt.2.2.2.2.2.2.1
  have kP0 := hPs.1.1
  have kK0 := hKs.1.1
  refine Ct.of rfl (Nat.le_of_ble_eq_true rfl) fun X => ?_
  show V X _ sg I 0 [some (rf g 0)] []
  refine V_aload_n rfl dX5_undo_0 ?_
  refine gf_X5_21 (by assumption) (by assumption) rfl dX5_undo_1 ?_
  refine cf_X5_174 (C_sSize hPs) (by assumption) rfl rfl ft0 (Nat.le_of_ble_eq_true rfl) dX5_undo_4 ?_
  refine V_iconst (nI 1) (by decide) dX5_undo_7 ?_
  refine V_icmp_geN 14 dX5_undo_8 (by decide) (by omega) (by omega) (fun h8 => ?_) (fun h8 => ?_)
  · skip
    refine V_aload_n rfl dX5_undo_14 ?_
    refine gf_X5_21 (by assumption) (by assumption) rfl dX5_undo_15 ?_
    refine V_aload_n rfl dX5_undo_18 ?_
    refine gf_X5_31 (by assumption) (by assumption) rfl dX5_undo_19 ?_
    refine cl_X5_175 (C_pop hPs (by omega) hW.sh (hPok.2 _ (by omega)).1.2.2.2.1.1 nP5 (Or.inr (by decide))) (by assumption) rfl rfl ft0 (Nat.le_of_ble_eq_true rfl) dX5_undo_22 (fun rr s1 J1 hq => ?_)
    obtain ⟨rfl, hs, q1, q2, q3⟩ := hq
    have hs := hs.symm
    subst hs
    show V X _ sg J1 25 _ []
    have hC1 := hC0.gen (hC0.2.1.other (q3 _ (by omega) (by omega)) (q3 _ (by omega) (by omega))) q1 (hKs.other (fun q _ _ => q3 q (by omega) (by omega))) q2 (fun q hq => q3 q (by omega) (by omega))
    refine V_aload_n rfl dX5_undo_25 ?_
    refine gf_X5_21 (by assumption) (by assumption) rfl dX5_undo_26 ?_
    refine cf_X5_174 (C_sSize q1) (by assumption) rfl rfl ft0 (Nat.le_of_ble_eq_true rfl) dX5_undo_29 ?_
    refine V_iret rfl rfl rfl ?_ dX5_undo_32
    unfold stQ
    rw [show gUndo x W P K = (x, P.2 (P.1 - 1), (P.1 - 1, P.2), K, nI (P.1 - 1)) from by unfold gUndo; rw [if_neg (by omega)]]
    exact ⟨rfl, rfl, hC1, fun q hq => q3 q (by omega) (by omega)⟩
  · skip
    refine V_bipush (-2) (by decide) dX5_undo_11 ?_
    refine V_iret rfl rfl rfl ?_ dX5_undo_13
    unfold stQ
    rw [show gUndo x W P K = (x, W, P, K, -2) from by unfold gUndo; rw [if_pos (by omega)]]
    exact ⟨rfl, rfl, hC0, fun q _ => rfl⟩
theorem X_back (hC : CSt sg I A B x tv W P K) (hS : STok x tv W P K) : Ct m_X5_back g [rf g 0] sg I (stQ sg I A B tv (gBack x W P K)) := by
  have hC0 := hC
  obtain ⟨hX0, hok, hnp, hns, ⟨hWok, hwk⟩, hPok, hKok⟩ := hS
  obtain ⟨⟨kc, c0, c1, c2, c3, c4, c5, c6, hAB, kt, u0, u1⟩, ⟨hXt, cX⟩, ⟨nn, hNt⟩, hPs, hKs, hW, hD, ⟨hT, hWl⟩, hB⟩ := hC
  have hmk := hWok.2.2.2.1
  have hn12 := hmk.1
  have hF1 := hok.1
  have hF8 := hok.2.1
  have h256 := p2_le8 hF8
  have h16 := p2_le16 hF8
  have hnw := nw_le hF8
  have hnw0 := nw_pos hWok
  have htr := hWok.1
  obtain ⟨⟨wk, w0, w1⟩, we2, we3, ⟨hM, cM⟩, hH, cH⟩ := id hW
  obtain ⟨⟨tk, t0, t1, t2, t3, t4⟩, tF5, tX6, ⟨hLt, cL⟩, ⟨hPt, cP⟩, ⟨hSt, cS⟩, ⟨hBt, cB⟩⟩ := id hT
  obtain ⟨hWt, cW⟩ := id hWl
  have kX := hXt.1
  have kM := hM.1
  have kH := hH.1
  have kL := hLt.1
  have kP := hPt.1
  have kS := hSt.1
  have kB := hBt.1
  have kW := hWt.1
  have nL10 := hLt.2.2.2.2.2.2.1
  have nP5 := hPt.2.2.2.2.2.2.1
  have nS5 := hSt.2.2.2.2.2.2.1
  have nB6 := hBt.2.2.2.2.2.2.1
  have kP0 := hPs.1.1
  have kK0 := hKs.1.1
  refine Ct.of rfl (Nat.le_of_ble_eq_true rfl) fun X => ?_
  show V X _ sg I 0 [some (rf g 0)] []
  refine V_aload_n rfl dX5_back_0 ?_
  refine gf_X5_25 (by assumption) (by assumption) rfl dX5_back_1 ?_
  refine cf_X5_174 (C_sSize hKs) (by assumption) rfl rfl ft0 (Nat.le_of_ble_eq_true rfl) dX5_back_4 ?_
  refine V_iconst (nI 1) (by decide) dX5_back_7 ?_
  refine V_icmp_geN 14 dX5_back_8 (by decide) (by omega) (by omega) (fun h8 => ?_) (fun h8 => ?_)
  · skip
    refine V_aload_n rfl dX5_back_14 ?_
    refine gf_X5_25 (by assumption) (by assumption) rfl dX5_back_15 ?_
    refine V_aload_n rfl dX5_back_18 ?_
    refine gf_X5_31 (by assumption) (by assumption) rfl dX5_back_19 ?_
    refine cl_X5_175 (C_pop hKs (by omega) hW.sh (hKok.2 _ (by omega)).1.2.2.2.1.1 nP5 (Or.inr (by decide))) (by assumption) rfl rfl ft0 (Nat.le_of_ble_eq_true rfl) dX5_back_22 (fun rr s1 J1 hq => ?_)
    obtain ⟨rfl, hs, q1, q2, q3⟩ := hq
    have hs := hs.symm
    subst hs
    show V X _ sg J1 25 _ []
    have hP1 := hPs.other (fun q _ _ => q3 q (by omega) (by omega))
    have hC1 := hC0.gen (hC0.2.1.other (q3 _ (by omega) (by omega)) (q3 _ (by omega) (by omega))) hP1 q1 q2 (fun q hq => q3 q (by omega) (by omega))
    refine V_aload_n rfl dX5_back_25 ?_
    refine gf_X5_21 (by assumption) (by assumption) rfl dX5_back_26 ?_
    refine cf_X5_101 (C_sClear hP1) (by assumption) rfl rfl ft0 (Nat.le_of_ble_eq_true rfl) dX5_back_29 ?_
    refine V_aload_n rfl dX5_back_32 ?_
    refine gf_X5_25 (by assumption) (by assumption) rfl dX5_back_33 ?_
    refine cf_X5_174 (C_sSize (q1.other (fun q _ _ => funext fun k => upI_ne (Or.inl (by omega))))) (by assumption) rfl rfl ft0 (Nat.le_of_ble_eq_true rfl) dX5_back_36 ?_
    refine V_iret rfl rfl rfl ?_ dX5_back_39
    unfold stQ
    rw [show gBack x W P K = (x, K.2 (K.1 - 1), (0, P.2), (K.1 - 1, K.2), nI (K.1 - 1)) from by unfold gBack; rw [if_neg (by omega)]]
    exact ⟨rfl, rfl, hC1.past hP1.clear (fun q hq => funext fun k => upI_ne (Or.inl (by omega))), fun q hq => (funext fun k => upI_ne (Or.inl (by omega))).trans (q3 q (by omega) (by omega))⟩
  · skip
    refine V_bipush (-2) (by decide) dX5_back_11 ?_
    refine V_iret rfl rfl rfl ?_ dX5_back_13
    unfold stQ
    rw [show gBack x W P K = (x, W, P, K, -2) from by unfold gBack; rw [if_pos (by omega)]]
    exact ⟨rfl, rfl, hC0, fun q _ => rfl⟩
end CSTATE
