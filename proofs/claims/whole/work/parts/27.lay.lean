/-! Text: the whole; fault -/
section WHOLETEXT
variable {g : GC} {sg : SG} {I : IM} {T : Nat} {x : XV}
def clQ (sg : SG) (I : IM) (T : Nat) : Option Value → SG → IM → Prop := fun r0 s0 J => r0 = none ∧ s0 = sg ∧ CTown sg J T initT ∧ J T 7 = nI 0 ∧ Tab sg J (T + 9) (T + 10) 256 2 0 ∧ ∀ q, (q < T ∨ T + 11 ≤ q) → J q = I q
theorem C_townClear (h : TownSh sg I T) : Ct m_X3_clear g [rf g T] sg I (clQ sg I T) := by
  obtain ⟨⟨tk, t0, t1, t2, t3, t4⟩, ⟨n1, h1⟩, ⟨n2, h2⟩, ⟨n3, h3⟩, ⟨n4, h4⟩, ⟨n5, h5⟩⟩ := h
  have k1 := h1.1
  have k2 := h2.1
  have k3 := h3.1
  have k4 := h4.1
  have k5 := h5.1
  refine Ct.of rfl (Nat.le_of_ble_eq_true rfl) fun X => ?_
  show V X _ sg I 0 [some (rf g T)] []
  have z0 : ∀ {t : Nat} {I : IM}, (upI I t 3 (nI 0)) t 3 = nI 0 := upI_eq
  have zr : ∀ {t a mx w n : Nat} {I : IM}, Tab sg I t a mx w n → Tab sg (upI I t 3 (nI 0)) t a mx w 0 := fun h => h.resize (fun k hk => upI_ne (Or.inr hk)) upI_eq (Nat.zero_le _)
  have b1 := zr h1
  have b2 := zr (h2.upI (q := T + 1) (k := 3) (v := nI 0) (by omega))
  have b3 := zr ((h3.upI (q := T + 1) (k := 3) (v := nI 0) (by omega)).upI (q := T + 3) (k := 3) (v := nI 0) (by omega))
  have b4 := zr (((h4.upI (q := T + 1) (k := 3) (v := nI 0) (by omega)).upI (q := T + 3) (k := 3) (v := nI 0) (by omega)).upI (q := T + 5) (k := 3) (v := nI 0) (by omega))
  have b5 := zr ((((h5.upI (q := T + 1) (k := 3) (v := nI 0) (by omega)).upI (q := T + 3) (k := 3) (v := nI 0) (by omega)).upI (q := T + 5) (k := 3) (v := nI 0) (by omega)).upI (q := T + 7) (k := 3) (v := nI 0) (by omega))
  refine V_aload_n rfl dX3_clear_0 ?_
  refine gf_X3_14 (by assumption) (by assumption) rfl dX3_clear_1 ?_
  refine cf_X3_32 (C_clear h1) (by assumption) rfl rfl ft0 (Nat.le_of_ble_eq_true rfl) dX3_clear_4 ?_
  refine V_aload_n rfl dX3_clear_7 ?_
  refine gf_X3_20 (by assumption) (by assumption) rfl dX3_clear_8 ?_
  refine cf_X3_32 (C_clear (h2.upI (by omega))) (by assumption) rfl rfl ft0 (Nat.le_of_ble_eq_true rfl) dX3_clear_11 ?_
  refine V_aload_n rfl dX3_clear_14 ?_
  refine gf_X3_23 (by assumption) (by assumption) rfl dX3_clear_15 ?_
  refine cf_X3_32 (C_clear ((h3.upI (by omega)).upI (by omega))) (by assumption) rfl rfl ft0 (Nat.le_of_ble_eq_true rfl) dX3_clear_18 ?_
  refine V_aload_n rfl dX3_clear_21 ?_
  refine gf_X3_26 (by assumption) (by assumption) rfl dX3_clear_22 ?_
  refine cf_X3_32 (C_clear (((h4.upI (by omega)).upI (by omega)).upI (by omega))) (by assumption) rfl rfl ft0 (Nat.le_of_ble_eq_true rfl) dX3_clear_25 ?_
  refine V_aload_n rfl dX3_clear_28 ?_
  refine gf_X3_29 (by assumption) (by assumption) rfl dX3_clear_29 ?_
  refine cf_X3_32 (C_clear ((((h5.upI (by omega)).upI (by omega)).upI (by omega)).upI (by omega))) (by assumption) rfl rfl ft0 (Nat.le_of_ble_eq_true rfl) dX3_clear_32 ?_
  refine V_aload_n rfl dX3_clear_35 ?_
  refine V_iconst (nI 4) (by decide) dX3_clear_36 ?_
  refine pf_X3_35 (by assumption) rfl dX3_clear_37 ?_
  refine V_aload_n rfl dX3_clear_40 ?_
  refine V_iconst (nI 0) (by decide) dX3_clear_41 ?_
  refine pf_X3_39 (by assumption) rfl dX3_clear_42 ?_
  refine V_aload_n rfl dX3_clear_45 ?_
  refine V_iconst (nI 0) (by decide) dX3_clear_46 ?_
  refine pf_X3_42 (by assumption) rfl rfl rfl dX3_clear_47 ?_
  refine V_vret rfl rfl rfl ?_ dX3_clear_50
  refine ⟨rfl, rfl, ⟨⟨tk, t0, t1, t2, t3, t4⟩, ?_, ?_, ⟨?_, fun k hk => absurd hk (Nat.not_lt_zero k)⟩, ⟨?_, fun k hk => absurd hk (Nat.not_lt_zero k)⟩, ⟨?_, fun k hk => absurd hk (Nat.not_lt_zero k)⟩, ⟨?_, fun k hk => absurd hk (Nat.not_lt_zero k)⟩⟩, ?_, ?_, ?_⟩
  · rw [upI_ne (Or.inr (by decide)), upI_ne (Or.inr (by decide))]; exact upI_eq
  · rw [upI_ne (Or.inr (by decide))]; exact upI_eq
  · exact ((((((b1.upI (by omega)).upI (by omega)).upI (by omega)).upI (by omega)).upI (by omega)).upI (by omega)).upI (by omega)
  · exact (((((b2.upI (by omega)).upI (by omega)).upI (by omega)).upI (by omega)).upI (by omega)).upI (by omega)
  · exact ((((b3.upI (by omega)).upI (by omega)).upI (by omega)).upI (by omega)).upI (by omega)
  · exact (((b4.upI (by omega)).upI (by omega)).upI (by omega)).upI (by omega)
  · exact upI_eq
  · exact ((b5.upI (by omega)).upI (by omega)).upI (by omega)
  · intro q hq
    funext k
    repeat rw [upI_ne (Or.inl (by omega))]
def riQ (sg : SG) (I : IM) (T : Nat) (x : XV) : Option Value → SG → IM → Prop := fun r0 s0 J => s0 = sg ∧ (∀ q, q ≠ 1 → q ≠ 4 → q ≠ 5 → (q < T ∨ T + 11 ≤ q) → J q = I q) ∧ (∃ m, Tab sg J 4 5 3 1 m) ∧ r0 = some (.int (o4 (flt x))) ∧ TownSh sg J T ∧ (flt x = none → CTown sg J T (tolT x) ∧ Tab sg J (T + 9) (T + 10) 256 2 0)
theorem C_readInto {m : Nat} (hK : TxK sg) (hX : CTxt sg I x) (hx : XVok x) (hN : Tab sg I 4 5 3 1 m) (hT : TownSh sg I T) (hd : 6 ≤ T) : Ct m_X2_readInto g [rf g 1, rf g T] sg I (riQ sg I T x) := by
  have hK0 := hK
  obtain ⟨k1, r1, r2⟩ := hK
  have hx2 := hx.1
  have kX := hX.1.1
  have kT := hT.1.1
  refine Ct.of rfl (Nat.le_of_ble_eq_true rfl) fun X => ?_
  show V X _ sg I 0 [some (rf g 1), some (rf g T), none, none] []
  have sh : ∀ J tv, CTown sg J T tv → Tab sg J (T + 9) (T + 10) 256 2 0 → TownSh sg J T := fun J tv a b => ⟨a.1, ⟨_, a.2.2.2.1.1⟩, ⟨_, a.2.2.2.2.1.1⟩, ⟨_, a.2.2.2.2.2.1.1⟩, ⟨_, a.2.2.2.2.2.2.1⟩, ⟨_, b⟩⟩
  have loop : ∀ (d k p : Nat) (s : PS) (J : IM) (z : Option Value), okp z = true → 200 - k = d → k ≤ 200 → p ≤ 210 → PSok s → rdF x 200 0 (initT, false) = rdF x d p s → (∀ q, q ≠ 1 → q ≠ 4 → q ≠ 5 → (q < T ∨ T + 11 ≤ q) → J q = I q) → (∃ m, Tab sg J 4 5 3 1 m) → J 1 2 = nI p → CTown sg J T s.1 → J T 7 = bI (s.2 = true) → Tab sg J (T + 9) (T + 10) 256 2 0 →
      V X (ZQ X (riQ sg I T x)) sg J 11 [some (rf g 1), some (rf g T), some (.int (nI k)), z] [] := by
    intro d
    induction d with
    | zero =>
      intro k p s J z hz hd2 hk hp hs hrd hf hm hJ2 hTJ h7J hWJ
      have e1 : flt x = none := by unfold flt; rw [hrd]; rfl
      have e2 : tolT x = s.1 := by unfold tolT; rw [hrd]; rfl
      have hkk : k = 200 := by omega
      subst hkk
      refine V_iload_n rfl dX2_readInto_11 ?_
      refine V_sipush (nI 200) (by decide) dX2_readInto_12 ?_
      refine V_icmp_geN 53 dX2_readInto_15 (by decide) (by omega) (by omega) (fun h15 => ?_) (fun h15 => absurd h15 (by decide))
      refine V_bipush (-4) (by decide) dX2_readInto_53 ?_
      refine V_iret rfl rfl rfl ?_ dX2_readInto_55
      unfold riQ
      rw [e1, e2]
      exact ⟨rfl, hf, hm, rfl, sh J _ hTJ hWJ, fun _ => ⟨hTJ, hWJ⟩⟩
    | succ d ih =>
      intro k p s J z hz hd2 hk hp hs hrd hf hm hJ2 hTJ h7J hWJ
      obtain ⟨m, hm⟩ := hm
      have hXJ : CTxt sg J x := hX.other (hf _ (by decide) (by decide) (by decide) (by omega)) (hf _ (by decide) (by decide) (by decide) (by omega))
      by_cases hpx : p < x.1
      · have hrd2 : rdF x (d + 1) p s = (match itF x s p with
          | none => (some p, s)
          | some y => rdF x d y.2 y.1) := by rw [rdF, if_pos hpx]; rfl
        refine V_iload_n rfl dX2_readInto_11 ?_
        refine V_sipush (nI 200) (by decide) dX2_readInto_12 ?_
        refine V_icmp_geN 53 dX2_readInto_15 (by decide) (by omega) (by omega) (fun h15 => absurd h15 (by omega)) (fun h15 => ?_)
        refine V_aload_n rfl dX2_readInto_18 ?_
        refine gfe_X2_23 (by assumption) (by assumption) rfl dX2_readInto_19 ?_
        refine V_aload_n rfl dX2_readInto_22 ?_
        refine gf_X2_14 (by assumption) (by assumption) rfl dX2_readInto_23 ?_
        refine cf_X2_32 (C_size hXJ.1) (by assumption) rfl rfl ft0 (Nat.le_of_ble_eq_true rfl) dX2_readInto_26 ?_
        refine V_icmp_geN 53 dX2_readInto_29 (by decide) (by omega) (by omega) (fun h29 => absurd h29 (by omega)) (fun h29 => ?_)
        refine V_aload_n rfl dX2_readInto_32 ?_
        refine gfe_X2_23 (by assumption) (by assumption) rfl dX2_readInto_33 ?_
        refine V_ist3 rfl rfl dX2_readInto_36 ?_
        refine V_aload_n rfl dX2_readInto_37 ?_
        refine V_aload_n rfl dX2_readInto_38 ?_
        refine cl_X2_36 (C_readItem hK0 hXJ hx hm hJ2 hpx hTJ h7J hs.1 hd) (by assumption) rfl rfl ft0 (Nat.le_of_ble_eq_true rfl) dX2_readInto_39 (fun rr s9 J9 hq => ?_)
        cases hy : itF x s p with
        | none =>
          rw [hy] at hq hrd2
          obtain ⟨hs9, hfr, hm9, rfl, hq⟩ := hq
          have hs9 := hs9.symm
          subst hs9
          have e1 : flt x = some p := by unfold flt; rw [hrd, hrd2]
          show V X _ sg J9 42 _ [.int (nI 0)]
          refine V_if_neN 47 dX2_readInto_42 (by decide) (by omega) (fun h42 => absurd h42 (by decide)) (fun h42 => ?_)
          refine V_iload_n rfl dX2_readInto_45 ?_
          refine V_iret rfl rfl rfl ?_ dX2_readInto_46
          unfold riQ
          rw [e1]
          exact ⟨rfl, fun q a b c e => (hfr q a b c (by omega)).trans (hf q a b c e), hm9, rfl, sh J9 _ hq (hWJ.other (hfr _ (by omega) (by omega) (by omega) (by omega))), fun z => by cases z⟩
        | some y =>
          rw [hy] at hq hrd2
          obtain ⟨hs9, hfr, hm9, rfl, hq1, hq2, hq3⟩ := hq
          have hs9 := hs9.symm
          subst hs9
          have hyl := itF_lt hy
          show V X _ sg J9 42 _ [.int (nI 1)]
          refine V_if_neN 47 dX2_readInto_42 (by decide) (by omega) (fun h42 => ?_) (fun h42 => absurd h42 (by decide))
          refine V_iinc2_ _ (nI_inc _) rfl rfl dX2_readInto_47 ?_
          refine V_goto 11 dX2_readInto_50 (by decide) ?_
          exact ih (k + 1) y.2 y.1 J9 _ rfl (by omega) (by omega) (by omega) (it_ok hs hy) (hrd.trans hrd2) (fun q a b c e => (hfr q a b c (by omega)).trans (hf q a b c e)) hm9 hq1 hq2 hq3 (hWJ.other (hfr _ (by omega) (by omega) (by omega) (by omega)))
      · have hrd2 : rdF x (d + 1) p s = (none, s) := by rw [rdF, if_neg hpx]
        have e1 : flt x = none := by unfold flt; rw [hrd, hrd2]
        have e2 : tolT x = s.1 := by unfold tolT; rw [hrd, hrd2]
        refine V_iload_n rfl dX2_readInto_11 ?_
        refine V_sipush (nI 200) (by decide) dX2_readInto_12 ?_
        refine V_icmp_geN 53 dX2_readInto_15 (by decide) (by omega) (by omega) (fun h15 => absurd h15 (by omega)) (fun h15 => ?_)
        refine V_aload_n rfl dX2_readInto_18 ?_
        refine gfe_X2_23 (by assumption) (by assumption) rfl dX2_readInto_19 ?_
        refine V_aload_n rfl dX2_readInto_22 ?_
        refine gf_X2_14 (by assumption) (by assumption) rfl dX2_readInto_23 ?_
        refine cf_X2_32 (C_size hXJ.1) (by assumption) rfl rfl ft0 (Nat.le_of_ble_eq_true rfl) dX2_readInto_26 ?_
        refine V_icmp_geN 53 dX2_readInto_29 (by decide) (by omega) (by omega) (fun h29 => ?_) (fun h29 => absurd h29 (by omega))
        refine V_bipush (-4) (by decide) dX2_readInto_53 ?_
        refine V_iret rfl rfl rfl ?_ dX2_readInto_55
        unfold riQ
        rw [e1, e2]
        exact ⟨rfl, hf, ⟨_, hm⟩, rfl, sh J _ hTJ hWJ, fun _ => ⟨hTJ, hWJ⟩⟩
  obtain ⟨I1, hI1⟩ : ∃ I1, I1 = upI I 1 2 (nI 0) := ⟨_, rfl⟩
  have hf1 : ∀ q, q ≠ 1 → I1 q = I q := fun q a => by rw [hI1]; exact funext fun k => upI_ne (Or.inl a)
  have hT1 : TownSh sg I1 T := hT.other (fun q _ _ => hf1 q (by omega))
  have hI12 : I1 1 2 = nI 0 := by rw [hI1]; exact upI_eq
  refine V_aload_n rfl dX2_readInto_0 ?_
  refine V_iconst (nI 0) (by decide) dX2_readInto_1 ?_
  refine pf_X2_23 (by assumption) rfl dX2_readInto_2 ?_
  rw [← hI1]
  refine V_aload_n rfl dX2_readInto_5 ?_
  refine cl_X2_27 (C_townClear hT1) (by assumption) rfl rfl ft0 (Nat.le_of_ble_eq_true rfl) dX2_readInto_6 (fun rr s9 J9 hq => ?_)
  obtain ⟨rfl, hs, q1, q2, q3, q4⟩ := hq
  have hs := hs.symm
  subst hs
  show V X _ sg J9 9 _ []
  refine V_iconst (nI 0) (by decide) dX2_readInto_9 ?_
  refine V_ist2 rfl rfl dX2_readInto_10 ?_
  exact loop 200 0 0 (initT, false) J9 _ rfl rfl (by decide) (by decide) init_ok rfl (fun q a b c e => (q4 q e).trans (hf1 q a)) ⟨m, hN.other ((q4 4 (by omega)).trans (hf1 4 (by decide)))⟩ ((congrFun (q4 1 (by omega)) 2).trans hI12) q1 q2 q3
end WHOLETEXT
def fFault (x : XV) : Int32 := o4 (flt x)
section FAULT
variable {g : GC} {sg : SG} {I : IM} {A B : Nat} {x : XV} {tv : TV} {W : WV} {P K : SV}
theorem CSt.drafted {J : IM} (h : CSt sg I A B x tv W P K) (e : ∀ q, q ≠ 1 → q ≠ 4 → q ≠ 5 → (q < B ∨ B + 11 ≤ q) → J q = I q) (hm : ∃ m, Tab sg J 4 5 3 1 m) (hB : TownSh sg J B) : CSt sg J A B x tv W P K := by
  obtain ⟨a, b, -, d, f, k, l, ⟨n1, n2⟩, -⟩ := h
  have hAB := a.2.2.2.2.2.2.2.2.1
  exact ⟨a, b.other (e _ (by omega) (by omega) (by omega) (by omega)) (e _ (by omega) (by omega) (by omega) (by omega)), hm, d.other (fun q _ _ => e q (by omega) (by omega) (by omega) (by omega)), f.other (fun q _ _ => e q (by omega) (by omega) (by omega) (by omega)), k.other (fun q _ _ => e q (by omega) (by omega) (by omega) (by omega)), l.other (fun q _ _ => e q (by omega) (by omega) (by omega) (by omega)), ⟨n1.other (fun q _ _ => e q (by omega) (by omega) (by omega) (by omega)), n2.other (fun q _ _ => e q (by omega) (by omega) (by omega) (by omega))⟩, hB⟩
theorem X_fault (hC : CSt sg I A B x tv W P K) (hS : STok x tv W P K) : Ct m_X5_fault g [rf g 0] sg I (stQ sg I A B tv (x, W, P, K, fFault x)) := by
  have hC0 := hC
  obtain ⟨hX0, hok, hnp, hns, ⟨hWok, hwk⟩, hPok, hKok⟩ := hS
  obtain ⟨⟨kc, c0, c1, c2, c3, c4, c5, c6, hAB, kt, u0, u1⟩, ⟨hXt, cX⟩, ⟨nn, hNt⟩, hPs, hKs, hW, hD, ⟨hT, hWl⟩, hB⟩ := hC
  have hmk := hWok.2.2.2.1
  have hn12 := hmk.1
  have hF1 := hok.1
  have hF8 := hok.2.1
  have h256 := p2_le8 hF8
  have h16 := p2_le16 hF8
  have hnw := nw_le hF8
  have hnw0 := nw_pos hWok
  have htr := hWok.1
  obtain ⟨⟨wk, w0, w1⟩, we2, we3, ⟨hM, cM⟩, hH, cH⟩ := id hW
  obtain ⟨⟨tk, t0, t1, t2, t3, t4⟩, tF5, tX6, ⟨hLt, cL⟩, ⟨hPt, cP⟩, ⟨hSt, cS⟩, ⟨hBt, cB⟩⟩ := id hT
  obtain ⟨hWt, cW⟩ := id hWl
  have kX := hXt.1
  have kM := hM.1
  have kH := hH.1
  have kL := hLt.1
  have kP := hPt.1
  have kS := hSt.1
  have kB := hBt.1
  have kW := hWt.1
  have nL10 := hLt.2.2.2.2.2.2.1
  have nP5 := hPt.2.2.2.2.2.2.1
  have nS5 := hSt.2.2.2.2.2.2.1
  have nB6 := hBt.2.2.2.2.2.2.1
  have kP0 := hPs.1.1
  have kK0 := hKs.1.1
  have hN2 : TxK sg := ⟨kt, u0, u1⟩
  refine Ct.of rfl (Nat.le_of_ble_eq_true rfl) fun X => ?_
  show V X _ sg I 0 [some (rf g 0)] []
  refine V_aload_n rfl dX5_fault_0 ?_
  refine gf_X5_10 (by assumption) (by assumption) rfl dX5_fault_1 ?_
  refine V_aload_n rfl dX5_fault_4 ?_
  refine gf_X5_45 (by assumption) (by assumption) rfl dX5_fault_5 ?_
  refine cl_X5_70 (C_readInto hN2 ⟨hXt, cX⟩ hX0 hNt hB (by omega)) (by assumption) rfl rfl ft0 (Nat.le_of_ble_eq_true rfl) dX5_fault_8 (fun rr s9 J9 hq => ?_)
  obtain ⟨hs, hf, hm, rfl, hB9, -⟩ := hq
  have hs := hs.symm
  subst hs
  show V X _ sg J9 11 _ [.int (o4 (flt x))]
  refine V_iret rfl rfl rfl ?_ dX5_fault_11
  exact ⟨rfl, rfl, hC0.drafted hf hm hB9, fun q hq => hf q (by omega) (by omega) (by omega) (by omega)⟩
end FAULT
