/-! CarvedWeeksModel: write, deed -/
section MDEED
variable {g : GC} {sg : SG} {I : IM} {x : XV} {tv : TV} {W : WV} {P K : SV} {np : Nat}
theorem D_deed {s : Int32} (hM : MSt sg I x tv W P K) (hS : STok x tv W P K) : Ct m_X6_deed g [rf g 92, .int s] sg I (mstQ sg I tv (gDeed x tv W P K s)) := by
  have hM0 := hM
  have hS0 := hS
  obtain ⟨hX0, hok, hnp, hns, ⟨hWok, hwk⟩, hPok, hKok⟩ := hS
  obtain ⟨hK, ⟨mlen, mtx⟩, hT, hW, mkept, mKs, mdone, mPs⟩ := hM
  have hK0 := hK
  have hT0 := hT
  have hW0 := hW
  obtain ⟨m0, mR1, mR3, mR4, mR5, mR6, mR7, mR8, mR10, mR16, mR17, mA93, mA94, mA95, mA96, mA97, mA98, mA99, mA100, mA101, mA102⟩ := hK
  obtain ⟨mF, mnL, mnP, mnS, mnB, mL, mP, mS, mB, mWd, mnw⟩ := hT
  have hF1 := hok.1
  have hF8 := hok.2.1
  have h256 := p2_le8 hF8
  have h16 := p2_le16 hF8
  have nL10 := hok.2.2.2.2.2.2.2.1
  have nP5 := hok.2.2.2.2.2.2.2.2.1
  have nS5 := hok.2.2.2.2.2.2.2.2.2.1
  have nB6 := hok.2.2.2.2.2.2.2.2.2.2
  have hmk := hWok.2.2.2.1
  have hn12 := hmk.1
  have htr := hWok.1
  have hnw := nw_le hF8
  have hnw0 := nw_pos hWok
  obtain ⟨wT0, wK0, wM0, wH0, wC0⟩ := id hW
  refine Ct.of rfl (Nat.le_of_ble_eq_true rfl) fun X => ?_
  show V X _ sg I 0 [some (rf g 92), some (.int s), none] []
  have hfin : ∀ j, j < 2 ^ tF tv → s = nI j → V X (ZQ X (mstQ sg I tv (gDeed x tv W P K s))) sg I 10 [some (rf g 92), some (.int (nI j)), none] [] := by
    intro j hj es
    have hg : gDeed x tv W P K s = if lawB tv j = true then (x, (j, wK W, wM W, wH W), pushS 8 P W, K, nI (pc16 (wT W ^^^ j))) else (x, W, P, K, -2) := by unfold gDeed; rw [ifb_pos hj (by omega) es]
    have hwb : wB tv j = lawB tv j := by unfold wB; rw [decide_eq_true hj, Bool.true_and]
    have hwv : I 99 j = bI (lawB tv j = true) := by rw [mWd j (by omega), hwb]
    have hxo : wT W ^^^ j < 65536 := Nat.xor_lt_two_pow (n := 16) (by omega) (by omega)
    rw [hg]
    refine V_aload_n rfl dX6_deed_10 ?_
    refine gf_X6_29 (by assumption) (by assumption) rfl dX6_deed_11 ?_
    refine V_iload_n rfl dX6_deed_14 ?_
    refine V_zald _ (by assumption) rfl (by omega) (by omega) dX6_deed_15 ?_
    refine V_topi (hwv) ?_
    refine V_if_neB 22 dX6_deed_16 (by decide) (fun h16 => ?_) (fun h16 => ?_)
    · skip
      refine V_aload_n rfl dX6_deed_22 ?_
      refine cl_X6_146 (D_push hM0 hS0) (by assumption) rfl rfl ft0 (Nat.le_of_ble_eq_true rfl) dX6_deed_23 (fun rr s9 J1 hq => ?_)
      obtain ⟨rfl, hs, hM1, hfr, -⟩ := hq
      have hs := hs.symm
      subst hs
      show V X _ sg J1 26 _ []
      obtain ⟨-, -, hT1, hW1, k1, k2, p1, p2⟩ := id hM1
      have hJ0 : J1 100 0 = nI (wT W) := hW1.1
      refine V_aload_n rfl dX6_deed_26 ?_
      refine gf_X6_33 (by assumption) (by assumption) rfl dX6_deed_27 ?_
      refine V_iconst (nI 0) (by decide) dX6_deed_30 ?_
      refine V_iald _ (by assumption) rfl (by omega) (by omega) dX6_deed_31 ?_
      refine V_topi (hJ0) ?_
      refine V_ist2 rfl rfl dX6_deed_32 ?_
      refine V_aload_n rfl dX6_deed_33 ?_
      refine gf_X6_33 (by assumption) (by assumption) rfl dX6_deed_34 ?_
      refine V_iconst (nI 0) (by decide) dX6_deed_37 ?_
      refine V_iload_n rfl dX6_deed_38 ?_
      refine V_iast _ (by assumption) rfl (by omega) (by omega) dX6_deed_39 ?_
      refine V_iload_n rfl dX6_deed_40 ?_
      refine V_iload_n rfl dX6_deed_41 ?_
      refine V_ixorN dX6_deed_42 ?_
      refine cf_X6_149 (D_many hxo) rfl rfl ft0 (Nat.le_of_ble_eq_true rfl) dX6_deed_43 ?_
      refine V_iret rfl rfl rfl ?_ dX6_deed_46
      rw [if_pos h16]
      have hpk := pushS_ok (M := 8) hPok (⟨hWok, hwk⟩ : WKok tv W)
      have hsl : ∀ s, 1 ≤ s → ∀ k, k < 56 → (upI J1 100 0 (nI j)) 100 (56 * s + k) = J1 100 (56 * s + k) := fun s h k _ => upI_ne (Or.inr (by omega))
      have hfq : ∀ q, q ≠ 100 → (upI J1 100 0 (nI j)) q = J1 q := fun q h => funext fun k => upI_ne (Or.inl h)
      refine ⟨rfl, rfl, hM1.slots (fun q a b => hfq q a) (by rw [hfq 92 (by decide)]) (by rw [hfq 92 (by decide)]) ⟨upI_eq, (upI_ne (Or.inr (by decide))).trans hW1.2.1, (upI_ne (Or.inr (by decide))).trans hW1.2.2.1, fun i hi => (upI_ne (Or.inr (by omega))).trans (hW1.2.2.2.1 i hi), fun m hm c hc => (upI_ne (Or.inr (by omega))).trans (hW1.2.2.2.2 m hm c hc)⟩ (by rw [hfq 92 (by decide)]; exact k1) (fun i (hi : i < K.1) => (k2 i hi).same (hKok.2 i hi).1.2.2.2.1.1 nP5 (hsl _ (by omega))) (by rw [hfq 92 (by decide)]; exact p1) (fun i hi => (p2 i hi).same (hpk.2 i hi).1.2.2.2.1.1 nP5 (hsl _ (by omega))), fun q hq => by rw [hfq q (by omega), hfr q hq]⟩
    · skip
      refine V_bipush (-2) (by decide) dX6_deed_19 ?_
      refine V_iret rfl rfl rfl ?_ dX6_deed_21
      rw [if_neg h16]
      exact ⟨rfl, rfl, hM0, fun q _ => rfl⟩
  refine V_aload_n rfl dX6_deed_0 ?_
  refine V_iload_n rfl dX6_deed_1 ?_
  refine cf_X6_143 (D_isSet hK0 hT0 hok) (by assumption) rfl rfl ft0 (Nat.le_of_ble_eq_true rfl) dX6_deed_2 ?_
  refine V_if_neB 10 dX6_deed_5 (by decide) (fun h5 => ?_) (fun h5 => ?_)
  · skip
    obtain ⟨j, hj, rfl⟩ := bel_ex (by omega) h5
    exact hfin j hj rfl
  · skip
    refine V_iconst (-1) (by decide) dX6_deed_8 ?_
    refine V_iret rfl rfl rfl ?_ dX6_deed_9
    unfold mstQ
    rw [show gDeed x tv W P K s = (x, W, P, K, -1) from by unfold gDeed; rw [ifb_neg h5]]
    exact ⟨rfl, rfl, hM0, fun q _ => rfl⟩
end MDEED
