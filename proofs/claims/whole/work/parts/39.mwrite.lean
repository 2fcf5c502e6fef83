/-! CarvedWeeksModel: write -/
theorem i2b_small : ∀ m, m < 128 → (nI m).toInt8.toInt32 = nI m := by decide +kernel
theorem nar_b {m : Nat} (h : m < 128) : narrow .byte (.int (nI m)) = .int (nI m) := by
  show Value.int (nI m).toInt8.toInt32 = _
  rw [i2b_small m h]
section MWRITE
variable {g : GC} {sg : SG} {I : IM} {x : XV} {tv : TV} {W : WV} {P K : SV} {np : Nat}
theorem D_write {l : Int32} (hM : MSt sg I x tv W P K) (hS : STok x tv W P K) : Ct m_X6_write g [rf g 92, .int l] sg I (mstQ sg I tv (gWrite x W P K l)) := by
  have hM0 := hM
  obtain ⟨hX0, hok, hnp, hns, ⟨hWok, hwk⟩, hPok, hKok⟩ := hS
  obtain ⟨hK, ⟨mlen, mtx⟩, hT, hW, mkept, mKs, mdone, mPs⟩ := hM
  have hK0 := hK
  have hT0 := hT
  have hW0 := hW
  obtain ⟨m0, mR1, mR3, mR4, mR5, mR6, mR7, mR8, mR10, mR16, mR17, mA93, mA94, mA95, mA96, mA97, mA98, mA99, mA100, mA101, mA102⟩ := hK
  obtain ⟨mF, mnL, mnP, mnS, mnB, mL, mP, mS, mB, mWd, mnw⟩ := hT
  have hF1 := hok.1
  have hF8 := hok.2.1
  have h256 := p2_le8 hF8
  have h16 := p2_le16 hF8
  have nL10 := hok.2.2.2.2.2.2.2.1
  have nP5 := hok.2.2.2.2.2.2.2.2.1
  have nS5 := hok.2.2.2.2.2.2.2.2.2.1
  have nB6 := hok.2.2.2.2.2.2.2.2.2.2
  have hmk := hWok.2.2.2.1
  have hn12 := hmk.1
  have htr := hWok.1
  have hnw := nw_le hF8
  have hnw0 := nw_pos hWok
  obtain ⟨wT0, wK0, wM0, wH0, wC0⟩ := id hW
  have hx200 := hX0.1
  refine Ct.of rfl (Nat.le_of_ble_eq_true rfl) fun X => ?_
  show V X _ sg I 0 [some (rf g 92), some (.int l)] []
  have hfin : ∀ m, 32 ≤ m → m ≤ 126 → l = nI m → V X (ZQ X (mstQ sg I tv (gWrite x W P K l))) sg I 16 [some (rf g 92), some (.int (nI m))] [] := by
    intro m h1 h2 el
    have hin : nI 32 ≤ l ∧ l ≤ nI 126 := by rw [el]; exact ⟨(nI_leI (by decide) (by omega)).mpr h1, (nI_leI (by omega) (by decide)).mpr h2⟩
    by_cases hc : x.1 < 200
    · have hg : gWrite x W P K l = ((x.1 + 1, fun i => if i = x.1 then m else x.2 i), W, P, K, nI (x.1 + 1)) := by unfold gWrite; rw [if_pos hin, if_pos hc, el, ix_nI (by omega)]
      rw [hg]
      have hln : ∀ v, (upI I 93 x.1 v) 92 0 = nI x.1 := fun v => by rw [upI_ne (Or.inl (by decide))]; exact mlen
      have hln2 := hln (nI m)
      have hln3 : (upI (upI I 93 x.1 (nI m)) 92 0 (nI (x.1 + 1))) 92 0 = nI (x.1 + 1) := upI_eq
      refine V_aload_n rfl dX6_write_16 ?_
      refine gfe_X6_56 (by assumption) (by assumption) rfl dX6_write_17 ?_
      refine V_sipush (nI 200) (by decide) dX6_write_20 ?_
      refine V_icmp_neN 29 dX6_write_23 (by decide) (by omega) (by omega) (fun h23 => ?_) (fun h23 => absurd h23 (by omega))
      refine V_aload_n rfl dX6_write_29 ?_
      refine gf_X6_7 (by assumption) (by assumption) rfl dX6_write_30 ?_
      refine V_aload_n rfl dX6_write_33 ?_
      refine gfe_X6_56 (by assumption) (by assumption) rfl dX6_write_34 ?_
      refine V_iload_n rfl dX6_write_37 ?_
      refine V_i2b dX6_write_38 ?_
      rw [i2b_small m (by omega)]
      refine V_bast _ (by assumption) rfl (by omega) (by omega) (nar_b (by omega)) dX6_write_39 ?_
      refine V_aload_n rfl dX6_write_40 ?_
      refine V_dup rfl dX6_write_41 ?_
      refine gfe_X6_56 (by assumption) (by assumption) rfl dX6_write_42 ?_
      refine V_iconst (nI 1) (by decide) dX6_write_45 ?_
      refine V_iaddN dX6_write_46 ?_
      refine pf_X6_56 (by assumption) rfl dX6_write_47 ?_
      refine V_aload_n rfl dX6_write_50 ?_
      refine gfe_X6_56 (by assumption) (by assumption) rfl dX6_write_51 ?_
      refine V_iret rfl rfl rfl ?_ dX6_write_54
      have hfr : ∀ q, q ≠ 92 → q ≠ 93 → (upI (upI I 93 x.1 (nI m)) 92 0 (nI (x.1 + 1))) q = I q := fun q a b => funext fun k => by rw [upI_ne (Or.inl a), upI_ne (Or.inl b)]
      have hkk : ∀ k, k ≠ 0 → (upI (upI I 93 x.1 (nI m)) 92 0 (nI (x.1 + 1))) 92 k = I 92 k := fun k hk => by rw [upI_ne (Or.inr hk), upI_ne (Or.inl (by decide))]
      obtain ⟨a, -, c, d, f, k, y, w⟩ := hM0
      refine ⟨rfl, rfl, ⟨a, ⟨hln3, fun i (hi : i < x.1 + 1) => ?_⟩, ?_, ?_, (hkk 11 (by decide)).trans f, fun i hi => ?_, (hkk 12 (by decide)).trans y, fun i hi => ?_⟩, fun q hq => hfr q (by omega) (by omega)⟩
      · show _ = nI (if i = x.1 then m else x.2 i)
        rw [upI_ne (Or.inl (by decide))]
        by_cases c : i = x.1
        · rw [if_pos c, c]; exact upI_eq
        · rw [if_neg c, upI_ne (Or.inr c)]; exact mtx i (by omega)
      · unfold MTn at c ⊢
        rw [hfr 94 (by decide) (by decide), hfr 95 (by decide) (by decide), hfr 96 (by decide) (by decide), hfr 97 (by decide) (by decide), hfr 98 (by decide) (by decide), hfr 99 (by decide) (by decide), hkk 9 (by decide)]; exact c
      · unfold SlW at d ⊢; rw [hfr 100 (by decide) (by decide)]; exact d
      · have := k i hi; unfold SlW at this ⊢; rw [hfr 100 (by decide) (by decide)]; exact this
      · have := w i hi; unfold SlW at this ⊢; rw [hfr 100 (by decide) (by decide)]; exact this
    · have hg : gWrite x W P K l = (x, W, P, K, -3) := by unfold gWrite; rw [if_pos hin, if_neg hc]
      rw [hg]
      refine V_aload_n rfl dX6_write_16 ?_
      refine gfe_X6_56 (by assumption) (by assumption) rfl dX6_write_17 ?_
      refine V_sipush (nI 200) (by decide) dX6_write_20 ?_
      refine V_icmp_neN 29 dX6_write_23 (by decide) (by omega) (by omega) (fun h23 => absurd h23 (by omega)) (fun h23 => ?_)
      refine V_bipush (-3) (by decide) dX6_write_26 ?_
      refine V_iret rfl rfl rfl ?_ dX6_write_28
      exact ⟨rfl, rfl, hM0, fun q _ => rfl⟩
  refine V_iload_n rfl dX6_write_0 ?_
  refine V_i2l dX6_write_1 ?_
  refine V_ldc2 RX6 _ rfl wk_X6_48 dX6_write_2 ?_
  refine V_ldc2 RX6 _ rfl wk_X6_50 dX6_write_5 ?_
  rw [show (32 : Int64) = lN 32 from by decide, show (126 : Int64) = lN 126 from by decide]
  refine cf_X6_52 (C_inNN (by decide) (by decide)) rfl rfl ft0 (Nat.le_of_ble_eq_true rfl) dX6_write_8 ?_
  refine V_if_neB 16 dX6_write_11 (by decide) (fun h11 => ?_) (fun h11 => ?_)
  · skip
    have hl0 : ¬ l < 0 := fun z => absurd (Int32.lt_of_lt_of_le z (show (0 : Int32) ≤ nI 32 by decide)) (by rw [Int32.not_lt]; exact h11.1)
    obtain ⟨m, hm, rfl⟩ := nn_ex hl0
    exact hfin m ((nI_leI (by decide) hm).mp h11.1) ((nI_leI hm (by decide)).mp h11.2) rfl
  · skip
    refine V_iconst (-1) (by decide) dX6_write_14 ?_
    refine V_iret rfl rfl rfl ?_ dX6_write_15
    unfold mstQ
    rw [show gWrite x W P K l = (x, W, P, K, -1) from by unfold gWrite; rw [if_neg h11]]
    exact ⟨rfl, rfl, hM0, fun q _ => rfl⟩
end MWRITE
