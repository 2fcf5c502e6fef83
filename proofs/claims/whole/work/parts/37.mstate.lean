/-! CarvedWeeksModel: write, wipe, undo, keep, back -/
section MSTATE
variable {g : GC} {sg : SG} {I : IM} {x : XV} {tv : TV} {W : WV} {P K : SV} {np : Nat}
theorem D_wipe (hM : MSt sg I x tv W P K) (hS : STok x tv W P K) : Ct m_X6_wipe g [rf g 92] sg I (mstQ sg I tv (gWipe x W P K)) := by
  have hM0 := hM
  obtain ⟨hX0, hok, hnp, hns, ⟨hWok, hwk⟩, hPok, hKok⟩ := hS
  obtain ⟨hK, ⟨mlen, mtx⟩, hT, hW, mkept, mKs, mdone, mPs⟩ := hM
  have hK0 := hK
  have hT0 := hT
  have hW0 := hW
  obtain ⟨m0, mR1, mR3, mR4, mR5, mR6, mR7, mR8, mR10, mR16, mR17, mA93, mA94, mA95, mA96, mA97, mA98, mA99, mA100, mA101, mA102⟩ := hK
  obtain ⟨mF, mnL, mnP, mnS, mnB, mL, mP, mS, mB, mWd, mnw⟩ := hT
  have hF1 := hok.1
  have hF8 := hok.2.1
  have h256 := p2_le8 hF8
  have h16 := p2_le16 hF8
  have nL10 := hok.2.2.2.2.2.2.2.1
  have nP5 := hok.2.2.2.2.2.2.2.2.1
  have nS5 := hok.2.2.2.2.2.2.2.2.2.1
  have nB6 := hok.2.2.2.2.2.2.2.2.2.2
  have hmk := hWok.2.2.2.1
  have hn12 := hmk.1
  have htr := hWok.1
  have hnw := nw_le hF8
  have hnw0 := nw_pos hWok
  obtain ⟨wT0, wK0, wM0, wH0, wC0⟩ := id hW
  refine Ct.of rfl (Nat.le_of_ble_eq_true rfl) fun X => ?_
  show V X _ sg I 0 [some (rf g 92), none] []
  refine V_aload_n rfl dX6_wipe_0 ?_
  refine gfe_X6_56 (by assumption) (by assumption) rfl dX6_wipe_1 ?_
  refine V_ist1 rfl rfl dX6_wipe_4 ?_
  refine V_aload_n rfl dX6_wipe_5 ?_
  refine V_iconst (nI 0) (by decide) dX6_wipe_6 ?_
  refine pf_X6_56 (by assumption) rfl dX6_wipe_7 ?_
  refine V_iload_n rfl dX6_wipe_10 ?_
  refine V_iret rfl rfl rfl ?_ dX6_wipe_11
  unfold mstQ gWipe
  have hfr : ∀ q, q ≠ 92 → (upI I 92 0 (nI 0)) q = I q := fun q hq => funext fun k => upI_ne (Or.inl hq)
  have hkk : ∀ k, k ≠ 0 → (upI I 92 0 (nI 0)) 92 k = I 92 k := fun k hk => upI_ne (Or.inr hk)
  obtain ⟨a, -, c, d, f, k, l, m⟩ := hM0
  refine ⟨rfl, rfl, ⟨a, ⟨upI_eq, fun i hi => absurd hi (Nat.not_lt_zero i)⟩, ?_, ?_, (hkk 11 (by decide)).trans f, fun i hi => ?_, (hkk 12 (by decide)).trans l, fun i hi => ?_⟩, fun q hq => hfr q (by omega)⟩
  · unfold MTn at c ⊢
    rw [hfr 94 (by decide), hfr 95 (by decide), hfr 96 (by decide), hfr 97 (by decide), hfr 98 (by decide), hfr 99 (by decide), hkk 9 (by decide)]; exact c
  · unfold SlW at d ⊢; rw [hfr 100 (by decide)]; exact d
  · have := k i hi; unfold SlW at this ⊢; rw [hfr 100 (by decide)]; exact this
  · have := m i hi; unfold SlW at this ⊢; rw [hfr 100 (by decide)]; exact this
theorem D_undo (hM : MSt sg I x tv W P K) (hS : STok x tv W P K) : Ct m_X6_undo g [rf g 92] sg I (mstQ sg I tv (gUndo x W P K)) := by
  have hM0 := hM
  obtain ⟨hX0, hok, hnp, hns, ⟨hWok, hwk⟩, hPok, hKok⟩ := hS
  obtain ⟨hK, ⟨mlen, mtx⟩, hT, hW, mkept, mKs, mdone, mPs⟩ := hM
  have hK0 := hK
  have hT0 := hT
  have hW0 := hW
  obtain ⟨m0, mR1, mR3, mR4, mR5, mR6, mR7, mR8, mR10, mR16, mR17, mA93, mA94, mA95, mA96, mA97, mA98, mA99, mA100, mA101, mA102⟩ := hK
  obtain ⟨mF, mnL, mnP, mnS, mnB, mL, mP, mS, mB, mWd, mnw⟩ := hT
  have hF1 := hok.1
  have hF8 := hok.2.1
  have h256 := p2_le8 hF8
  have h16 := p2_le16 hF8
  have nL10 := hok.2.2.2.2.2.2.2.1
  have nP5 := hok.2.2.2.2.2.2.2.2.1
  have nS5 := hok.2.2.2.2.2.2.2.2.2.1
  have nB6 := hok.2.2.2.2.2.2.2.2.2.2
  have hmk := hWok.2.2.2.1
  have hn12 := hmk.1
  have htr := hWok.1
  have hnw := nw_le hF8
  have hnw0 := nw_pos hWok
  obtain ⟨wT0, wK0, wM0, wH0, wC0⟩ := id hW
  have hP8 := hPok.1
  have hK2 := hKok.1
  refine Ct.of rfl (Nat.le_of_ble_eq_true rfl) fun X => ?_
  show V X _ sg I 0 [some (rf g 92)] []
  by_cases h0 : P.1 = 0
  · skip
    refine V_aload_n rfl dX6_undo_0 ?_
    refine gfe_X6_106 (by assumption) (by assumption) rfl dX6_undo_1 ?_
    refine V_if_neN 10 dX6_undo_4 (by decide) (by omega) (fun h4 => absurd h4 (by omega)) (fun h4 => ?_)
    refine V_bipush (-2) (by decide) dX6_undo_7 ?_
    refine V_iret rfl rfl rfl ?_ dX6_undo_9
    unfold mstQ
    rw [show gUndo x W P K = (x, W, P, K, -2) from by unfold gUndo; rw [if_pos h0]]
    exact ⟨rfl, rfl, hM0, fun q _ => rfl⟩
  · obtain ⟨I1, hI1⟩ : ∃ I1, I1 = upI I 92 12 (nI (P.1 - 1)) := ⟨_, rfl⟩
    have hf1 : ∀ q, q ≠ 92 → I1 q = I q := fun q a => by rw [hI1]; exact funext fun k => upI_ne (Or.inl a)
    have hk1 : ∀ k, k ≠ 12 → I1 92 k = I 92 k := fun k a => by rw [hI1]; exact upI_ne (Or.inr a)
    have h12 : I1 92 12 = nI (P.1 - 1) := by rw [hI1]; exact upI_eq
    have hP := hPok.2 (P.1 - 1) (by omega)
    have hPs : SlW I1 (3 + (P.1 - 1)) (P.2 (P.1 - 1)) (tP tv).1 := (mPs (P.1 - 1) (by omega)).same hP.1.2.2.2.1.1 nP5 (fun k _ => by rw [hf1 100 (by decide)])
    refine V_aload_n rfl dX6_undo_0 ?_
    refine gfe_X6_106 (by assumption) (by assumption) rfl dX6_undo_1 ?_
    refine V_if_neN 10 dX6_undo_4 (by decide) (by omega) (fun h4 => ?_) (fun h4 => absurd h4 (by omega))
    refine V_aload_n rfl dX6_undo_10 ?_
    refine V_dup rfl dX6_undo_11 ?_
    refine gfe_X6_106 (by assumption) (by assumption) rfl dX6_undo_12 ?_
    refine V_iconst (nI 1) (by decide) dX6_undo_15 ?_
    refine V_isubN (by omega) dX6_undo_16 ?_
    refine pf_X6_106 (by assumption) rfl dX6_undo_17 ?_
    rw [← hI1]
    refine V_aload_n rfl dX6_undo_20 ?_
    refine V_iconst (nI 3) (by decide) dX6_undo_21 ?_
    refine V_aload_n rfl dX6_undo_22 ?_
    refine gfe_X6_106 (by assumption) (by assumption) rfl dX6_undo_23 ?_
    refine V_iaddN dX6_undo_26 ?_
    refine V_iconst (nI 0) (by decide) dX6_undo_27 ?_
    refine cl_X6_139 (D_copies (a := 3 + (P.1 - 1)) (b := 0) hK0 (by omega) (by decide) (by omega)) (by assumption) rfl rfl ft0 (Nat.le_of_ble_eq_true rfl) dX6_undo_28 (fun rr s9 J1 hq => ?_)
    obtain ⟨rfl, hs, q1, q2, q3⟩ := hq
    have hs := hs.symm
    subst hs
    show V X _ sg J1 31 _ []
    have j12 : J1 92 12 = nI (P.1 - 1) := by rw [q3 92 (by decide)]; exact h12
    refine V_aload_n rfl dX6_undo_31 ?_
    refine gfe_X6_106 (by assumption) (by assumption) rfl dX6_undo_32 ?_
    refine V_iret rfl rfl rfl ?_ dX6_undo_35
    unfold mstQ
    rw [show gUndo x W P K = (x, P.2 (P.1 - 1), (P.1 - 1, P.2), K, nI (P.1 - 1)) from by unfold gUndo; rw [if_neg h0]]
    have hsl : ∀ s, 1 ≤ s → s < 12 → ∀ k, k < 56 → J1 100 (56 * s + k) = I 100 (56 * s + k) := fun s h1 h2 k hk => by rw [q2 _ (by omega), hf1 100 (by decide)]
    refine ⟨rfl, rfl, hM0.slots (fun q a b => by rw [q3 q a, hf1 q b]) (by rw [q3 92 (by decide), hk1 0 (by decide)]) (by rw [q3 92 (by decide), hk1 9 (by decide)]) (hPs.copied hP.1.2.2.2.1.1 nP5 q1) (by rw [q3 92 (by decide), hk1 11 (by decide)]; exact mkept) (fun i (hi : i < K.1) => (mKs i hi).same (hKok.2 i hi).1.2.2.2.1.1 nP5 (hsl _ (by omega) (by omega))) j12 (fun i hi => ?_), fun q hq => by rw [q3 q (by omega), hf1 q (by omega)]⟩
    have hi2 : i < P.1 - 1 := hi
    exact (mPs i (by omega)).same (hPok.2 i (by omega)).1.2.2.2.1.1 nP5 (hsl _ (by omega) (by omega))
theorem D_keep (hM : MSt sg I x tv W P K) (hS : STok x tv W P K) : Ct m_X6_keep g [rf g 92] sg I (mstQ sg I tv (gKeep x W P K)) := by
  have hM0 := hM
  obtain ⟨hX0, hok, hnp, hns, ⟨hWok, hwk⟩, hPok, hKok⟩ := hS
  obtain ⟨hK, ⟨mlen, mtx⟩, hT, hW, mkept, mKs, mdone, mPs⟩ := hM
  have hK0 := hK
  have hT0 := hT
  have hW0 := hW
  obtain ⟨m0, mR1, mR3, mR4, mR5, mR6, mR7, mR8, mR10, mR16, mR17, mA93, mA94, mA95, mA96, mA97, mA98, mA99, mA100, mA101, mA102⟩ := hK
  obtain ⟨mF, mnL, mnP, mnS, mnB, mL, mP, mS, mB, mWd, mnw⟩ := hT
  have hF1 := hok.1
  have hF8 := hok.2.1
  have h256 := p2_le8 hF8
  have h16 := p2_le16 hF8
  have nL10 := hok.2.2.2.2.2.2.2.1
  have nP5 := hok.2.2.2.2.2.2.2.2.1
  have nS5 := hok.2.2.2.2.2.2.2.2.2.1
  have nB6 := hok.2.2.2.2.2.2.2.2.2.2
  have hmk := hWok.2.2.2.1
  have hn12 := hmk.1
  have htr := hWok.1
  have hnw := nw_le hF8
  have hnw0 := nw_pos hWok
  obtain ⟨wT0, wK0, wM0, wH0, wC0⟩ := id hW
  have hP8 := hPok.1
  have hK2 := hKok.1
  refine Ct.of rfl (Nat.le_of_ble_eq_true rfl) fun X => ?_
  show V X _ sg I 0 [some (rf g 92)] []
  by_cases h0 : K.1 < 2
  · obtain ⟨I1, hI1⟩ : ∃ I1, I1 = upI I 92 11 (nI (K.1 + 1)) := ⟨_, rfl⟩
    have hf1 : ∀ q, q ≠ 92 → I1 q = I q := fun q a => by rw [hI1]; exact funext fun k => upI_ne (Or.inl a)
    have hk1 : ∀ k, k ≠ 11 → I1 92 k = I 92 k := fun k a => by rw [hI1]; exact upI_ne (Or.inr a)
    have h11 : I1 92 11 = nI (K.1 + 1) := by rw [hI1]; exact upI_eq
    have hW1 : SlW I1 0 W (tP tv).1 := hW0.same hn12 nP5 (fun k _ => by rw [hf1 100 (by decide)])
    have hg : gKeep x W P K = (x, W, P, (K.1 + 1, fun i => if i = K.1 then W else K.2 i), nI (K.1 + 1)) := by unfold gKeep pushS; rw [if_pos h0, if_pos h0]
    refine V_aload_n rfl dX6_keep_0 ?_
    refine gfe_X6_109 (by assumption) (by assumption) rfl dX6_keep_1 ?_
    refine V_iconst (nI 2) (by decide) dX6_keep_4 ?_
    refine V_icmp_neN 11 dX6_keep_5 (by decide) (by omega) (by omega) (fun h5 => ?_) (fun h5 => absurd h5 (by omega))
    refine V_aload_n rfl dX6_keep_11 ?_
    refine V_dup rfl dX6_keep_12 ?_
    refine gfe_X6_109 (by assumption) (by assumption) rfl dX6_keep_13 ?_
    refine V_iconst (nI 1) (by decide) dX6_keep_16 ?_
    refine V_iaddN dX6_keep_17 ?_
    refine pf_X6_109 (by assumption) rfl dX6_keep_18 ?_
    rw [← hI1]
    refine V_aload_n rfl dX6_keep_21 ?_
    refine V_iconst (nI 0) (by decide) dX6_keep_22 ?_
    refine V_aload_n rfl dX6_keep_23 ?_
    refine gfe_X6_109 (by assumption) (by assumption) rfl dX6_keep_24 ?_
    refine cl_X6_139 (D_copies (a := 0) (b := K.1 + 1) hK0 (by decide) (by omega) (by omega)) (by assumption) rfl rfl ft0 (Nat.le_of_ble_eq_true rfl) dX6_keep_27 (fun rr s9 J1 hq => ?_)
    obtain ⟨rfl, hs, q1, q2, q3⟩ := hq
    have hs := hs.symm
    subst hs
    show V X _ sg J1 30 _ []
    have j11 : J1 92 11 = nI (K.1 + 1) := by rw [q3 92 (by decide)]; exact h11
    refine V_aload_n rfl dX6_keep_30 ?_
    refine gfe_X6_109 (by assumption) (by assumption) rfl dX6_keep_31 ?_
    refine V_iret rfl rfl rfl ?_ dX6_keep_34
    unfold mstQ
    rw [hg]
    have hsl : ∀ s, s ≠ K.1 + 1 → s < 12 → ∀ k, k < 56 → J1 100 (56 * s + k) = I 100 (56 * s + k) := fun s h1 h2 k hk => by rw [q2 _ (by omega), hf1 100 (by decide)]
    refine ⟨rfl, rfl, hM0.slots (fun q a b => by rw [q3 q a, hf1 q b]) (by rw [q3 92 (by decide), hk1 0 (by decide)]) (by rw [q3 92 (by decide), hk1 9 (by decide)]) (hW0.same hn12 nP5 (hsl 0 (by omega) (by decide))) j11 (fun i (hi : i < K.1 + 1) => ?_) (by rw [q3 92 (by decide), hk1 12 (by decide)]; exact mdone) (fun i (hi : i < P.1) => (mPs i hi).same (hPok.2 i hi).1.2.2.2.1.1 nP5 (hsl _ (by omega) (by omega))), fun q hq => by rw [q3 q (by omega), hf1 q (by omega)]⟩
    show SlW J1 (1 + i) (if i = K.1 then W else K.2 i) (tP tv).1
    by_cases c : i = K.1
    · rw [if_pos c, c, Nat.add_comm 1 K.1]; exact hW1.copied hn12 nP5 q1
    · rw [if_neg c]; exact (mKs i (by omega)).same (hKok.2 i (by omega)).1.2.2.2.1.1 nP5 (hsl _ (by omega) (by omega))
  · skip
    refine V_aload_n rfl dX6_keep_0 ?_
    refine gfe_X6_109 (by assumption) (by assumption) rfl dX6_keep_1 ?_
    refine V_iconst (nI 2) (by decide) dX6_keep_4 ?_
    refine V_icmp_neN 11 dX6_keep_5 (by decide) (by omega) (by omega) (fun h5 => absurd h5 (by omega)) (fun h5 => ?_)
    refine V_bipush (-3) (by decide) dX6_keep_8 ?_
    refine V_iret rfl rfl rfl ?_ dX6_keep_10
    unfold mstQ
    rw [show gKeep x W P K = (x, W, P, K, -3) from by unfold gKeep; rw [if_neg h0]]
    exact ⟨rfl, rfl, hM0, fun q _ => rfl⟩
theorem D_back (hM : MSt sg I x tv W P K) (hS : STok x tv W P K) : Ct m_X6_back g [rf g 92] sg I (mstQ sg I tv (gBack x W P K)) := by
  have hM0 := hM
  obtain ⟨hX0, hok, hnp, hns, ⟨hWok, hwk⟩, hPok, hKok⟩ := hS
  obtain ⟨hK, ⟨mlen, mtx⟩, hT, hW, mkept, mKs, mdone, mPs⟩ := hM
  have hK0 := hK
  have hT0 := hT
  have hW0 := hW
  obtain ⟨m0, mR1, mR3, mR4, mR5, mR6, mR7, mR8, mR10, mR16, mR17, mA93, mA94, mA95, mA96, mA97, mA98, mA99, mA100, mA101, mA102⟩ := hK
  obtain ⟨mF, mnL, mnP, mnS, mnB, mL, mP, mS, mB, mWd, mnw⟩ := hT
  have hF1 := hok.1
  have hF8 := hok.2.1
  have h256 := p2_le8 hF8
  have h16 := p2_le16 hF8
  have nL10 := hok.2.2.2.2.2.2.2.1
  have nP5 := hok.2.2.2.2.2.2.2.2.1
  have nS5 := hok.2.2.2.2.2.2.2.2.2.1
  have nB6 := hok.2.2.2.2.2.2.2.2.2.2
  have hmk := hWok.2.2.2.1
  have hn12 := hmk.1
  have htr := hWok.1
  have hnw := nw_le hF8
  have hnw0 := nw_pos hWok
  obtain ⟨wT0, wK0, wM0, wH0, wC0⟩ := id hW
  have hP8 := hPok.1
  have hK2 := hKok.1
  refine Ct.of rfl (Nat.le_of_ble_eq_true rfl) fun X => ?_
  show V X _ sg I 0 [some (rf g 92)] []
  by_cases h0 : K.1 = 0
  · skip
    refine V_aload_n rfl dX6_back_0 ?_
    refine gfe_X6_109 (by assumption) (by assumption) rfl dX6_back_1 ?_
    refine V_if_neN 10 dX6_back_4 (by decide) (by omega) (fun h4 => absurd h4 (by omega)) (fun h4 => ?_)
    refine V_bipush (-2) (by decide) dX6_back_7 ?_
    refine V_iret rfl rfl rfl ?_ dX6_back_9
    unfold mstQ
    rw [show gBack x W P K = (x, W, P, K, -2) from by unfold gBack; rw [if_pos h0]]
    exact ⟨rfl, rfl, hM0, fun q _ => rfl⟩
  · have hP := hKok.2 (K.1 - 1) (by omega)
    have hPs : SlW I K.1 (K.2 (K.1 - 1)) (tP tv).1 := by
      have := mKs (K.1 - 1) (by omega)
      rw [show 1 + (K.1 - 1) = K.1 by omega] at this; exact this
    refine V_aload_n rfl dX6_back_0 ?_
    refine gfe_X6_109 (by assumption) (by assumption) rfl dX6_back_1 ?_
    refine V_if_neN 10 dX6_back_4 (by decide) (by omega) (fun h4 => ?_) (fun h4 => absurd h4 (by omega))
    refine V_aload_n rfl dX6_back_10 ?_
    refine V_aload_n rfl dX6_back_11 ?_
    refine gfe_X6_109 (by assumption) (by assumption) rfl dX6_back_12 ?_
    refine V_iconst (nI 0) (by decide) dX6_back_15 ?_
    refine cl_X6_139 (D_copies (a := K.1) (b := 0) hK0 (by omega) (by decide) (by omega)) (by assumption) rfl rfl ft0 (Nat.le_of_ble_eq_true rfl) dX6_back_16 (fun rr s9 J1 hq => ?_)
    obtain ⟨rfl, hs, q1, q2, q3⟩ := hq
    have hs := hs.symm
    subst hs
    show V X _ sg J1 19 _ []
    have j11 : J1 92 11 = nI K.1 := by rw [q3 92 (by decide)]; exact mkept
    refine V_aload_n rfl dX6_back_19 ?_
    refine V_dup rfl dX6_back_20 ?_
    refine gfe_X6_109 (by assumption) (by assumption) rfl dX6_back_21 ?_
    refine V_iconst (nI 1) (by decide) dX6_back_24 ?_
    refine V_isubN (by omega) dX6_back_25 ?_
    refine pf_X6_109 (by assumption) rfl dX6_back_26 ?_
    refine V_aload_n rfl dX6_back_29 ?_
    refine V_iconst (nI 0) (by decide) dX6_back_30 ?_
    refine pf_X6_106 (by assumption) rfl dX6_back_31 ?_
    obtain ⟨J2, hJ2⟩ : ∃ J2, J2 = upI (upI J1 92 11 (nI (K.1 - 1))) 92 12 (nI 0) := ⟨_, rfl⟩
    rw [← hJ2]
    have f2 : ∀ q, q ≠ 92 → J2 q = J1 q := fun q a => by rw [hJ2]; exact funext fun k => by rw [upI_ne (Or.inl a), upI_ne (Or.inl a)]
    have k2 : ∀ k, k ≠ 11 → k ≠ 12 → J2 92 k = J1 92 k := fun k a b => by rw [hJ2, upI_ne (Or.inr b), upI_ne (Or.inr a)]
    have a11 : J2 92 11 = nI (K.1 - 1) := by rw [hJ2, upI_ne (Or.inr (by decide))]; exact upI_eq
    have a12 : J2 92 12 = nI 0 := by rw [hJ2]; exact upI_eq
    refine V_aload_n rfl dX6_back_34 ?_
    refine gfe_X6_109 (by assumption) (by assumption) rfl dX6_back_35 ?_
    refine V_iret rfl rfl rfl ?_ dX6_back_38
    unfold mstQ
    rw [show gBack x W P K = (x, K.2 (K.1 - 1), (0, P.2), (K.1 - 1, K.2), nI (K.1 - 1)) from by unfold gBack; rw [if_neg h0]]
    have hsl : ∀ s, 1 ≤ s → s < 12 → ∀ k, k < 56 → J2 100 (56 * s + k) = I 100 (56 * s + k) := fun s h1 h2 k hk => by rw [f2 100 (by decide), q2 _ (by omega)]
    exact ⟨rfl, rfl, hM0.slots (fun q a b => by rw [f2 q b, q3 q a]) (by rw [k2 0 (by decide) (by decide), q3 92 (by decide)]) (by rw [k2 9 (by decide) (by decide), q3 92 (by decide)]) (hPs.copied hP.1.2.2.2.1.1 nP5 (fun k hk => by rw [f2 100 (by decide)]; exact q1 k hk)) a11 (fun i (hi : i < K.1 - 1) => (mKs i (by omega)).same (hKok.2 i (by omega)).1.2.2.2.1.1 nP5 (hsl _ (by omega) (by omega))) a12 (fun i (hi : i < 0) => absurd hi (Nat.not_lt_zero i)), fun q hq => by rw [f2 q (by omega), q3 q (by omega)]⟩
end MSTATE
