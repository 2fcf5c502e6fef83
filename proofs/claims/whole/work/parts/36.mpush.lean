/-! CarvedWeeksModel: a week laid by -/
theorem MSt.slots {sg : SG} {I J : IM} {x : XV} {tv : TV} {W W' : WV} {P K P' K' : SV} (h : MSt sg I x tv W P K) (e1 : ∀ q, q ≠ 100 → q ≠ 92 → J q = I q) (e2 : J 92 0 = I 92 0) (e3 : J 92 9 = I 92 9) (s0 : SlW J 0 W' (tP tv).1) (k1 : J 92 11 = nI K'.1) (k2 : ∀ i, i < K'.1 → SlW J (1 + i) (K'.2 i) (tP tv).1) (p1 : J 92 12 = nI P'.1) (p2 : ∀ i, i < P'.1 → SlW J (3 + i) (P'.2 i) (tP tv).1) : MSt sg J x tv W' P' K' := by
  obtain ⟨a, ⟨b1, b2⟩, c, -, -, -, -, -⟩ := h
  refine ⟨a, ⟨e2.trans b1, fun i hi => by rw [e1 93 (by decide) (by decide)]; exact b2 i hi⟩, ?_, s0, k1, k2, p1, p2⟩
  unfold MTn at c ⊢
  rw [e1 94 (by decide) (by decide), e1 95 (by decide) (by decide), e1 96 (by decide) (by decide), e1 97 (by decide) (by decide), e1 98 (by decide) (by decide), e1 99 (by decide) (by decide), e3]
  exact c
def mstQ (sg : SG) (I : IM) (tv : TV) (r0 : RS) : Option Value → SG → IM → Prop := fun a0 s0 J => a0 = some (.int r0.2.2.2.2) ∧ s0 = sg ∧ MSt sg J r0.1 tv r0.2.1 r0.2.2.1 r0.2.2.2.1 ∧ ∀ q, q < 92 → J q = I q
section MPUSH
variable {g : GC} {sg : SG} {I : IM} {x : XV} {tv : TV} {W : WV} {P K : SV} {np : Nat}
theorem D_push (hM : MSt sg I x tv W P K) (hS : STok x tv W P K) : Ct m_X6_known g [rf g 92] sg I (fun r0 s0 J => r0 = none ∧ s0 = sg ∧ MSt sg J x tv W (pushS 8 P W) K ∧ (∀ q, q < 92 → J q = I q) ∧ J 99 = I 99) := by
  have hM0 := hM
  obtain ⟨hX0, hok, hnp, hns, ⟨hWok, hwk⟩, hPok, hKok⟩ := hS
  obtain ⟨hK, ⟨mlen, mtx⟩, hT, hW, mkept, mKs, mdone, mPs⟩ := hM
  have hK0 := hK
  have hT0 := hT
  have hW0 := hW
  obtain ⟨m0, mR1, mR3, mR4, mR5, mR6, mR7, mR8, mR10, mR16, mR17, mA93, mA94, mA95, mA96, mA97, mA98, mA99, mA100, mA101, mA102⟩ := hK
  obtain ⟨mF, mnL, mnP, mnS, mnB, mL, mP, mS, mB, mWd, mnw⟩ := hT
  have hF1 := hok.1
  have hF8 := hok.2.1
  have h256 := p2_le8 hF8
  have h16 := p2_le16 hF8
  have nL10 := hok.2.2.2.2.2.2.2.1
  have nP5 := hok.2.2.2.2.2.2.2.2.1
  have nS5 := hok.2.2.2.2.2.2.2.2.2.1
  have nB6 := hok.2.2.2.2.2.2.2.2.2.2
  have hmk := hWok.2.2.2.1
  have hn12 := hmk.1
  have htr := hWok.1
  have hnw := nw_le hF8
  have hnw0 := nw_pos hWok
  obtain ⟨wT0, wK0, wM0, wH0, wC0⟩ := id hW
  refine Ct.of rfl (Nat.le_of_ble_eq_true rfl) fun X => ?_
  show V X _ sg I 0 [some (rf g 92), none] []
  obtain ⟨QQ, hQQ⟩ : ∃ QQ : Option Value → SG → IM → Prop, QQ = (fun r0 s0 J => r0 = none ∧ s0 = sg ∧ MSt sg J x tv W (pushS 8 P W) K ∧ (∀ q, q < 92 → J q = I q) ∧ J 99 = I 99) := ⟨_, rfl⟩
  rw [← hQQ]
  have hlast : ∀ (n : Nat) (J : IM) (z : Option Value), n < 8 → (pushS 8 P W).1 = n + 1 → (pushS 8 P W).2 n = W → J 92 12 = nI n → J 92 0 = I 92 0 → J 92 9 = I 92 9 → J 92 11 = I 92 11 → (∀ q, q ≠ 100 → q ≠ 92 → J q = I q) → (∀ j, j < 168 → J 100 j = I 100 j) → (∀ i, i < n → SlW J (3 + i) ((pushS 8 P W).2 i) (tP tv).1 ∧ (wM ((pushS 8 P W).2 i)).1 ≤ 12) → V X (ZQ X QQ) sg J 41 [some (rf g 92), z] [] := by
    intro n J z hn hpn hpw j12 j0 j9 j11 hf h168 hsl
    have hJ0 : SlW J 0 W (tP tv).1 := hW0.same hn12 nP5 (fun k hk => h168 _ (by omega))
    refine V_aload_n rfl dX6_known_41 ?_
    refine V_iconst (nI 0) (by decide) dX6_known_42 ?_
    refine V_iconst (nI 3) (by decide) dX6_known_43 ?_
    refine V_aload_n rfl dX6_known_44 ?_
    refine gfe_X6_106 (by assumption) (by assumption) rfl dX6_known_45 ?_
    refine V_iaddN dX6_known_48 ?_
    refine cl_X6_139 (D_copies (a := 0) (b := 3 + n) hK0 (by decide) (by omega) (by omega)) (by assumption) rfl rfl ft0 (Nat.le_of_ble_eq_true rfl) dX6_known_49 (fun rr s9 J1 hq => ?_)
    obtain ⟨rfl, hs, q1, q2, q3⟩ := hq
    have hs := hs.symm
    subst hs
    show V X _ sg J1 52 _ []
    have j12b : J1 92 12 = nI n := by rw [q3 92 (by decide)]; exact j12
    refine V_aload_n rfl dX6_known_52 ?_
    refine V_dup rfl dX6_known_53 ?_
    refine gfe_X6_106 (by assumption) (by assumption) rfl dX6_known_54 ?_
    refine V_iconst (nI 1) (by decide) dX6_known_57 ?_
    refine V_iaddN dX6_known_58 ?_
    refine pf_X6_106 (by assumption) rfl dX6_known_59 ?_
    refine V_vret rfl rfl rfl ?_ dX6_known_62
    rw [hQQ]
    have hfr : ∀ q, q ≠ 92 → (upI J1 92 12 (nI (n + 1))) q = J1 q := fun q hq => funext fun k => upI_ne (Or.inl hq)
    have hsame : ∀ s W, SlW J s W (tP tv).1 → (wM W).1 ≤ 12 → s < 12 → s ≠ 3 + n → SlW (upI J1 92 12 (nI (n + 1))) s W (tP tv).1 := fun s W h h12 hs hne => h.same h12 nP5 (fun k hk => by rw [hfr 100 (by decide)]; exact q2 _ (by omega))
    refine ⟨rfl, rfl, hM0.slots (fun q a b => by rw [hfr q b, q3 q a, hf q a b]) (by rw [upI_ne (Or.inr (by decide)), q3 92 (by decide)]; exact j0) (by rw [upI_ne (Or.inr (by decide)), q3 92 (by decide)]; exact j9) (hsame 0 W hJ0 hn12 (by decide) (by omega)) (by rw [upI_ne (Or.inr (by decide)), q3 92 (by decide), j11]; exact mkept) (fun i hi => ?_) (by rw [hpn]; exact upI_eq) (fun i hi => ?_), fun q hq => by rw [hfr q (by omega), q3 q (by omega), hf q (by omega) (by omega)], by rw [hfr 99 (by decide), q3 99 (by decide), hf 99 (by decide) (by decide)]⟩
    · have h12 := (hKok.2 i hi).1.2.2.2.1.1
      have hk2 := hKok.1
      exact hsame (1 + i) _ ((mKs i hi).same h12 nP5 (fun k hk => h168 _ (by omega))) h12 (by omega) (by omega)
    · rw [hpn] at hi
      by_cases c : i = n
      · rw [c, hpw]
        exact hJ0.copied hn12 nP5 (fun k hk => by rw [hfr 100 (by decide)]; exact q1 k hk)
      · exact hsame (3 + i) _ (hsl i (by omega)).1 (hsl i (by omega)).2 (by omega) (by omega)
  by_cases h8 : P.1 < 8
  · have e1 : (pushS 8 P W).1 = P.1 + 1 := pushS_1 h8
    have e2 : ∀ i, (pushS 8 P W).2 i = if i = P.1 then W else P.2 i := fun i => by unfold pushS; rw [if_pos h8]
    refine V_aload_n rfl dX6_known_0 ?_
    refine gfe_X6_106 (by assumption) (by assumption) rfl dX6_known_1 ?_
    refine V_bipush (nI 8) (by decide) dX6_known_4 ?_
    refine V_icmp_neN 41 dX6_known_6 (by decide) (by omega) (by omega) (fun h6 => ?_) (fun h6 => absurd h6 (by omega))
    exact hlast P.1 I _ h8 e1 (by rw [e2, if_pos rfl]) mdone rfl rfl rfl (fun _ _ _ => rfl) (fun _ _ => rfl) (fun i hi => by rw [e2, if_neg (by omega)]; exact ⟨mPs i hi, (hPok.2 i hi).1.2.2.2.1.1⟩)
  · have hP8 : P.1 = 8 := by omega
    have e1 : (pushS 8 P W).1 = 7 + 1 := by unfold pushS; rw [if_neg h8]; exact hP8
    have e2 : ∀ i, (pushS 8 P W).2 i = if i + 1 = P.1 then W else P.2 (i + 1) := fun i => by unfold pushS; rw [if_neg h8]
    have loop : ∀ (d k : Nat) (J : IM), 10 - k = d → 3 ≤ k → k ≤ 10 → (∀ q, q ≠ 100 → J q = I q) → (∀ j, j < 168 → J 100 j = I 100 j) → (∀ i, 3 + i < k → SlW J (3 + i) (P.2 (i + 1)) (tP tv).1) → (∀ i, k ≤ 3 + i → i < 8 → SlW J (3 + i) (P.2 i) (tP tv).1) → V X (ZQ X QQ) sg J 11 [some (rf g 92), some (.int (nI k))] [] := by
      intro d
      induction d with
      | zero =>
        intro k J hd hk3 hk hf h168 hlo hhi
        have e : k = 10 := by omega
        subst e
        have j12 : J 92 12 = nI 8 := by rw [hf 92 (by decide), mdone, hP8]
        refine V_iload_n rfl dX6_known_11 ?_
        refine V_bipush (nI 10) (by decide) dX6_known_12 ?_
        refine V_icmp_geN 31 dX6_known_14 (by decide) (by omega) (by omega) (fun h14 => ?_) (fun h14 => absurd h14 (by decide))
        refine V_aload_n rfl dX6_known_31 ?_
        refine V_dup rfl dX6_known_32 ?_
        refine gfe_X6_106 (by assumption) (by assumption) rfl dX6_known_33 ?_
        refine V_iconst (nI 1) (by decide) dX6_known_36 ?_
        refine V_isubN (by omega) dX6_known_37 ?_
        refine pf_X6_106 (by assumption) rfl dX6_known_38 ?_
        refine hlast 7 _ _ (by decide) e1 (by rw [e2, if_pos (by omega)]) upI_eq (by rw [upI_ne (Or.inr (by decide)), hf 92 (by decide)]) (by rw [upI_ne (Or.inr (by decide)), hf 92 (by decide)]) (by rw [upI_ne (Or.inr (by decide)), hf 92 (by decide)]) (fun q a b => ?_) (fun j hj => ?_) (fun i hi => ?_)
        · rw [← hf q a]; exact funext fun k => upI_ne (Or.inl b)
        · rw [upI_ne (Or.inl (by decide))]; exact h168 j hj
        · rw [e2, if_neg (by omega)]
          exact ⟨(hlo i (by omega)).same (hPok.2 (i + 1) (by omega)).1.2.2.2.1.1 nP5 (fun k hk => upI_ne (Or.inl (by decide))), (hPok.2 (i + 1) (by omega)).1.2.2.2.1.1⟩
      | succ d ih =>
        intro k J hd hk3 hk hf h168 hlo hhi
        refine V_iload_n rfl dX6_known_11 ?_
        refine V_bipush (nI 10) (by decide) dX6_known_12 ?_
        refine V_icmp_geN 31 dX6_known_14 (by decide) (by omega) (by omega) (fun h14 => absurd h14 (by omega)) (fun h14 => ?_)
        refine V_aload_n rfl dX6_known_17 ?_
        refine V_iload_n rfl dX6_known_18 ?_
        refine V_iconst (nI 1) (by decide) dX6_known_19 ?_
        refine V_iaddN dX6_known_20 ?_
        refine V_iload_n rfl dX6_known_21 ?_
        refine cl_X6_139 (D_copies (a := k + 1) (b := k) hK0 (by omega) (by omega) (by omega)) (by assumption) rfl rfl ft0 (Nat.le_of_ble_eq_true rfl) dX6_known_22 (fun rr s9 J1 hq => ?_)
        obtain ⟨rfl, hs, q1, q2, q3⟩ := hq
        have hs := hs.symm
        subst hs
        show V X _ sg J1 25 _ []
        refine V_iinc1_ _ (nI_inc _) rfl rfl dX6_known_25 ?_
        refine V_goto 11 dX6_known_28 (by decide) ?_
        refine ih (k + 1) J1 (by omega) (by omega) (by omega) (fun q a => (q3 q a).trans (hf q a)) (fun j hj => (q2 j (by omega)).trans (h168 j hj)) (fun i hi => ?_) (fun i hi h => ?_)
        · have h12 := (hPok.2 (i + 1) (by omega)).1.2.2.2.1.1
          by_cases c : 3 + i = k
          · rw [c]
            have h9 := hhi (i + 1) (by omega) (by omega)
            rw [show 3 + (i + 1) = k + 1 by omega] at h9
            exact h9.copied h12 nP5 q1
          · exact (hlo i (by omega)).same h12 nP5 (fun l hl => q2 _ (by omega))
        · have h12 := (hPok.2 i (by omega)).1.2.2.2.1.1
          exact (hhi i (by omega) h).same h12 nP5 (fun l hl => q2 _ (by omega))
    refine V_aload_n rfl dX6_known_0 ?_
    refine gfe_X6_106 (by assumption) (by assumption) rfl dX6_known_1 ?_
    refine V_bipush (nI 8) (by decide) dX6_known_4 ?_
    refine V_icmp_neN 41 dX6_known_6 (by decide) (by omega) (by omega) (fun h6 => absurd h6 (by omega)) (fun h6 => ?_)
    refine V_iconst (nI 3) (by decide) dX6_known_9 ?_
    refine V_ist1 rfl rfl dX6_known_10 ?_
    exact loop 7 3 I rfl (by decide) (by decide) (fun _ _ => rfl) (fun _ _ => rfl) (fun i hi => absurd hi (by omega)) (fun i _ hi => mPs i (by omega))
end MPUSH
