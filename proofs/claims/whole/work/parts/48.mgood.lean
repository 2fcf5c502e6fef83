/-! CarvedWeeksModel: what an item tells -/
def dT (I : IM) (q fr wd : Nat) (tb : TB) : Prop := ∀ k, k < tb.1 → ∀ c, c < wd → I q (fr + wd * k + c) = nI (tb.2 k c)
def MDr (I : IM) (s : PS) : Prop := I 94 7 = nI (tF s.1) ∧ I 94 8 = nI (tL s.1).1 ∧ I 94 9 = nI (tP s.1).1 ∧ I 94 10 = nI (tS s.1).1 ∧ I 94 11 = nI (tB s.1).1 ∧ I 94 12 = nI (tX s.1) ∧ I 94 13 = bI (s.2 = true) ∧ dT I 95 20 2 (tL s.1) ∧ dT I 96 10 2 (tP s.1) ∧ dT I 97 15 3 (tS s.1) ∧ dT I 98 18 3 (tB s.1)
theorem dT.same {I J : IM} {q fr wd : Nat} {tb : TB} (h : dT I q fr wd tb) (e : J q = I q) : dT J q fr wd tb := by unfold dT; rw [e]; exact h
theorem dT.add {I J : IM} {q fr wd a b c : Nat} {tb : TB} (h : dT I q fr wd tb) (hwd : wd = 2 ∨ wd = 3) (e1 : ∀ k, k < wd → J q (fr + wd * tb.1 + k) = I 101 k) (e2 : ∀ k, k < fr + wd * tb.1 → J q k = I q k) (g0 : I 101 0 = nI a) (g1 : I 101 1 = nI b) (g2 : wd = 3 → I 101 2 = nI c) : dT J q fr wd (addTB tb a b c) := by
  intro k hk d hd
  have hk2 : k < tb.1 + 1 := hk
  rw [add_at]
  by_cases e : k = tb.1
  · rw [if_pos e, e, e1 d hd]
    rcases (show d = 0 ∨ d = 1 ∨ d = 2 by omega) with rfl | rfl | rfl
    · exact g0
    · exact g1
    · exact g2 (by omega)
  · rw [if_neg e, e2 _ (by rcases hwd with rfl | rfl <;> omega)]
    exact h k (by omega) d hd
def ptQ (sg : SG) (I : IM) (q fr wd ct mx n : Nat) : Option Value → SG → IM → Prop := fun r0 s0 J => s0 = sg ∧ ((n < mx ∧ r0 = some (.int (nI 1)) ∧ J 94 ct = nI (n + 1) ∧ (∀ k, k ≠ ct → J 94 k = I 94 k) ∧ (∀ k, k < wd → J q (fr + wd * n + k) = I 101 k) ∧ (∀ k, (k < fr + wd * n ∨ fr + wd * n + wd ≤ k) → J q k = I q k) ∧ ∀ o, o ≠ q → o ≠ 94 → J o = I o) ∨ (n = mx ∧ r0 = some (.int (nI 0)) ∧ J = I))
section MGOOD
variable {g : GC} {sg : SG} {I : IM} {x : XV} {tv : TV} {W : WV} {P K : SV} {np : Nat}
theorem D_isPut {q len fr wd ct mx n : Nat} (hK : MK sg) (hq : sg.2.2.1 q = (7, len)) (hne : q ≠ 94 ∧ q ≠ 92 ∧ q ≠ 101) (hct : ct < 14) (hn : I 94 ct = nI n) (hnm : n ≤ mx) (hmx : mx ≤ 20) (hb : n < mx → fr + wd * n + wd ≤ len) (hlen : len < 100) (hwd : wd = 2 ∨ wd = 3) : Ct m_X6_isPut g [rf g 92, rf g q, .int (nI fr), .int (nI wd), .int (nI ct), .int (nI mx)] sg I (ptQ sg I q fr wd ct mx n) := by
  obtain ⟨m0, mR1, mR3, mR4, mR5, mR6, mR7, mR8, mR10, mR16, mR17, mA93, mA94, mA95, mA96, mA97, mA98, mA99, mA100, mA101, mA102⟩ := hK
  obtain ⟨hne1, hne2, hne3⟩ := hne
  have hwd3 : wd ≤ 3 := by omega
  refine Ct.of rfl (Nat.le_of_ble_eq_true rfl) fun X => ?_
  show V X _ sg I 0 [some (rf g 92), some (rf g q), some (.int (nI fr)), some (.int (nI wd)), some (.int (nI ct)), some (.int (nI mx)), none] []
  by_cases hlt : n < mx
  · have hbb := hb hlt
    have loop : ∀ (d k : Nat) (J : IM), wd - k = d → k ≤ wd → (∀ i, i < k → J q (fr + wd * n + i) = I 101 i) → (∀ i, (i < fr + wd * n ∨ fr + wd * n + k ≤ i) → J q i = I q i) → (∀ o, o ≠ q → J o = I o) → V X (ZQ X (ptQ sg I q fr wd ct mx n)) sg J 17 [some (rf g 92), some (rf g q), some (.int (nI fr)), some (.int (nI wd)), some (.int (nI ct)), some (.int (nI mx)), some (.int (nI k))] [] := by
      intro d
      induction d with
      | zero =>
        intro k J hd hk h1 h2 h3
        have e : k = wd := by omega
        subst e
        have hnJ : J 94 ct = nI n := by rw [h3 94 (fun z => hne1 z.symm)]; exact hn
        refine V_iload rfl dX6_isPut_17 ?_
        refine V_iload_n rfl dX6_isPut_19 ?_
        refine V_icmp_geN 52 dX6_isPut_20 (by decide) (by omega) (by omega) (fun h20 => ?_) (fun h20 => absurd h20 (by omega))
        refine V_aload_n rfl dX6_isPut_52 ?_
        refine gf_X6_13 (by assumption) (by assumption) rfl dX6_isPut_53 ?_
        refine V_iload rfl dX6_isPut_56 ?_
        refine V_dup2 rfl rfl dX6_isPut_58 ?_
        refine V_iald _ (by assumption) rfl (by omega) (by omega) dX6_isPut_59 ?_
        refine V_topi (hnJ) ?_
        refine V_iconst (nI 1) (by decide) dX6_isPut_60 ?_
        refine V_iaddN dX6_isPut_61 ?_
        refine V_iast _ (by assumption) rfl (by omega) (by omega) dX6_isPut_62 ?_
        refine V_iconst (nI 1) (by decide) dX6_isPut_63 ?_
        refine V_zret rfl (rfl) rfl rfl ?_ dX6_isPut_64
        refine ⟨rfl, Or.inl ⟨hlt, rfl, upI_eq, fun i hi => ?_, fun i hi => ?_, fun i hi => ?_, fun o ho1 ho2 => ?_⟩⟩
        · rw [upI_ne (Or.inr hi), h3 94 (fun z => hne1 z.symm)]
        · rw [upI_ne (Or.inl hne1)]; exact h1 i hi
        · rw [upI_ne (Or.inl hne1)]; exact h2 i hi
        · exact (funext fun i => upI_ne (Or.inl ho2)).trans (h3 o ho1)
      | succ d ih =>
        intro k J hd hk h1 h2 h3
        have hnJ : J 94 ct = nI n := by rw [h3 94 (fun z => hne1 z.symm)]; exact hn
        have hgJ : J 101 k = I 101 k := by rw [h3 101 (fun z => hne3 z.symm)]
        refine V_iload rfl dX6_isPut_17 ?_
        refine V_iload_n rfl dX6_isPut_19 ?_
        refine V_icmp_geN 52 dX6_isPut_20 (by decide) (by omega) (by omega) (fun h20 => absurd h20 (by omega)) (fun h20 => ?_)
        refine V_aload_n rfl dX6_isPut_23 ?_
        refine V_iload_n rfl dX6_isPut_24 ?_
        refine V_iload_n rfl dX6_isPut_25 ?_
        refine V_aload_n rfl dX6_isPut_26 ?_
        refine gf_X6_13 (by assumption) (by assumption) rfl dX6_isPut_27 ?_
        refine V_iload rfl dX6_isPut_30 ?_
        refine V_iald _ (by assumption) rfl (by omega) (by omega) dX6_isPut_32 ?_
        refine V_topi (hnJ) ?_
        refine V_imulN dX6_isPut_33 ?_
        refine V_iaddN dX6_isPut_34 ?_
        refine V_iload rfl dX6_isPut_35 ?_
        refine V_iaddN dX6_isPut_37 ?_
        refine V_aload_n rfl dX6_isPut_38 ?_
        refine gf_X6_36 (by assumption) (by assumption) rfl dX6_isPut_39 ?_
        refine V_iload rfl dX6_isPut_42 ?_
        refine V_iald _ (by assumption) rfl (by omega) (by omega) dX6_isPut_44 ?_
        refine V_topi (hgJ) ?_
        refine V_iast _ (by assumption) rfl (by omega) (by omega) dX6_isPut_45 ?_
        refine V_iinc6_ _ (nI_inc _) rfl rfl dX6_isPut_46 ?_
        refine V_goto 17 dX6_isPut_49 (by decide) ?_
        refine ih (k + 1) _ (by omega) (by omega) (fun i hi => ?_) (fun i hi => ?_) (fun o ho => (funext fun i => upI_ne (Or.inl ho)).trans (h3 o ho))
        · by_cases c : i = k
          · rw [c]; exact upI_eq
          · rw [upI_ne (Or.inr (by omega))]; exact h1 i (by omega)
        · rw [upI_ne (Or.inr (by omega))]; exact h2 i (by omega)
    refine V_aload_n rfl dX6_isPut_0 ?_
    refine gf_X6_13 (by assumption) (by assumption) rfl dX6_isPut_1 ?_
    refine V_iload rfl dX6_isPut_4 ?_
    refine V_iald _ (by assumption) rfl (by omega) (by omega) dX6_isPut_6 ?_
    refine V_topi (hn) ?_
    refine V_iload rfl dX6_isPut_7 ?_
    refine V_icmp_neN 14 dX6_isPut_9 (by decide) (by omega) (by omega) (fun h9 => ?_) (fun h9 => absurd h9 (by omega))
    refine V_iconst (nI 0) (by decide) dX6_isPut_14 ?_
    refine V_ist6 rfl rfl dX6_isPut_15 ?_
    exact loop wd 0 I rfl (Nat.zero_le _) (fun i hi => absurd hi (Nat.not_lt_zero i)) (fun _ _ => rfl) (fun _ _ => rfl)
  · skip
    refine V_aload_n rfl dX6_isPut_0 ?_
    refine gf_X6_13 (by assumption) (by assumption) rfl dX6_isPut_1 ?_
    refine V_iload rfl dX6_isPut_4 ?_
    refine V_iald _ (by assumption) rfl (by omega) (by omega) dX6_isPut_6 ?_
    refine V_topi (hn) ?_
    refine V_iload rfl dX6_isPut_7 ?_
    refine V_icmp_neN 14 dX6_isPut_9 (by decide) (by omega) (by omega) (fun h9 => absurd h9 (by omega)) (fun h9 => ?_)
    refine V_iconst (nI 0) (by decide) dX6_isPut_12 ?_
    refine V_zret rfl (rfl) rfl rfl ?_ dX6_isPut_13
    exact ⟨rfl, Or.inr ⟨by omega, rfl, rfl⟩⟩
theorem pt_f {q fr wd ct mx n : Nat} {r0 : Option Value} {s0 : SG} {J : IM} (h : ptQ sg I q fr wd ct mx n r0 s0 J) (hq : (q = 95 ∧ fr = 20) ∨ (q = 96 ∧ fr = 10) ∨ (q = 97 ∧ fr = 15) ∨ (q = 98 ∧ fr = 18)) (hct : 7 ≤ ct) : fF I J ∧ J 92 = I 92 := by
  rcases h.2 with ⟨-, -, h4, h5, h6, h7, h8⟩ | ⟨-, -, rfl⟩
  · refine ⟨⟨fun o ho => h8 o (by omega) (by omega), fun k _ => by rw [h8 92 (by omega) (by omega)], fun k hk => h5 k (by omega), fun k hk => ?_, fun k hk => ?_, fun k hk => ?_, fun k hk => ?_⟩, h8 92 (by omega) (by omega)⟩
    · by_cases e : q = 95
      · rw [← e]; exact h7 k (Or.inl (by omega))
      · rw [h8 95 (fun z => e z.symm) (by decide)]
    · by_cases e : q = 96
      · rw [← e]; exact h7 k (Or.inl (by omega))
      · rw [h8 96 (fun z => e z.symm) (by decide)]
    · by_cases e : q = 97
      · rw [← e]; exact h7 k (Or.inl (by omega))
      · rw [h8 97 (fun z => e z.symm) (by decide)]
    · by_cases e : q = 98
      · rw [← e]; exact h7 k (Or.inl (by omega))
      · rw [h8 98 (fun z => e z.symm) (by decide)]
  · exact ⟨fF.refl, rfl⟩
def gdQ (sg : SG) (I : IM) (y : Option PS) : Option Value → SG → IM → Prop := fun r0 s0 J => s0 = sg ∧ fF I J ∧ J 92 = I 92 ∧ match y with
  | some s => r0 = some (.int (nI 1)) ∧ MDr J s
  | none => r0 = some (.int (nI 0))
theorem gd_no {y : Option PS} {J : IM} (h1 : fF I J) (h2 : J 92 = I 92) (hy : y = none) : gdQ sg I y (some (.int (nI 0))) sg J := by subst hy; exact ⟨rfl, h1, h2, rfl⟩
theorem gd_yes {y : Option PS} {J : IM} {s : PS} (h1 : fF I J) (h2 : J 92 = I 92) (hy : y = some s) (h3 : MDr J s) : gdQ sg I y (some (.int (nI 1))) sg J := by subst hy; exact ⟨rfl, h1, h2, rfl, h3⟩
theorem D_isGood {s : PS} {l a b c : Nat} (hK : MK sg) (hl : l = 102 ∨ l = 100 ∨ l = 105 ∨ l = 112 ∨ l = 115 ∨ l = 98) (g0 : I 101 0 = nI a) (g1 : 2 ≤ wN l → I 101 1 = nI b) (g2 : 3 ≤ wN l → I 101 2 = nI c) (ha : a ≤ 99) (hb : b ≤ 99) (hc : c ≤ 99) (hD : MDr I s) (hok : TVok s.1) : Ct m_X6_isGood g [rf g 92, .int (nI l)] sg I (gdQ sg I (tlF s l a b c)) := by
  have hK0 := hK
  have hD0 := hD
  obtain ⟨m0, mR1, mR3, mR4, mR5, mR6, mR7, mR8, mR10, mR16, mR17, mA93, mA94, mA95, mA96, mA97, mA98, mA99, mA100, mA101, mA102⟩ := hK
  obtain ⟨d7, d8, d9, d10, d11, d12, d13, dL, dP, dS, dB⟩ := hD
  obtain ⟨o1, o2, o3, -, -, -, -, o8, o9, o10, o11⟩ := id hok
  have h256 := p2_le8 o2
  refine Ct.of rfl (Nat.le_of_ble_eq_true rfl) fun X => ?_
  show V X _ sg I 0 [some (rf g 92), some (.int (nI l)), none, none, none] []
  -- all but f: a thing has been told
  have e13 : (upI I 94 13 (nI 1)) 94 13 = nI 1 := upI_eq
  have eo : ∀ k, k ≠ 13 → (upI I 94 13 (nI 1)) 94 k = I 94 k := fun k hk => upI_ne (Or.inr hk)
  have eq : ∀ q, q ≠ 94 → (upI I 94 13 (nI 1)) q = I q := fun q hq => funext fun k => upI_ne (Or.inl hq)
  obtain ⟨J1, hJ1⟩ : ∃ J1, J1 = upI I 94 13 (nI 1) := ⟨_, rfl⟩
  have f1 : fF I J1 := by rw [hJ1]; exact fF.up (Or.inr (Or.inl ⟨rfl, by decide⟩))
  have j92 : J1 92 = I 92 := by rw [hJ1]; exact eq 92 (by decide)
  rw [← hJ1] at e13 eo eq
  have j7 : J1 94 7 = nI (tF s.1) := (eo 7 (by decide)).trans d7
  have j8 : J1 94 8 = nI (tL s.1).1 := (eo 8 (by decide)).trans d8
  have j9 : J1 94 9 = nI (tP s.1).1 := (eo 9 (by decide)).trans d9
  have j10 : J1 94 10 = nI (tS s.1).1 := (eo 10 (by decide)).trans d10
  have j11 : J1 94 11 = nI (tB s.1).1 := (eo 11 (by decide)).trans d11
  have j12 : J1 94 12 = nI (tX s.1) := (eo 12 (by decide)).trans d12
  have jL : dT J1 95 20 2 (tL s.1) := dL.same (eq 95 (by decide))
  have jP : dT J1 96 10 2 (tP s.1) := dP.same (eq 96 (by decide))
  have jS : dT J1 97 15 3 (tS s.1) := dS.same (eq 97 (by decide))
  have jB : dT J1 98 18 3 (tB s.1) := dB.same (eq 98 (by decide))
  have jg : ∀ k, J1 101 k = I 101 k := fun k => by rw [eq 101 (by decide)]
  rcases hl with rfl | rfl | rfl | rfl | rfl | rfl
  · -- f
    have hy : tlF s 102 a b c = if s.2 = false ∧ 1 ≤ a ∧ a ≤ 8 then some ((a, s.1.2), s.2) else none := if_pos rfl
    rw [hy]
    have f2 : fF I (upI I 94 7 (nI a)) := fF.up (Or.inr (Or.inl ⟨rfl, by decide⟩))
    have q92 : (upI I 94 7 (nI a)) 92 = I 92 := funext fun k => upI_ne (Or.inl (by decide))
    have q13 : (upI I 94 7 (nI a)) 94 13 = bI (s.2 = true) := (upI_ne (Or.inr (by decide))).trans d13
    have hin : (nI 1 ≤ nI a ∧ nI a ≤ nI 8) ↔ (1 ≤ a ∧ a ≤ 8) := by rw [nI_leI (by decide) (by omega), nI_leI (by omega) (by decide)]
    have hqo : ∀ k, k ≠ 7 → (upI I 94 7 (nI a)) 94 k = I 94 k := fun k hk => upI_ne (Or.inr hk)
    have hqq : ∀ q, q ≠ 94 → (upI I 94 7 (nI a)) q = I q := fun q hq => funext fun k => upI_ne (Or.inl hq)
    refine V_aload_n rfl dX6_isGood_0 ?_
    refine gf_X6_36 (by assumption) (by assumption) rfl dX6_isGood_1 ?_
    refine V_iconst (nI 0) (by decide) dX6_isGood_4 ?_
    refine V_iald _ (by assumption) rfl (by omega) (by omega) dX6_isGood_5 ?_
    refine V_topi (g0) ?_
    refine V_ist2 rfl rfl dX6_isGood_6 ?_
    refine V_aload_n rfl dX6_isGood_7 ?_
    refine gf_X6_36 (by assumption) (by assumption) rfl dX6_isGood_8 ?_
    refine V_iconst (nI 1) (by decide) dX6_isGood_11 ?_
    refine V_iald _ (by assumption) rfl (by omega) (by omega) dX6_isGood_12 ?_
    refine V_ist3 rfl rfl dX6_isGood_13 ?_
    refine V_aload_n rfl dX6_isGood_14 ?_
    refine gf_X6_36 (by assumption) (by assumption) rfl dX6_isGood_15 ?_
    refine V_iconst (nI 2) (by decide) dX6_isGood_18 ?_
    refine V_iald _ (by assumption) rfl (by omega) (by omega) dX6_isGood_19 ?_
    refine V_ist4 rfl rfl dX6_isGood_20 ?_
    refine V_iload_n rfl dX6_isGood_22 ?_
    refine V_bipush (nI 102) (by decide) dX6_isGood_23 ?_
    refine V_icmp_neN 64 dX6_isGood_25 (by decide) (by omega) (by omega) (fun h25 => absurd h25 (by decide)) (fun h25 => ?_)
    refine V_aload_n rfl dX6_isGood_28 ?_
    refine gf_X6_13 (by assumption) (by assumption) rfl dX6_isGood_29 ?_
    refine V_bipush (nI 7) (by decide) dX6_isGood_32 ?_
    refine V_iload_n rfl dX6_isGood_34 ?_
    refine V_iast _ (by assumption) rfl (by omega) (by omega) dX6_isGood_35 ?_
    refine V_iload_n rfl dX6_isGood_36 ?_
    refine V_i2l dX6_isGood_37 ?_
    refine V_lconst (lN 1) rfl dX6_isGood_38 ?_
    refine V_ldc2 RX6 _ rfl wk_X6_81 dX6_isGood_39 ?_
    rw [show (8 : Int64) = lN 8 from by decide]
    refine cf_X6_52 (C_inNN (by decide) (by decide)) rfl rfl ft0 (Nat.le_of_ble_eq_true rfl) dX6_isGood_42 ?_
    refine V_if_eqB 62 dX6_isGood_45 (by decide) (fun h45 => ?_) (fun h45 => ?_)
    · skip
      refine V_iconst (nI 0) (by decide) dX6_isGood_62 ?_
      refine V_zret rfl (rfl) rfl rfl ?_ dX6_isGood_63
      first
      | (exact gd_no f2 q92 (if_neg (fun z => h45 (hin.mpr z.2))))
      | (exact gd_no f2 q92 (if_neg (fun z => by rw [z.1] at h55; cases h55)))
      | (exact gd_yes f2 q92 (if_pos ⟨by simpa using h55, hin.mp h45⟩) ⟨upI_eq, (hqo 8 (by decide)).trans d8, (hqo 9 (by decide)).trans d9, (hqo 10 (by decide)).trans d10, (hqo 11 (by decide)).trans d11, (hqo 12 (by decide)).trans d12, q13, dL.same (hqq 95 (by decide)), dP.same (hqq 96 (by decide)), dS.same (hqq 97 (by decide)), dB.same (hqq 98 (by decide))⟩)
    · skip
      refine V_aload_n rfl dX6_isGood_48 ?_
      refine gf_X6_13 (by assumption) (by assumption) rfl dX6_isGood_49 ?_
      refine V_bipush (nI 13) (by decide) dX6_isGood_52 ?_
      refine V_iald _ (by assumption) rfl (by omega) (by omega) dX6_isGood_54 ?_
      refine V_topi (q13) ?_
      refine V_if_neB 62 dX6_isGood_55 (by decide) (fun h55 => ?_) (fun h55 => ?_)
      · skip
        refine V_iconst (nI 0) (by decide) dX6_isGood_62 ?_
        refine V_zret rfl (rfl) rfl rfl ?_ dX6_isGood_63
        first
        | (exact gd_no f2 q92 (if_neg (fun z => h45 (hin.mpr z.2))))
        | (exact gd_no f2 q92 (if_neg (fun z => by rw [z.1] at h55; cases h55)))
        | (exact gd_yes f2 q92 (if_pos ⟨by simpa using h55, hin.mp h45⟩) ⟨upI_eq, (hqo 8 (by decide)).trans d8, (hqo 9 (by decide)).trans d9, (hqo 10 (by decide)).trans d10, (hqo 11 (by decide)).trans d11, (hqo 12 (by decide)).trans d12, q13, dL.same (hqq 95 (by decide)), dP.same (hqq 96 (by decide)), dS.same (hqq 97 (by decide)), dB.same (hqq 98 (by decide))⟩)
      · skip
        refine V_iconst (nI 1) (by decide) dX6_isGood_58 ?_
        refine V_goto 63 dX6_isGood_59 (by decide) ?_
        refine V_zret rfl (rfl) rfl rfl ?_ dX6_isGood_63
        first
        | (exact gd_no f2 q92 (if_neg (fun z => h45 (hin.mpr z.2))))
        | (exact gd_no f2 q92 (if_neg (fun z => by rw [z.1] at h55; cases h55)))
        | (exact gd_yes f2 q92 (if_pos ⟨by simpa using h55, hin.mp h45⟩) ⟨upI_eq, (hqo 8 (by decide)).trans d8, (hqo 9 (by decide)).trans d9, (hqo 10 (by decide)).trans d10, (hqo 11 (by decide)).trans d11, (hqo 12 (by decide)).trans d12, q13, dL.same (hqq 95 (by decide)), dP.same (hqq 96 (by decide)), dS.same (hqq 97 (by decide)), dB.same (hqq 98 (by decide))⟩)
  · -- d
    have hy : tlF s 100 a b c = if a < tF s.1 then some ((tF s.1, tX s.1 ||| 2 ^ a, s.1.2.2), true) else none := by unfold tlF; rw [if_neg (by decide), if_pos rfl]
    rw [hy]
    have k7 : ∀ v, (upI J1 94 12 v) 94 7 = nI (tF s.1) := fun v => (upI_ne (Or.inr (by decide))).trans j7
    have hf3 : ∀ v, fF I (upI J1 94 12 v) := fun v => f1.trans (fF.up (Or.inr (Or.inl ⟨rfl, by decide⟩)))
    have h92 : ∀ v, (upI J1 94 12 v) 92 = I 92 := fun v => (funext fun k => upI_ne (Or.inl (by decide))).trans j92
    have hqo : ∀ v k, k ≠ 12 → (upI J1 94 12 v) 94 k = J1 94 k := fun v k hk => upI_ne (Or.inr hk)
    have hqq : ∀ v q, q ≠ 94 → (upI J1 94 12 v) q = J1 q := fun v q hq => funext fun k => upI_ne (Or.inl hq)
    by_cases hlt : a < tF s.1
    · rw [if_pos hlt]
      have k7' := k7 (nI (tX s.1 ||| 2 ^ a))
      refine V_aload_n rfl dX6_isGood_0 ?_
      refine gf_X6_36 (by assumption) (by assumption) rfl dX6_isGood_1 ?_
      refine V_iconst (nI 0) (by decide) dX6_isGood_4 ?_
      refine V_iald _ (by assumption) rfl (by omega) (by omega) dX6_isGood_5 ?_
      refine V_topi (g0) ?_
      refine V_ist2 rfl rfl dX6_isGood_6 ?_
      refine V_aload_n rfl dX6_isGood_7 ?_
      refine gf_X6_36 (by assumption) (by assumption) rfl dX6_isGood_8 ?_
      refine V_iconst (nI 1) (by decide) dX6_isGood_11 ?_
      refine V_iald _ (by assumption) rfl (by omega) (by omega) dX6_isGood_12 ?_
      refine V_ist3 rfl rfl dX6_isGood_13 ?_
      refine V_aload_n rfl dX6_isGood_14 ?_
      refine gf_X6_36 (by assumption) (by assumption) rfl dX6_isGood_15 ?_
      refine V_iconst (nI 2) (by decide) dX6_isGood_18 ?_
      refine V_iald _ (by assumption) rfl (by omega) (by omega) dX6_isGood_19 ?_
      refine V_ist4 rfl rfl dX6_isGood_20 ?_
      refine V_iload_n rfl dX6_isGood_22 ?_
      refine V_bipush (nI 102) (by decide) dX6_isGood_23 ?_
      refine V_icmp_neN 64 dX6_isGood_25 (by decide) (by omega) (by omega) (fun h25 => ?_) (fun h25 => absurd h25 (by decide))
      refine V_aload_n rfl dX6_isGood_64 ?_
      refine gf_X6_13 (by assumption) (by assumption) rfl dX6_isGood_65 ?_
      refine V_bipush (nI 13) (by decide) dX6_isGood_68 ?_
      refine V_iconst (nI 1) (by decide) dX6_isGood_70 ?_
      refine V_iast _ (by assumption) rfl (by omega) (by omega) dX6_isGood_71 ?_
      rw [← hJ1]
      refine V_iload_n rfl dX6_isGood_72 ?_
      refine V_lookup 93 166 dX6_isGood_73 (by decide) (by decide) (by decide) ?_
      refine V_aload_n rfl dX6_isGood_166 ?_
      refine gf_X6_13 (by assumption) (by assumption) rfl dX6_isGood_167 ?_
      refine V_bipush (nI 12) (by decide) dX6_isGood_170 ?_
      refine V_dup2 rfl rfl dX6_isGood_172 ?_
      refine V_iald _ (by assumption) rfl (by omega) (by omega) dX6_isGood_173 ?_
      refine V_topi (j12) ?_
      refine V_iload_n rfl dX6_isGood_174 ?_
      refine V_aload_n rfl dX6_isGood_175 ?_
      refine gf_X6_13 (by assumption) (by assumption) rfl dX6_isGood_176 ?_
      refine V_bipush (nI 7) (by decide) dX6_isGood_179 ?_
      refine V_iald _ (by assumption) rfl (by omega) (by omega) dX6_isGood_181 ?_
      refine V_topi (j7) ?_
      refine V_icmp_geN 191 dX6_isGood_182 (by decide) (by omega) (by omega) (fun h182 => absurd h182 (by omega)) (fun h182 => ?_)
      refine V_iconst (nI 1) (by decide) dX6_isGood_185 ?_
      refine V_iload_n rfl dX6_isGood_186 ?_
      refine V_ishl1N (by omega) dX6_isGood_187 ?_
      refine V_goto 192 dX6_isGood_188 (by decide) ?_
      refine V_iorN dX6_isGood_192 ?_
      refine V_iast _ (by assumption) rfl (by omega) (by omega) dX6_isGood_193 ?_
      refine V_iload_n rfl dX6_isGood_194 ?_
      refine V_aload_n rfl dX6_isGood_195 ?_
      refine gf_X6_13 (by assumption) (by assumption) rfl dX6_isGood_196 ?_
      refine V_bipush (nI 7) (by decide) dX6_isGood_199 ?_
      refine V_iald _ (by assumption) rfl (by omega) (by omega) dX6_isGood_201 ?_
      refine V_topi (k7') ?_
      refine V_icmp_geN 209 dX6_isGood_202 (by decide) (by omega) (by omega) (fun h202 => absurd h202 (by omega)) (fun h202 => ?_)
      refine V_iconst (nI 1) (by decide) dX6_isGood_205 ?_
      refine V_goto 210 dX6_isGood_206 (by decide) ?_
      refine V_zret rfl (rfl) rfl rfl ?_ dX6_isGood_210
      exact gd_yes (hf3 _) (h92 _) rfl ⟨k7 _, (hqo _ 8 (by decide)).trans j8, (hqo _ 9 (by decide)).trans j9, (hqo _ 10 (by decide)).trans j10, (hqo _ 11 (by decide)).trans j11, upI_eq, (hqo _ 13 (by decide)).trans e13, jL.same (hqq _ 95 (by decide)), jP.same (hqq _ 96 (by decide)), jS.same (hqq _ 97 (by decide)), jB.same (hqq _ 98 (by decide))⟩
    · rw [if_neg hlt]
      have k7' := k7 (nI (tX s.1 ||| 0))
      refine V_aload_n rfl dX6_isGood_0 ?_
      refine gf_X6_36 (by assumption) (by assumption) rfl dX6_isGood_1 ?_
      refine V_iconst (nI 0) (by decide) dX6_isGood_4 ?_
      refine V_iald _ (by assumption) rfl (by omega) (by omega) dX6_isGood_5 ?_
      refine V_topi (g0) ?_
      refine V_ist2 rfl rfl dX6_isGood_6 ?_
      refine V_aload_n rfl dX6_isGood_7 ?_
      refine gf_X6_36 (by assumption) (by assumption) rfl dX6_isGood_8 ?_
      refine V_iconst (nI 1) (by decide) dX6_isGood_11 ?_
      refine V_iald _ (by assumption) rfl (by omega) (by omega) dX6_isGood_12 ?_
      refine V_ist3 rfl rfl dX6_isGood_13 ?_
      refine V_aload_n rfl dX6_isGood_14 ?_
      refine gf_X6_36 (by assumption) (by assumption) rfl dX6_isGood_15 ?_
      refine V_iconst (nI 2) (by decide) dX6_isGood_18 ?_
      refine V_iald _ (by assumption) rfl (by omega) (by omega) dX6_isGood_19 ?_
      refine V_ist4 rfl rfl dX6_isGood_20 ?_
      refine V_iload_n rfl dX6_isGood_22 ?_
      refine V_bipush (nI 102) (by decide) dX6_isGood_23 ?_
      refine V_icmp_neN 64 dX6_isGood_25 (by decide) (by omega) (by omega) (fun h25 => ?_) (fun h25 => absurd h25 (by decide))
      refine V_aload_n rfl dX6_isGood_64 ?_
      refine gf_X6_13 (by assumption) (by assumption) rfl dX6_isGood_65 ?_
      refine V_bipush (nI 13) (by decide) dX6_isGood_68 ?_
      refine V_iconst (nI 1) (by decide) dX6_isGood_70 ?_
      refine V_iast _ (by assumption) rfl (by omega) (by omega) dX6_isGood_71 ?_
      rw [← hJ1]
      refine V_iload_n rfl dX6_isGood_72 ?_
      refine V_lookup 93 166 dX6_isGood_73 (by decide) (by decide) (by decide) ?_
      refine V_aload_n rfl dX6_isGood_166 ?_
      refine gf_X6_13 (by assumption) (by assumption) rfl dX6_isGood_167 ?_
      refine V_bipush (nI 12) (by decide) dX6_isGood_170 ?_
      refine V_dup2 rfl rfl dX6_isGood_172 ?_
      refine V_iald _ (by assumption) rfl (by omega) (by omega) dX6_isGood_173 ?_
      refine V_topi (j12) ?_
      refine V_iload_n rfl dX6_isGood_174 ?_
      refine V_aload_n rfl dX6_isGood_175 ?_
      refine gf_X6_13 (by assumption) (by assumption) rfl dX6_isGood_176 ?_
      refine V_bipush (nI 7) (by decide) dX6_isGood_179 ?_
      refine V_iald _ (by assumption) rfl (by omega) (by omega) dX6_isGood_181 ?_
      refine V_topi (j7) ?_
      refine V_icmp_geN 191 dX6_isGood_182 (by decide) (by omega) (by omega) (fun h182 => ?_) (fun h182 => absurd h182 (by omega))
      refine V_iconst (nI 0) (by decide) dX6_isGood_191 ?_
      refine V_iorN dX6_isGood_192 ?_
      refine V_iast _ (by assumption) rfl (by omega) (by omega) dX6_isGood_193 ?_
      refine V_iload_n rfl dX6_isGood_194 ?_
      refine V_aload_n rfl dX6_isGood_195 ?_
      refine gf_X6_13 (by assumption) (by assumption) rfl dX6_isGood_196 ?_
      refine V_bipush (nI 7) (by decide) dX6_isGood_199 ?_
      refine V_iald _ (by assumption) rfl (by omega) (by omega) dX6_isGood_201 ?_
      refine V_topi (k7') ?_
      refine V_icmp_geN 209 dX6_isGood_202 (by decide) (by omega) (by omega) (fun h202 => ?_) (fun h202 => absurd h202 (by omega))
      refine V_iconst (nI 0) (by decide) dX6_isGood_209 ?_
      refine V_zret rfl (rfl) rfl rfl ?_ dX6_isGood_210
      exact gd_no (hf3 _) (h92 _) rfl
  · -- i
    have hy : tlF s 105 a b c = if a < 2 * tF s.1 ∧ b < 2 * tF s.1 ∧ (tL s.1).1 < 10 then some ((tF s.1, tX s.1, addTB (tL s.1) a b c, tP s.1, tS s.1, tB s.1), true) else none := by unfold tlF; rw [if_neg (by decide), if_neg (by decide), if_pos rfl]
    rw [hy]
    have g1 := g1 (by decide)
    have hfin : ∀ (rr : Option Value) (s9 : SG) (J : IM), ptQ sg J1 95 20 2 8 10 (tL s.1).1 rr s9 J → a < 2 * tF s.1 → b < 2 * tF s.1 → (rr = some (.int (nI 1)) ∨ rr = some (.int (nI 0))) ∧ s9 = sg ∧ gdQ sg I (if a < 2 * tF s.1 ∧ b < 2 * tF s.1 ∧ (tL s.1).1 < 10 then some ((tF s.1, tX s.1, addTB (tL s.1) a b c, tP s.1, tS s.1, tB s.1), true) else none) rr sg J := by
      intro rr s9 J hq ha2 hb2
      obtain ⟨hp1, hp2⟩ := pt_f hq (Or.inl ⟨rfl, rfl⟩) (by decide)
      rcases hq.2 with ⟨z0, rfl, z2, z3, z4, z5, z6⟩ | ⟨z0, rfl, -⟩
      · exact ⟨Or.inl rfl, hq.1, gd_yes (f1.trans hp1) (hp2.trans j92) (if_pos ⟨ha2, hb2, z0⟩) ⟨(z3 7 (by decide)).trans j7, z2, (z3 9 (by decide)).trans j9, (z3 10 (by decide)).trans j10, (z3 11 (by decide)).trans j11, (z3 12 (by decide)).trans j12, (z3 13 (by decide)).trans e13, jL.add (Or.inl rfl) z4 (fun k hk => z5 k (Or.inl hk)) ((jg 0).trans g0) ((jg 1).trans g1) (fun z => by cases z), jP.same (z6 96 (by decide) (by decide)), jS.same (z6 97 (by decide) (by decide)), jB.same (z6 98 (by decide) (by decide))⟩⟩
      · exact ⟨Or.inr rfl, hq.1, gd_no (f1.trans hp1) (hp2.trans j92) (if_neg (fun z => by omega))⟩
    refine V_aload_n rfl dX6_isGood_0 ?_
    refine gf_X6_36 (by assumption) (by assumption) rfl dX6_isGood_1 ?_
    refine V_iconst (nI 0) (by decide) dX6_isGood_4 ?_
    refine V_iald _ (by assumption) rfl (by omega) (by omega) dX6_isGood_5 ?_
    refine V_topi (g0) ?_
    refine V_ist2 rfl rfl dX6_isGood_6 ?_
    refine V_aload_n rfl dX6_isGood_7 ?_
    refine gf_X6_36 (by assumption) (by assumption) rfl dX6_isGood_8 ?_
    refine V_iconst (nI 1) (by decide) dX6_isGood_11 ?_
    refine V_iald _ (by assumption) rfl (by omega) (by omega) dX6_isGood_12 ?_
    refine V_topi (g1) ?_
    refine V_ist3 rfl rfl dX6_isGood_13 ?_
    refine V_aload_n rfl dX6_isGood_14 ?_
    refine gf_X6_36 (by assumption) (by assumption) rfl dX6_isGood_15 ?_
    refine V_iconst (nI 2) (by decide) dX6_isGood_18 ?_
    refine V_iald _ (by assumption) rfl (by omega) (by omega) dX6_isGood_19 ?_
    refine V_ist4 rfl rfl dX6_isGood_20 ?_
    refine V_iload_n rfl dX6_isGood_22 ?_
    refine V_bipush (nI 102) (by decide) dX6_isGood_23 ?_
    refine V_icmp_neN 64 dX6_isGood_25 (by decide) (by omega) (by omega) (fun h25 => ?_) (fun h25 => absurd h25 (by decide))
    refine V_aload_n rfl dX6_isGood_64 ?_
    refine gf_X6_13 (by assumption) (by assumption) rfl dX6_isGood_65 ?_
    refine V_bipush (nI 13) (by decide) dX6_isGood_68 ?_
    refine V_iconst (nI 1) (by decide) dX6_isGood_70 ?_
    refine V_iast _ (by assumption) rfl (by omega) (by omega) dX6_isGood_71 ?_
    rw [← hJ1]
    refine V_iload_n rfl dX6_isGood_72 ?_
    refine V_lookup 43 116 dX6_isGood_73 (by decide) (by decide) (by decide) ?_
    refine V_iload_n rfl dX6_isGood_116 ?_
    refine V_iconst (nI 2) (by decide) dX6_isGood_117 ?_
    refine V_aload_n rfl dX6_isGood_118 ?_
    refine gf_X6_13 (by assumption) (by assumption) rfl dX6_isGood_119 ?_
    refine V_bipush (nI 7) (by decide) dX6_isGood_122 ?_
    refine V_iald _ (by assumption) rfl (by omega) (by omega) dX6_isGood_124 ?_
    refine V_topi (j7) ?_
    refine V_imulN dX6_isGood_125 ?_
    refine V_icmp_geN 164 dX6_isGood_126 (by decide) (by omega) (by omega) (fun h126 => ?_) (fun h126 => ?_)
    · skip
      refine V_iconst (nI 0) (by decide) dX6_isGood_164 ?_
      refine V_zret rfl (rfl) rfl rfl ?_ dX6_isGood_165
      exact gd_no f1 j92 (if_neg (fun z => by omega))
    · skip
      refine V_iload_n rfl dX6_isGood_129 ?_
      refine V_iconst (nI 2) (by decide) dX6_isGood_130 ?_
      refine V_aload_n rfl dX6_isGood_131 ?_
      refine gf_X6_13 (by assumption) (by assumption) rfl dX6_isGood_132 ?_
      refine V_bipush (nI 7) (by decide) dX6_isGood_135 ?_
      refine V_iald _ (by assumption) rfl (by omega) (by omega) dX6_isGood_137 ?_
      refine V_topi (j7) ?_
      refine V_imulN dX6_isGood_138 ?_
      refine V_icmp_geN 164 dX6_isGood_139 (by decide) (by omega) (by omega) (fun h139 => ?_) (fun h139 => ?_)
      · skip
        refine V_iconst (nI 0) (by decide) dX6_isGood_164 ?_
        refine V_zret rfl (rfl) rfl rfl ?_ dX6_isGood_165
        exact gd_no f1 j92 (if_neg (fun z => by omega))
      · skip
        refine V_aload_n rfl dX6_isGood_142 ?_
        refine V_aload_n rfl dX6_isGood_143 ?_
        refine gf_X6_17 (by assumption) (by assumption) rfl dX6_isGood_144 ?_
        refine V_bipush (nI 20) (by decide) dX6_isGood_147 ?_
        refine V_iconst (nI 2) (by decide) dX6_isGood_149 ?_
        refine V_bipush (nI 8) (by decide) dX6_isGood_150 ?_
        refine V_bipush (nI 10) (by decide) dX6_isGood_152 ?_
        refine cl_X6_83 (D_isPut (n := (tL s.1).1) hK0 mA95 (by decide) (by decide) j8 (by omega) (by decide) (fun _ => by omega) (by decide) (Or.inl rfl)) (by assumption) rfl rfl ft0 (Nat.le_of_ble_eq_true rfl) dX6_isGood_154 (fun rr s9 J9 hq => ?_)
        obtain ⟨hr, hs, hg⟩ := hfin _ _ _ hq (by omega) (by omega)
        have hs := hs.symm
        subst hs
        rcases hr with rfl | rfl
        · show V X _ sg J9 157 _ [.int (nI 1)]
          refine V_if_eqN 164 dX6_isGood_157 (by decide) (by omega) (fun h157 => absurd h157 (by decide)) (fun h157 => ?_)
          refine V_iconst (nI 1) (by decide) dX6_isGood_160 ?_
          refine V_goto 165 dX6_isGood_161 (by decide) ?_
          refine V_zret rfl (rfl) rfl rfl ?_ dX6_isGood_165
          exact hg
        · show V X _ sg J9 157 _ [.int (nI 0)]
          refine V_if_eqN 164 dX6_isGood_157 (by decide) (by omega) (fun h157 => ?_) (fun h157 => absurd h157 (by decide))
          refine V_iconst (nI 0) (by decide) dX6_isGood_164 ?_
          refine V_zret rfl (rfl) rfl rfl ?_ dX6_isGood_165
          exact hg
  · -- p
    have hy : tlF s 112 a b c = if a ≤ 40 ∧ b ≤ 9 ∧ (tP s.1).1 < 5 then some ((tF s.1, tX s.1, tL s.1, addTB (tP s.1) a b c, tS s.1, tB s.1), true) else none := by unfold tlF; rw [if_neg (by decide), if_neg (by decide), if_neg (by decide), if_pos rfl]
    rw [hy]
    have g1 := g1 (by decide)
    have hfin : ∀ (rr : Option Value) (s9 : SG) (J : IM), ptQ sg J1 96 10 2 9 5 (tP s.1).1 rr s9 J → a ≤ 40 → b ≤ 9 → (rr = some (.int (nI 1)) ∨ rr = some (.int (nI 0))) ∧ s9 = sg ∧ gdQ sg I (if a ≤ 40 ∧ b ≤ 9 ∧ (tP s.1).1 < 5 then some ((tF s.1, tX s.1, tL s.1, addTB (tP s.1) a b c, tS s.1, tB s.1), true) else none) rr sg J := by
      intro rr s9 J hq ha2 hb2
      obtain ⟨hp1, hp2⟩ := pt_f hq (Or.inr (Or.inl ⟨rfl, rfl⟩)) (by decide)
      rcases hq.2 with ⟨z0, rfl, z2, z3, z4, z5, z6⟩ | ⟨z0, rfl, -⟩
      · exact ⟨Or.inl rfl, hq.1, gd_yes (f1.trans hp1) (hp2.trans j92) (if_pos ⟨ha2, hb2, z0⟩) ⟨(z3 7 (by decide)).trans j7, (z3 8 (by decide)).trans j8, z2, (z3 10 (by decide)).trans j10, (z3 11 (by decide)).trans j11, (z3 12 (by decide)).trans j12, (z3 13 (by decide)).trans e13, jL.same (z6 95 (by decide) (by decide)), jP.add (Or.inl rfl) z4 (fun k hk => z5 k (Or.inl hk)) ((jg 0).trans g0) ((jg 1).trans g1) (fun z => by cases z), jS.same (z6 97 (by decide) (by decide)), jB.same (z6 98 (by decide) (by decide))⟩⟩
      · exact ⟨Or.inr rfl, hq.1, gd_no (f1.trans hp1) (hp2.trans j92) (if_neg (fun z => by omega))⟩
    refine V_aload_n rfl dX6_isGood_0 ?_
    refine gf_X6_36 (by assumption) (by assumption) rfl dX6_isGood_1 ?_
    refine V_iconst (nI 0) (by decide) dX6_isGood_4 ?_
    refine V_iald _ (by assumption) rfl (by omega) (by omega) dX6_isGood_5 ?_
    refine V_topi (g0) ?_
    refine V_ist2 rfl rfl dX6_isGood_6 ?_
    refine V_aload_n rfl dX6_isGood_7 ?_
    refine gf_X6_36 (by assumption) (by assumption) rfl dX6_isGood_8 ?_
    refine V_iconst (nI 1) (by decide) dX6_isGood_11 ?_
    refine V_iald _ (by assumption) rfl (by omega) (by omega) dX6_isGood_12 ?_
    refine V_topi (g1) ?_
    refine V_ist3 rfl rfl dX6_isGood_13 ?_
    refine V_aload_n rfl dX6_isGood_14 ?_
    refine gf_X6_36 (by assumption) (by assumption) rfl dX6_isGood_15 ?_
    refine V_iconst (nI 2) (by decide) dX6_isGood_18 ?_
    refine V_iald _ (by assumption) rfl (by omega) (by omega) dX6_isGood_19 ?_
    refine V_ist4 rfl rfl dX6_isGood_20 ?_
    refine V_iload_n rfl dX6_isGood_22 ?_
    refine V_bipush (nI 102) (by decide) dX6_isGood_23 ?_
    refine V_icmp_neN 64 dX6_isGood_25 (by decide) (by omega) (by omega) (fun h25 => ?_) (fun h25 => absurd h25 (by decide))
    refine V_aload_n rfl dX6_isGood_64 ?_
    refine gf_X6_13 (by assumption) (by assumption) rfl dX6_isGood_65 ?_
    refine V_bipush (nI 13) (by decide) dX6_isGood_68 ?_
    refine V_iconst (nI 1) (by decide) dX6_isGood_70 ?_
    refine V_iast _ (by assumption) rfl (by omega) (by omega) dX6_isGood_71 ?_
    rw [← hJ1]
    refine V_iload_n rfl dX6_isGood_72 ?_
    refine V_lookup 138 211 dX6_isGood_73 (by decide) (by decide) (by decide) ?_
    refine V_iload_n rfl dX6_isGood_211 ?_
    refine V_bipush (nI 41) (by decide) dX6_isGood_212 ?_
    refine V_icmp_geN 244 dX6_isGood_214 (by decide) (by omega) (by omega) (fun h214 => ?_) (fun h214 => ?_)
    · skip
      refine V_iconst (nI 0) (by decide) dX6_isGood_244 ?_
      refine V_zret rfl (rfl) rfl rfl ?_ dX6_isGood_245
      exact gd_no f1 j92 (if_neg (fun z => by omega))
    · skip
      refine V_iload_n rfl dX6_isGood_217 ?_
      refine V_bipush (nI 10) (by decide) dX6_isGood_218 ?_
      refine V_icmp_geN 244 dX6_isGood_220 (by decide) (by omega) (by omega) (fun h220 => ?_) (fun h220 => ?_)
      · skip
        refine V_iconst (nI 0) (by decide) dX6_isGood_244 ?_
        refine V_zret rfl (rfl) rfl rfl ?_ dX6_isGood_245
        exact gd_no f1 j92 (if_neg (fun z => by omega))
      · skip
        refine V_aload_n rfl dX6_isGood_223 ?_
        refine V_aload_n rfl dX6_isGood_224 ?_
        refine gf_X6_20 (by assumption) (by assumption) rfl dX6_isGood_225 ?_
        refine V_bipush (nI 10) (by decide) dX6_isGood_228 ?_
        refine V_iconst (nI 2) (by decide) dX6_isGood_230 ?_
        refine V_bipush (nI 9) (by decide) dX6_isGood_231 ?_
        refine V_iconst (nI 5) (by decide) dX6_isGood_233 ?_
        refine cl_X6_83 (D_isPut (n := (tP s.1).1) hK0 mA96 (by decide) (by decide) j9 (by omega) (by decide) (fun _ => by omega) (by decide) (Or.inl rfl)) (by assumption) rfl rfl ft0 (Nat.le_of_ble_eq_true rfl) dX6_isGood_234 (fun rr s9 J9 hq => ?_)
        obtain ⟨hr, hs, hg⟩ := hfin _ _ _ hq (by omega) (by omega)
        have hs := hs.symm
        subst hs
        rcases hr with rfl | rfl
        · show V X _ sg J9 237 _ [.int (nI 1)]
          refine V_if_eqN 244 dX6_isGood_237 (by decide) (by omega) (fun h237 => absurd h237 (by decide)) (fun h237 => ?_)
          refine V_iconst (nI 1) (by decide) dX6_isGood_240 ?_
          refine V_goto 245 dX6_isGood_241 (by decide) ?_
          refine V_zret rfl (rfl) rfl rfl ?_ dX6_isGood_245
          exact hg
        · show V X _ sg J9 237 _ [.int (nI 0)]
          refine V_if_eqN 244 dX6_isGood_237 (by decide) (by omega) (fun h237 => ?_) (fun h237 => absurd h237 (by decide))
          refine V_iconst (nI 0) (by decide) dX6_isGood_244 ?_
          refine V_zret rfl (rfl) rfl rfl ?_ dX6_isGood_245
          exact hg
  · -- s
    have hy : tlF s 115 a b c = if (1 ≤ a ∧ a ≤ 6) ∧ (1 ≤ b ∧ b ≤ 9) ∧ c ≤ 3 ∧ (tS s.1).1 < 5 then some ((tF s.1, tX s.1, tL s.1, tP s.1, addTB (tS s.1) a b c, tB s.1), true) else none := by unfold tlF; rw [if_neg (by decide), if_neg (by decide), if_neg (by decide), if_neg (by decide), if_pos rfl]
    rw [hy]
    have g1 := g1 (by decide)
    have g2 := g2 (by decide)
    have hina : (nI 1 ≤ nI a ∧ nI a ≤ nI 6) ↔ (1 ≤ a ∧ a ≤ 6) := by rw [nI_leI (by decide) (by omega), nI_leI (by omega) (by decide)]
    have hinb : (nI 1 ≤ nI b ∧ nI b ≤ nI 9) ↔ (1 ≤ b ∧ b ≤ 9) := by rw [nI_leI (by decide) (by omega), nI_leI (by omega) (by decide)]
    have hfin : ∀ (rr : Option Value) (s9 : SG) (J : IM), ptQ sg J1 97 15 3 10 5 (tS s.1).1 rr s9 J → (1 ≤ a ∧ a ≤ 6) → (1 ≤ b ∧ b ≤ 9) → c ≤ 3 → (rr = some (.int (nI 1)) ∨ rr = some (.int (nI 0))) ∧ s9 = sg ∧ gdQ sg I (if (1 ≤ a ∧ a ≤ 6) ∧ (1 ≤ b ∧ b ≤ 9) ∧ c ≤ 3 ∧ (tS s.1).1 < 5 then some ((tF s.1, tX s.1, tL s.1, tP s.1, addTB (tS s.1) a b c, tB s.1), true) else none) rr sg J := by
      intro rr s9 J hq ha2 hb2 hc2
      obtain ⟨hp1, hp2⟩ := pt_f hq (Or.inr (Or.inr (Or.inl ⟨rfl, rfl⟩))) (by decide)
      rcases hq.2 with ⟨z0, rfl, z2, z3, z4, z5, z6⟩ | ⟨z0, rfl, -⟩
      · exact ⟨Or.inl rfl, hq.1, gd_yes (f1.trans hp1) (hp2.trans j92) (if_pos ⟨ha2, hb2, hc2, z0⟩) ⟨(z3 7 (by decide)).trans j7, (z3 8 (by decide)).trans j8, (z3 9 (by decide)).trans j9, z2, (z3 11 (by decide)).trans j11, (z3 12 (by decide)).trans j12, (z3 13 (by decide)).trans e13, jL.same (z6 95 (by decide) (by decide)), jP.same (z6 96 (by decide) (by decide)), jS.add (Or.inr rfl) z4 (fun k hk => z5 k (Or.inl hk)) ((jg 0).trans g0) ((jg 1).trans g1) (fun _ => (jg 2).trans g2), jB.same (z6 98 (by decide) (by decide))⟩⟩
      · exact ⟨Or.inr rfl, hq.1, gd_no (f1.trans hp1) (hp2.trans j92) (if_neg (fun z => by omega))⟩
    refine V_aload_n rfl dX6_isGood_0 ?_
    refine gf_X6_36 (by assumption) (by assumption) rfl dX6_isGood_1 ?_
    refine V_iconst (nI 0) (by decide) dX6_isGood_4 ?_
    refine V_iald _ (by assumption) rfl (by omega) (by omega) dX6_isGood_5 ?_
    refine V_topi (g0) ?_
    refine V_ist2 rfl rfl dX6_isGood_6 ?_
    refine V_aload_n rfl dX6_isGood_7 ?_
    refine gf_X6_36 (by assumption) (by assumption) rfl dX6_isGood_8 ?_
    refine V_iconst (nI 1) (by decide) dX6_isGood_11 ?_
    refine V_iald _ (by assumption) rfl (by omega) (by omega) dX6_isGood_12 ?_
    refine V_topi (g1) ?_
    refine V_ist3 rfl rfl dX6_isGood_13 ?_
    refine V_aload_n rfl dX6_isGood_14 ?_
    refine gf_X6_36 (by assumption) (by assumption) rfl dX6_isGood_15 ?_
    refine V_iconst (nI 2) (by decide) dX6_isGood_18 ?_
    refine V_iald _ (by assumption) rfl (by omega) (by omega) dX6_isGood_19 ?_
    refine V_topi (g2) ?_
    refine V_ist4 rfl rfl dX6_isGood_20 ?_
    refine V_iload_n rfl dX6_isGood_22 ?_
    refine V_bipush (nI 102) (by decide) dX6_isGood_23 ?_
    refine V_icmp_neN 64 dX6_isGood_25 (by decide) (by omega) (by omega) (fun h25 => ?_) (fun h25 => absurd h25 (by decide))
    refine V_aload_n rfl dX6_isGood_64 ?_
    refine gf_X6_13 (by assumption) (by assumption) rfl dX6_isGood_65 ?_
    refine V_bipush (nI 13) (by decide) dX6_isGood_68 ?_
    refine V_iconst (nI 1) (by decide) dX6_isGood_70 ?_
    refine V_iast _ (by assumption) rfl (by omega) (by omega) dX6_isGood_71 ?_
    rw [← hJ1]
    refine V_iload_n rfl dX6_isGood_72 ?_
    refine V_lookup 173 246 dX6_isGood_73 (by decide) (by decide) (by decide) ?_
    refine V_iload_n rfl dX6_isGood_246 ?_
    refine V_i2l dX6_isGood_247 ?_
    refine V_lconst (lN 1) rfl dX6_isGood_248 ?_
    refine V_ldc2 RX6 _ rfl wk_X6_87 dX6_isGood_249 ?_
    rw [show (6 : Int64) = lN 6 from by decide]
    refine cf_X6_52 (C_inNN (by decide) (by decide)) rfl rfl ft0 (Nat.le_of_ble_eq_true rfl) dX6_isGood_252 ?_
    refine V_if_eqB 297 dX6_isGood_255 (by decide) (fun h255 => ?_) (fun h255 => ?_)
    · skip
      refine V_iconst (nI 0) (by decide) dX6_isGood_297 ?_
      refine V_zret rfl (rfl) rfl rfl ?_ dX6_isGood_298
      first
      | exact gd_no f1 j92 (if_neg (fun z => h255 (hina.mpr z.1)))
      | exact gd_no f1 j92 (if_neg (fun z => h267 (hinb.mpr z.2.1)))
      | exact gd_no f1 j92 (if_neg (fun z => by omega))
    · skip
      refine V_iload_n rfl dX6_isGood_258 ?_
      refine V_i2l dX6_isGood_259 ?_
      refine V_lconst (lN 1) rfl dX6_isGood_260 ?_
      refine V_ldc2 RX6 _ rfl wk_X6_89 dX6_isGood_261 ?_
      rw [show (9 : Int64) = lN 9 from by decide]
      refine cf_X6_52 (C_inNN (by decide) (by decide)) rfl rfl ft0 (Nat.le_of_ble_eq_true rfl) dX6_isGood_264 ?_
      refine V_if_eqB 297 dX6_isGood_267 (by decide) (fun h267 => ?_) (fun h267 => ?_)
      · skip
        refine V_iconst (nI 0) (by decide) dX6_isGood_297 ?_
        refine V_zret rfl (rfl) rfl rfl ?_ dX6_isGood_298
        first
        | exact gd_no f1 j92 (if_neg (fun z => h255 (hina.mpr z.1)))
        | exact gd_no f1 j92 (if_neg (fun z => h267 (hinb.mpr z.2.1)))
        | exact gd_no f1 j92 (if_neg (fun z => by omega))
      · skip
        refine V_iload rfl dX6_isGood_270 ?_
        refine V_iconst (nI 4) (by decide) dX6_isGood_272 ?_
        refine V_icmp_geN 297 dX6_isGood_273 (by decide) (by omega) (by omega) (fun h273 => ?_) (fun h273 => ?_)
        · skip
          refine V_iconst (nI 0) (by decide) dX6_isGood_297 ?_
          refine V_zret rfl (rfl) rfl rfl ?_ dX6_isGood_298
          first
          | exact gd_no f1 j92 (if_neg (fun z => h255 (hina.mpr z.1)))
          | exact gd_no f1 j92 (if_neg (fun z => h267 (hinb.mpr z.2.1)))
          | exact gd_no f1 j92 (if_neg (fun z => by omega))
        · skip
          refine V_aload_n rfl dX6_isGood_276 ?_
          refine V_aload_n rfl dX6_isGood_277 ?_
          refine gf_X6_23 (by assumption) (by assumption) rfl dX6_isGood_278 ?_
          refine V_bipush (nI 15) (by decide) dX6_isGood_281 ?_
          refine V_iconst (nI 3) (by decide) dX6_isGood_283 ?_
          refine V_bipush (nI 10) (by decide) dX6_isGood_284 ?_
          refine V_iconst (nI 5) (by decide) dX6_isGood_286 ?_
          refine cl_X6_83 (D_isPut (n := (tS s.1).1) hK0 mA97 (by decide) (by decide) j10 (by omega) (by decide) (fun _ => by omega) (by decide) (Or.inr rfl)) (by assumption) rfl rfl ft0 (Nat.le_of_ble_eq_true rfl) dX6_isGood_287 (fun rr s9 J9 hq => ?_)
          obtain ⟨hr, hs, hg⟩ := hfin _ _ _ hq (hina.mp h255) (hinb.mp h267) (by omega)
          have hs := hs.symm
          subst hs
          rcases hr with rfl | rfl
          · show V X _ sg J9 290 _ [.int (nI 1)]
            refine V_if_eqN 297 dX6_isGood_290 (by decide) (by omega) (fun h290 => absurd h290 (by decide)) (fun h290 => ?_)
            refine V_iconst (nI 1) (by decide) dX6_isGood_293 ?_
            refine V_goto 298 dX6_isGood_294 (by decide) ?_
            refine V_zret rfl (rfl) rfl rfl ?_ dX6_isGood_298
            exact hg
          · show V X _ sg J9 290 _ [.int (nI 0)]
            refine V_if_eqN 297 dX6_isGood_290 (by decide) (by omega) (fun h290 => ?_) (fun h290 => absurd h290 (by decide))
            refine V_iconst (nI 0) (by decide) dX6_isGood_297 ?_
            refine V_zret rfl (rfl) rfl rfl ?_ dX6_isGood_298
            exact hg
  · -- b
    have hy : tlF s 98 a b c = if a < (tP s.1).1 ∧ (1 ≤ b ∧ b ≤ 6) ∧ c ≤ 99 ∧ (tB s.1).1 < 6 then some ((tF s.1, tX s.1, tL s.1, tP s.1, tS s.1, addTB (tB s.1) a b c), true) else none := by unfold tlF; rw [if_neg (by decide), if_neg (by decide), if_neg (by decide), if_neg (by decide), if_neg (by decide)]
    rw [hy]
    have g1 := g1 (by decide)
    have g2 := g2 (by decide)
    have hinb : (nI 1 ≤ nI b ∧ nI b ≤ nI 6) ↔ (1 ≤ b ∧ b ≤ 6) := by rw [nI_leI (by decide) (by omega), nI_leI (by omega) (by decide)]
    have hfin : ∀ (rr : Option Value) (s9 : SG) (J : IM), ptQ sg J1 98 18 3 11 6 (tB s.1).1 rr s9 J → a < (tP s.1).1 → (1 ≤ b ∧ b ≤ 6) → (rr = some (.int (nI 1)) ∨ rr = some (.int (nI 0))) ∧ s9 = sg ∧ gdQ sg I (if a < (tP s.1).1 ∧ (1 ≤ b ∧ b ≤ 6) ∧ c ≤ 99 ∧ (tB s.1).1 < 6 then some ((tF s.1, tX s.1, tL s.1, tP s.1, tS s.1, addTB (tB s.1) a b c), true) else none) rr sg J := by
      intro rr s9 J hq ha2 hb2
      obtain ⟨hp1, hp2⟩ := pt_f hq (Or.inr (Or.inr (Or.inr ⟨rfl, rfl⟩))) (by decide)
      rcases hq.2 with ⟨z0, rfl, z2, z3, z4, z5, z6⟩ | ⟨z0, rfl, -⟩
      · exact ⟨Or.inl rfl, hq.1, gd_yes (f1.trans hp1) (hp2.trans j92) (if_pos ⟨ha2, hb2, hc, z0⟩) ⟨(z3 7 (by decide)).trans j7, (z3 8 (by decide)).trans j8, (z3 9 (by decide)).trans j9, (z3 10 (by decide)).trans j10, z2, (z3 12 (by decide)).trans j12, (z3 13 (by decide)).trans e13, jL.same (z6 95 (by decide) (by decide)), jP.same (z6 96 (by decide) (by decide)), jS.same (z6 97 (by decide) (by decide)), jB.add (Or.inr rfl) z4 (fun k hk => z5 k (Or.inl hk)) ((jg 0).trans g0) ((jg 1).trans g1) (fun _ => (jg 2).trans g2)⟩⟩
      · exact ⟨Or.inr rfl, hq.1, gd_no (f1.trans hp1) (hp2.trans j92) (if_neg (fun z => by omega))⟩
    refine V_aload_n rfl dX6_isGood_0 ?_
    refine gf_X6_36 (by assumption) (by assumption) rfl dX6_isGood_1 ?_
    refine V_iconst (nI 0) (by decide) dX6_isGood_4 ?_
    refine V_iald _ (by assumption) rfl (by omega) (by omega) dX6_isGood_5 ?_
    refine V_topi (g0) ?_
    refine V_ist2 rfl rfl dX6_isGood_6 ?_
    refine V_aload_n rfl dX6_isGood_7 ?_
    refine gf_X6_36 (by assumption) (by assumption) rfl dX6_isGood_8 ?_
    refine V_iconst (nI 1) (by decide) dX6_isGood_11 ?_
    refine V_iald _ (by assumption) rfl (by omega) (by omega) dX6_isGood_12 ?_
    refine V_topi (g1) ?_
    refine V_ist3 rfl rfl dX6_isGood_13 ?_
    refine V_aload_n rfl dX6_isGood_14 ?_
    refine gf_X6_36 (by assumption) (by assumption) rfl dX6_isGood_15 ?_
    refine V_iconst (nI 2) (by decide) dX6_isGood_18 ?_
    refine V_iald _ (by assumption) rfl (by omega) (by omega) dX6_isGood_19 ?_
    refine V_topi (g2) ?_
    refine V_ist4 rfl rfl dX6_isGood_20 ?_
    refine V_iload_n rfl dX6_isGood_22 ?_
    refine V_bipush (nI 102) (by decide) dX6_isGood_23 ?_
    refine V_icmp_neN 64 dX6_isGood_25 (by decide) (by omega) (by omega) (fun h25 => ?_) (fun h25 => absurd h25 (by decide))
    refine V_aload_n rfl dX6_isGood_64 ?_
    refine gf_X6_13 (by assumption) (by assumption) rfl dX6_isGood_65 ?_
    refine V_bipush (nI 13) (by decide) dX6_isGood_68 ?_
    refine V_iconst (nI 1) (by decide) dX6_isGood_70 ?_
    refine V_iast _ (by assumption) rfl (by omega) (by omega) dX6_isGood_71 ?_
    rw [← hJ1]
    refine V_iload_n rfl dX6_isGood_72 ?_
    refine V_lookup 226 299 dX6_isGood_73 (by decide) (by decide) (by decide) ?_
    refine V_iload_n rfl dX6_isGood_299 ?_
    refine V_aload_n rfl dX6_isGood_300 ?_
    refine gf_X6_13 (by assumption) (by assumption) rfl dX6_isGood_301 ?_
    refine V_bipush (nI 9) (by decide) dX6_isGood_304 ?_
    refine V_iald _ (by assumption) rfl (by omega) (by omega) dX6_isGood_306 ?_
    refine V_topi (j9) ?_
    refine V_icmp_geN 344 dX6_isGood_307 (by decide) (by omega) (by omega) (fun h307 => ?_) (fun h307 => ?_)
    · skip
      refine V_iconst (nI 0) (by decide) dX6_isGood_344 ?_
      refine V_zret rfl (rfl) rfl rfl ?_ dX6_isGood_345
      first
      | exact gd_no f1 j92 (if_neg (fun z => h319 (hinb.mpr z.2.1)))
      | exact gd_no f1 j92 (if_neg (fun z => by omega))
    · skip
      refine V_iload_n rfl dX6_isGood_310 ?_
      refine V_i2l dX6_isGood_311 ?_
      refine V_lconst (lN 1) rfl dX6_isGood_312 ?_
      refine V_ldc2 RX6 _ rfl wk_X6_87 dX6_isGood_313 ?_
      rw [show (6 : Int64) = lN 6 from by decide]
      refine cf_X6_52 (C_inNN (by decide) (by decide)) rfl rfl ft0 (Nat.le_of_ble_eq_true rfl) dX6_isGood_316 ?_
      refine V_if_eqB 344 dX6_isGood_319 (by decide) (fun h319 => ?_) (fun h319 => ?_)
      · skip
        refine V_iconst (nI 0) (by decide) dX6_isGood_344 ?_
        refine V_zret rfl (rfl) rfl rfl ?_ dX6_isGood_345
        first
        | exact gd_no f1 j92 (if_neg (fun z => h319 (hinb.mpr z.2.1)))
        | exact gd_no f1 j92 (if_neg (fun z => by omega))
      · skip
        refine V_aload_n rfl dX6_isGood_322 ?_
        refine V_aload_n rfl dX6_isGood_323 ?_
        refine gf_X6_26 (by assumption) (by assumption) rfl dX6_isGood_324 ?_
        refine V_bipush (nI 18) (by decide) dX6_isGood_327 ?_
        refine V_iconst (nI 3) (by decide) dX6_isGood_329 ?_
        refine V_bipush (nI 11) (by decide) dX6_isGood_330 ?_
        refine V_bipush (nI 6) (by decide) dX6_isGood_332 ?_
        refine cl_X6_83 (D_isPut (n := (tB s.1).1) hK0 mA98 (by decide) (by decide) j11 (by omega) (by decide) (fun _ => by omega) (by decide) (Or.inr rfl)) (by assumption) rfl rfl ft0 (Nat.le_of_ble_eq_true rfl) dX6_isGood_334 (fun rr s9 J9 hq => ?_)
        obtain ⟨hr, hs, hg⟩ := hfin _ _ _ hq (by omega) (hinb.mp h319)
        have hs := hs.symm
        subst hs
        rcases hr with rfl | rfl
        · show V X _ sg J9 337 _ [.int (nI 1)]
          refine V_if_eqN 344 dX6_isGood_337 (by decide) (by omega) (fun h337 => absurd h337 (by decide)) (fun h337 => ?_)
          refine V_iconst (nI 1) (by decide) dX6_isGood_340 ?_
          refine V_goto 345 dX6_isGood_341 (by decide) ?_
          refine V_zret rfl (rfl) rfl rfl ?_ dX6_isGood_345
          exact hg
        · show V X _ sg J9 337 _ [.int (nI 0)]
          refine V_if_eqN 344 dX6_isGood_337 (by decide) (by omega) (fun h337 => ?_) (fun h337 => absurd h337 (by decide))
          refine V_iconst (nI 0) (by decide) dX6_isGood_344 ?_
          refine V_zret rfl (rfl) rfl rfl ?_ dX6_isGood_345
          exact hg
end MGOOD
