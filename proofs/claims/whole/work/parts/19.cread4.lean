/-! CarvedWeeks: soonest, belief, stand, lies, sale -/
theorem lg0 {a b : Nat} (ha : a < 9223372036854775808) (hb : b < 9223372036854775808) : lg_cmp (lN a) (lN b) = 0 ↔ a = b := by
  unfold lg_cmp
  by_cases h : lN b < lN a
  · rw [if_pos h]
    have := (pk_lLT hb ha).mp h
    exact ⟨fun z => absurd z (by decide), fun z => by omega⟩
  · rw [if_neg h]
    by_cases h2 : lN a = lN b
    · rw [if_pos h2]; exact ⟨fun _ => (pk_lEQ ha hb).mp h2, fun _ => rfl⟩
    · rw [if_neg h2]; exact ⟨fun z => absurd z (by decide), fun z => absurd (by rw [z]) h2⟩
theorem lN_nz {b : Nat} (h0 : 0 < b) (hb : b < 9223372036854775808) : ¬ lN b = 0 := fun e => by
  have := (pk_lEQ (b := 0) hb (by decide)).mp e
  omega
theorem rem_half {x y : Nat} (hy : 0 < y) (h : y ≤ x) : 2 * (x % y) < x := by
  have h1 := Nat.mod_lt x hy
  have h2 := Nat.div_add_mod x y
  have h3 : 1 ≤ x / y := (Nat.one_le_div_iff hy).mpr h
  have h4 : y * 1 ≤ y * (x / y) := Nat.mul_le_mul_left y h3
  omega
section CREAD4
variable {g : GC} {sg : SG} {I : IM} {A B : Nat} {x : XV} {tv : TV} {W : WV} {P K : SV}
theorem C_gcd {a b : Nat} (hab : b ≤ a) (ha : a < 4611686018427387904) : Fn m_X5_commonDivisor g [.long (lN a), .long (lN b)] sg I (some (.long (lN (Nat.gcd a b)))) sg I := by
  refine Ct.of rfl (Nat.le_of_ble_eq_true rfl) fun X => ?_
  show V X _ sg I 0 [some (.long (lN a)), none, some (.long (lN b)), none, none, none, none, none, none, none, none] []
  have loop : ∀ (k x y stp : Nat) (z : Option Value) (z2 : Option Value), okp z2 = true → y ≤ x → x < 4611686018427387904 → x * y < 2 ^ k → stp + k < 1000 → Nat.gcd x y = Nat.gcd a b →
      V X (ZQ X (fun r0 s0 I0 => r0 = some (.long (lN (Nat.gcd a b))) ∧ s0 = sg ∧ I0 = I)) sg I 9 [some (.long (lN a)), none, some (.long (lN b)), none, some (.long (lN x)), none, some (.long (lN y)), none, some (.int (nI stp)), z, z2] [] := by
    intro k
    induction k with
    | zero =>
      intro x y stp z z2 hz2 hyx hx hxy hs hg
      have hy : y = 0 := by
        rcases Nat.eq_zero_or_pos y with h | h
        · exact h
        · have : 1 * 1 ≤ x * y := Nat.mul_le_mul (by omega) h
          rw [Nat.pow_zero] at hxy; omega
      subst hy
      rw [Nat.gcd_zero_right] at hg
      subst hg
      have hl := (lg0 (a := 0) (b := 0) (by decide) (by decide)).mpr rfl
      refine V_iload rfl dX5_commonDivisor_9 ?_
      refine V_sipush (nI 1000) (by decide) dX5_commonDivisor_11 ?_
      refine V_icmp_geN 45 dX5_commonDivisor_14 (by decide) (by omega) (by omega) (fun h14 => absurd h14 (by omega)) (fun h14 => ?_)
      refine V_lload rfl dX5_commonDivisor_17 ?_
      refine V_lconst (lN 0) rfl dX5_commonDivisor_19 ?_
      refine V_lcmp dX5_commonDivisor_20 ?_
      refine V_if_eq 45 dX5_commonDivisor_21 (by decide) (fun h21 => ?_) (fun h21 => absurd h21 (by exact fun z => z hl))
      refine V_lload rfl dX5_commonDivisor_45 ?_
      refine V_lret rfl rfl rfl ?_ dX5_commonDivisor_47
      exact ⟨rfl, rfl, rfl⟩
    | succ k ih =>
      intro x y stp z z2 hz2 hyx hx hxy hs hg
      have hl := lg0 (a := y) (b := 0) (by omega) (by decide)
      by_cases hy : y = 0
      · subst hy
        rw [Nat.gcd_zero_right] at hg
        subst hg
        have hl2 := hl.mpr rfl
        refine V_iload rfl dX5_commonDivisor_9 ?_
        refine V_sipush (nI 1000) (by decide) dX5_commonDivisor_11 ?_
        refine V_icmp_geN 45 dX5_commonDivisor_14 (by decide) (by omega) (by omega) (fun h14 => absurd h14 (by omega)) (fun h14 => ?_)
        refine V_lload rfl dX5_commonDivisor_17 ?_
        refine V_lconst (lN 0) rfl dX5_commonDivisor_19 ?_
        refine V_lcmp dX5_commonDivisor_20 ?_
        refine V_if_eq 45 dX5_commonDivisor_21 (by decide) (fun h21 => ?_) (fun h21 => absurd h21 (by exact fun z => z hl2))
        refine V_lload rfl dX5_commonDivisor_45 ?_
        refine V_lret rfl rfl rfl ?_ dX5_commonDivisor_47
        exact ⟨rfl, rfl, rfl⟩
      · have hyp : 0 < y := by omega
        have hr := rem_half hyp hyx
        have hml := Nat.mod_lt x hyp
        have hpr : y * (x % y) < 2 ^ k := by
          have h1 : 2 * (y * (x % y)) ≤ y * x := by rw [Nat.mul_left_comm]; exact Nat.mul_le_mul_left y (by omega)
          rw [Nat.mul_comm y x, ] at h1
          rw [Nat.pow_succ] at hxy
          omega
        have hgg : Nat.gcd y (x % y) = Nat.gcd a b := by rw [← hg, Nat.gcd_comm x y, Nat.gcd_rec y x, Nat.gcd_comm]
        refine V_iload rfl dX5_commonDivisor_9 ?_
        refine V_sipush (nI 1000) (by decide) dX5_commonDivisor_11 ?_
        refine V_icmp_geN 45 dX5_commonDivisor_14 (by decide) (by omega) (by omega) (fun h14 => absurd h14 (by omega)) (fun h14 => ?_)
        refine V_lload rfl dX5_commonDivisor_17 ?_
        refine V_lconst (lN 0) rfl dX5_commonDivisor_19 ?_
        refine V_lcmp dX5_commonDivisor_20 ?_
        refine V_if_eq 45 dX5_commonDivisor_21 (by decide) (fun h21 => absurd h21 (by exact fun z => hy (hl.mp z))) (fun h21 => ?_)
        refine V_lload rfl dX5_commonDivisor_24 ?_
        refine V_lload rfl dX5_commonDivisor_26 ?_
        refine V_lrem (lN_nz hyp (by omega)) dX5_commonDivisor_28 ?_
        refine V_topl (pk_lRem (by omega) hyp (by omega)) ?_
        refine V_lst9 rfl rfl dX5_commonDivisor_29 ?_
        refine V_lload rfl dX5_commonDivisor_31 ?_
        refine V_lst4 rfl rfl dX5_commonDivisor_33 ?_
        refine V_lload rfl dX5_commonDivisor_35 ?_
        refine V_lst6 rfl rfl dX5_commonDivisor_37 ?_
        refine V_iinc8_ _ (nI_inc _) rfl rfl dX5_commonDivisor_39 ?_
        refine V_goto 9 dX5_commonDivisor_42 (by decide) ?_
        exact ih y (x % y) (stp + 1) _ _ rfl (by omega) (by omega) hpr (by omega) hgg
  have hp : a * b < 2 ^ 124 := by
    have h1 : a * b ≤ a * a := Nat.mul_le_mul_left a hab
    have h2 : a * a < 4611686018427387904 * 4611686018427387904 := Nat.mul_lt_mul'' ha ha
    rw [show (4611686018427387904 * 4611686018427387904 : Nat) = 2 ^ 124 by decide] at h2
    omega
  refine V_lload_n rfl dX5_commonDivisor_0 ?_
  refine V_lst4 rfl rfl dX5_commonDivisor_1 ?_
  refine V_lload_n rfl dX5_commonDivisor_3 ?_
  refine V_lst6 rfl rfl dX5_commonDivisor_4 ?_
  refine V_iconst (nI 0) (by decide) dX5_commonDivisor_6 ?_
  refine V_ist8 rfl rfl dX5_commonDivisor_7 ?_
  exact loop 124 a b 0 _ _ rfl hab ha hp (by decide) rfl
theorem X_soonest {s : Int32} (hC : CSt sg I A B x tv W P K) (hS : STok x tv W P K) : Fn m_X5_soonest g [rf g 0, .int s] sg I (some (.int (fSoonest tv W s))) sg I := by
  have hC0 := hC
  have hS0 := hS
  obtain ⟨hX0, hok, hnp, hns, ⟨hWok, hwk⟩, hPok, hKok⟩ := hS
  obtain ⟨⟨kc, c0, c1, c2, c3, c4, c5, c6, hAB, kt, u0, u1⟩, ⟨hXt, cX⟩, ⟨nn, hNt⟩, hPs, hKs, hW, hD, ⟨hT, hWl⟩, hB⟩ := hC
  have hmk := hWok.2.2.2.1
  have hn12 := hmk.1
  have hF1 := hok.1
  have hF8 := hok.2.1
  have h256 := p2_le8 hF8
  have h16 := p2_le16 hF8
  have hnw := nw_le hF8
  have hnw0 := nw_pos hWok
  have htr := hWok.1
  obtain ⟨⟨wk, w0, w1⟩, we2, we3, ⟨hM, cM⟩, hH, cH⟩ := id hW
  obtain ⟨⟨tk, t0, t1, t2, t3, t4⟩, tF5, tX6, ⟨hLt, cL⟩, ⟨hPt, cP⟩, ⟨hSt, cS⟩, ⟨hBt, cB⟩⟩ := id hT
  obtain ⟨hWt, cW⟩ := id hWl
  have kX := hXt.1
  have kM := hM.1
  have kH := hH.1
  have kL := hLt.1
  have kP := hPt.1
  have kS := hSt.1
  have kB := hBt.1
  have kW := hWt.1
  have nL10 := hLt.2.2.2.2.2.2.1
  have nP5 := hPt.2.2.2.2.2.2.1
  have nS5 := hSt.2.2.2.2.2.2.1
  have nB6 := hBt.2.2.2.2.2.2.1
  have kP0 := hPs.1.1
  have kK0 := hKs.1.1
  have hsb := set_bel (tv := tv) (s0 := s) hF8
  refine Ct.of rfl (Nat.le_of_ble_eq_true rfl) fun X => ?_
  show V X _ sg I 0 [some (rf g 0), some (.int s), none, none, none, none, none] []
  have hfin : ∀ j, j < 2 ^ tF tv → s = nI j → V X (ZQ X (fun r0 s0 I0 => r0 = some (.int (fSoonest tv W s)) ∧ s0 = sg ∧ I0 = I)) sg I 27 [some (rf g 0), some (.int s), some (.int (nI (pc16 (lstN tv W j)))), some (.int (nI 0)), some (.int (nI 1)), none, none] [] := by
    intro j hj es
    have hpj : pc16 (lstN tv W j) ≤ 8 := Nat.le_trans (pc_lt (lst_spec (W := W) hj).1 (by omega)) hF8
    obtain ⟨z0, hz0⟩ : ∃ z0, z0 = (pc16 (lstN tv W j), 0) := ⟨_, rfl⟩
    have hf : fSoonest tv W s = if 0 < (snC tv W 9 z0).1 then -4 else nI (snC tv W 9 z0).2 := by unfold fSoonest; rw [ifb_pos hj (by omega) es, hz0]
    rw [hf]
    have hS1 : ∀ c n z, (snS tv W c n z).1 ≤ z.1 := by
      intro c n z
      induction n with
      | zero => exact Nat.le_refl _
      | succ n ih => unfold snS; split; exact Nat.le_trans (Nat.sub_le _ _) ih; exact ih
    have hC1 : ∀ c, (snC tv W c z0).1 ≤ 8 := by
      intro c
      induction c with
      | zero => rw [hz0]; exact hpj
      | succ c ih => exact Nat.le_trans (hS1 _ _ _) ih
    have inner : ∀ (c : Nat), c < 9 → (∀ z1 z2, okp z1 = true → okp z2 = true → V X (ZQ X (fun r0 s0 I0 => r0 = some (.int (if 0 < (snC tv W 9 z0).1 then -4 else nI (snC tv W 9 z0).2)) ∧ s0 = sg ∧ I0 = I)) sg I 104 [some (rf g 0), some (.int s), some (.int (nI (snC tv W (c + 1) z0).1)), some (.int (nI (snC tv W (c + 1) z0).2)), some (.int (nI (c + 1))), z1, z2] []) →
        ∀ (d k : Nat) (z : Option Value), okp z = true → (tS tv).1 - k = d → k ≤ (tS tv).1 →
        V X (ZQ X (fun r0 s0 I0 => r0 = some (.int (if 0 < (snC tv W 9 z0).1 then -4 else nI (snC tv W 9 z0).2)) ∧ s0 = sg ∧ I0 = I)) sg I 37 [some (rf g 0), some (.int s), some (.int (nI (snS tv W (c + 1) k (snC tv W c z0)).1)), some (.int (nI (snS tv W (c + 1) k (snC tv W c z0)).2)), some (.int (nI (c + 1))), some (.int (nI k)), z] [] := by
      intro c hc hexit d
      induction d with
      | zero =>
        intro k z hz hd hkn
        have e : k = (tS tv).1 := by omega
        subst e
        refine V_iload rfl dX5_soonest_37 ?_
        refine V_aload_n rfl dX5_soonest_39 ?_
        refine gf_X5_41 (by assumption) (by assumption) rfl dX5_soonest_40 ?_
        refine gf_X5_90 (by assumption) (by assumption) rfl dX5_soonest_43 ?_
        refine cf_X5_84 (C_size hSt) (by assumption) rfl rfl ft0 (Nat.le_of_ble_eq_true rfl) dX5_soonest_46 ?_
        refine V_icmp_geN 104 dX5_soonest_49 (by decide) (by omega) (by omega) (fun h49 => ?_) (fun h49 => absurd h49 (by omega))
        exact hexit _ _ rfl hz
      | succ d ih =>
        intro k z hz hd hkn
        have hkl : k < (tS tv).1 := by omega
        have h8 := fun z hz => ih (k + 1) z hz (by omega) (by omega)
        have hle := Nat.le_trans (hS1 (c + 1) k (snC tv W c z0)) (hC1 c)
        have hhr : hrsN tv k ≤ 9 := by
          have := hok.2.2.2.2.2.1 k hkl
          unfold hrsN; split <;> omega
        have hfr : freeN tv W k ≤ 6 := Nat.le_trans (Nat.sub_le _ _) (hok.2.2.2.2.2.1 k hkl).2.1
        have hmin : min (snS tv W (c + 1) k (snC tv W c z0)).1 (freeN tv W k) ≤ (snS tv W (c + 1) k (snC tv W c z0)).1 := Nat.min_le_left _ _
        have e1 : snS tv W (c + 1) (k + 1) (snC tv W c z0) = if hrsN tv k = c + 1 then ((snS tv W (c + 1) k (snC tv W c z0)).1 - min (snS tv W (c + 1) k (snC tv W c z0)).1 (freeN tv W k), (snS tv W (c + 1) k (snC tv W c z0)).2 + min (snS tv W (c + 1) k (snC tv W c z0)).1 (freeN tv W k) * (c + 1)) else snS tv W (c + 1) k (snC tv W c z0) := rfl
        rw [e1] at h8
        refine V_iload rfl dX5_soonest_37 ?_
        refine V_aload_n rfl dX5_soonest_39 ?_
        refine gf_X5_41 (by assumption) (by assumption) rfl dX5_soonest_40 ?_
        refine gf_X5_90 (by assumption) (by assumption) rfl dX5_soonest_43 ?_
        refine cf_X5_84 (C_size hSt) (by assumption) rfl rfl ft0 (Nat.le_of_ble_eq_true rfl) dX5_soonest_46 ?_
        refine V_icmp_geN 104 dX5_soonest_49 (by decide) (by omega) (by omega) (fun h49 => absurd h49 (by omega)) (fun h49 => ?_)
        refine V_aload_n rfl dX5_soonest_52 ?_
        refine gf_X5_41 (by assumption) (by assumption) rfl dX5_soonest_53 ?_
        refine V_iload rfl dX5_soonest_56 ?_
        refine cf_X5_148 (C_hoursAt hT hok hkl) (by assumption) rfl rfl ft0 (Nat.le_of_ble_eq_true rfl) dX5_soonest_58 ?_
        refine V_iload rfl dX5_soonest_61 ?_
        refine V_icmp_neN 98 dX5_soonest_63 (by decide) (by omega) (by omega) (fun h63 => ?_) (fun h63 => ?_)
        · skip
          refine V_iinc5_ _ (nI_inc _) rfl rfl dX5_soonest_98 ?_
          refine V_goto 37 dX5_soonest_101 (by decide) ?_
          first
          | (rw [if_neg h63] at h8; exact h8 _ hz)
          | (rw [if_pos h63] at h8; exact h8 _ rfl)
        · skip
          refine V_iload_n rfl dX5_soonest_66 ?_
          refine V_aload_n rfl dX5_soonest_67 ?_
          refine gf_X5_31 (by assumption) (by assumption) rfl dX5_soonest_68 ?_
          refine V_aload_n rfl dX5_soonest_71 ?_
          refine gf_X5_41 (by assumption) (by assumption) rfl dX5_soonest_72 ?_
          refine V_iload rfl dX5_soonest_75 ?_
          refine cf_X5_118 (C_freeRoom hT hW hok hmk hkl) (by assumption) rfl rfl ft0 (Nat.le_of_ble_eq_true rfl) dX5_soonest_77 ?_
          refine V_minN wl_X5_222 ws_min wi_Math wc_min (by decide) (Nat.le_of_ble_eq_true rfl) fh0 (by omega) (by omega) dX5_soonest_80 ?_
          refine V_ist6 rfl rfl dX5_soonest_83 ?_
          refine V_iload_n rfl dX5_soonest_85 ?_
          refine V_iload rfl dX5_soonest_86 ?_
          refine V_isubN (by omega) dX5_soonest_88 ?_
          refine V_ist2 rfl rfl dX5_soonest_89 ?_
          refine V_iload_n rfl dX5_soonest_90 ?_
          refine V_iload rfl dX5_soonest_91 ?_
          refine V_iload rfl dX5_soonest_93 ?_
          refine V_imulN dX5_soonest_95 ?_
          refine V_iaddN dX5_soonest_96 ?_
          refine V_ist3 rfl rfl dX5_soonest_97 ?_
          refine V_iinc5_ _ (nI_inc _) rfl rfl dX5_soonest_98 ?_
          refine V_goto 37 dX5_soonest_101 (by decide) ?_
          first
          | (rw [if_neg h63] at h8; exact h8 _ hz)
          | (rw [if_pos h63] at h8; exact h8 _ rfl)
    have outer : ∀ (d c : Nat) (z z' : Option Value), okp z = true → okp z' = true → 9 - c = d → c ≤ 9 →
        V X (ZQ X (fun r0 s0 I0 => r0 = some (.int (if 0 < (snC tv W 9 z0).1 then -4 else nI (snC tv W 9 z0).2)) ∧ s0 = sg ∧ I0 = I)) sg I 27 [some (rf g 0), some (.int s), some (.int (nI (snC tv W c z0).1)), some (.int (nI (snC tv W c z0).2)), some (.int (nI (c + 1))), z, z'] [] := by
      intro d
      induction d with
      | zero =>
        intro c z z' hz hz' hd hc
        have e : c = 9 := by omega
        subst e
        have h9 := hC1 9
        refine V_iload rfl dX5_soonest_27 ?_
        refine V_bipush (nI 9) (by decide) dX5_soonest_29 ?_
        refine V_icmp_gtN 110 dX5_soonest_31 (by decide) (by omega) (by omega) (fun h31 => ?_) (fun h31 => absurd h31 (by omega))
        refine V_iload_n rfl dX5_soonest_110 ?_
        refine V_if_leN 119 dX5_soonest_111 (by decide) (by omega) (fun h111 => ?_) (fun h111 => ?_)
        · skip
          refine V_iload_n rfl dX5_soonest_119 ?_
          refine V_iret rfl rfl rfl ?_ dX5_soonest_120
          exact ⟨by first | rw [if_neg (by omega)] | rw [if_pos (by omega)], rfl, rfl⟩
        · skip
          refine V_bipush (-4) (by decide) dX5_soonest_114 ?_
          refine V_goto 120 dX5_soonest_116 (by decide) ?_
          refine V_iret rfl rfl rfl ?_ dX5_soonest_120
          exact ⟨by first | rw [if_neg (by omega)] | rw [if_pos (by omega)], rfl, rfl⟩
      | succ d ih =>
        intro c z z' hz hz' hd hc
        refine V_iload rfl dX5_soonest_27 ?_
        refine V_bipush (nI 9) (by decide) dX5_soonest_29 ?_
        refine V_icmp_gtN 110 dX5_soonest_31 (by decide) (by omega) (by omega) (fun h31 => absurd h31 (by omega)) (fun h31 => ?_)
        refine V_iconst (nI 0) (by decide) dX5_soonest_34 ?_
        refine V_ist5 rfl rfl dX5_soonest_35 ?_
        refine inner c (by omega) (fun z1 z2 hz1 hz2 => ?_) (tS tv).1 0 _ hz' (by omega) (by omega)
        refine V_iinc4_ _ (nI_inc _) rfl rfl dX5_soonest_104 ?_
        refine V_goto 27 dX5_soonest_107 (by decide) ?_
        exact ih (c + 1) _ _ hz1 hz2 (by omega) (by omega)
    rw [show pc16 (lstN tv W j) = (snC tv W 0 z0).1 by rw [hz0]; rfl]
    have h7 := outer 9 0 none none rfl rfl (by omega) (by omega)
    rw [show (snC tv W 0 z0).2 = 0 by rw [hz0]; rfl] at h7
    exact h7
  refine V_aload_n rfl dX5_soonest_0 ?_
  refine gf_X5_41 (by assumption) (by assumption) rfl dX5_soonest_1 ?_
  refine V_iload_n rfl dX5_soonest_4 ?_
  refine cf_X5_132 (C_isSet (tv := tv) tk tF5 hF8) (by assumption) rfl rfl ft0 (Nat.le_of_ble_eq_true rfl) dX5_soonest_5 ?_
  refine V_if_neB 13 dX5_soonest_8 (by decide) (fun h8 => ?_) (fun h8 => ?_)
  · skip
    obtain ⟨j, hj, rfl⟩ := bel_ex (by omega) (hsb.mp h8)
    refine V_aload_n rfl dX5_soonest_13 ?_
    refine V_iload_n rfl dX5_soonest_14 ?_
    refine cf_X5_219 (X_leastFor hC0 hS0 hj) (by assumption) rfl rfl ft0 (Nat.le_of_ble_eq_true rfl) dX5_soonest_15 ?_
    refine cf_X5_139 (C_bitCount (Nat.lt_of_lt_of_le (lst_spec (W := W) hj).1 (by omega))) rfl rfl ft0 (Nat.le_of_ble_eq_true rfl) dX5_soonest_18 ?_
    refine V_ist2 rfl rfl dX5_soonest_21 ?_
    refine V_iconst (nI 0) (by decide) dX5_soonest_22 ?_
    refine V_ist3 rfl rfl dX5_soonest_23 ?_
    refine V_iconst (nI 1) (by decide) dX5_soonest_24 ?_
    refine V_ist4 rfl rfl dX5_soonest_25 ?_
    exact hfin j hj rfl
  · skip
    refine V_iconst (-1) (by decide) dX5_soonest_11 ?_
    refine V_iret rfl rfl rfl ?_ dX5_soonest_12
    exact ⟨by unfold fSoonest; rw [ifb_neg (fun z => h8 (hsb.mpr z))], rfl, rfl⟩
theorem sm_le {f : Nat → Nat} {M : Nat} : ∀ {n : Nat}, (∀ i, i < n → f i ≤ M) → smN n f ≤ n * M
  | 0, _ => by simp [smN]
  | n + 1, h => by
    unfold smN
    have h1 := sm_le (n := n) (fun i hi => h i (by omega))
    have h2 := h n (by omega)
    rw [Nat.add_mul]; omega
theorem sm_mono {f e : Nat → Nat} : ∀ {n : Nat}, (∀ i, i < n → f i ≤ e i) → smN n f ≤ smN n e
  | 0, _ => Nat.le_refl _
  | n + 1, h => by
    unfold smN
    have h1 := sm_mono (n := n) (fun i hi => h i (by omega))
    have h2 := h n (by omega)
    omega
theorem smN_succ (n : Nat) (f : Nat → Nat) : smN (n + 1) f = smN n f + f n := rfl
theorem X_belief {f p : Int32} (hC : CSt sg I A B x tv W P K) (hS : STok x tv W P K) : Fn m_X5_belief g [rf g 0, .int f, .int p] sg I (some (.long (fBelief tv W f p))) sg I := by
  obtain ⟨hX0, hok, hnp, hns, ⟨hWok, hwk⟩, hPok, hKok⟩ := hS
  obtain ⟨⟨kc, c0, c1, c2, c3, c4, c5, c6, hAB, kt, u0, u1⟩, ⟨hXt, cX⟩, ⟨nn, hNt⟩, hPs, hKs, hW, hD, ⟨hT, hWl⟩, hB⟩ := hC
  have hmk := hWok.2.2.2.1
  have hn12 := hmk.1
  have hF1 := hok.1
  have hF8 := hok.2.1
  have h256 := p2_le8 hF8
  have h16 := p2_le16 hF8
  have hnw := nw_le hF8
  have hnw0 := nw_pos hWok
  have htr := hWok.1
  obtain ⟨⟨wk, w0, w1⟩, we2, we3, ⟨hM, cM⟩, hH, cH⟩ := id hW
  obtain ⟨⟨tk, t0, t1, t2, t3, t4⟩, tF5, tX6, ⟨hLt, cL⟩, ⟨hPt, cP⟩, ⟨hSt, cS⟩, ⟨hBt, cB⟩⟩ := id hT
  obtain ⟨hWt, cW⟩ := id hWl
  have kX := hXt.1
  have kM := hM.1
  have kH := hH.1
  have kL := hLt.1
  have kP := hPt.1
  have kS := hSt.1
  have kB := hBt.1
  have kW := hWt.1
  have nL10 := hLt.2.2.2.2.2.2.1
  have nP5 := hPt.2.2.2.2.2.2.1
  have nS5 := hSt.2.2.2.2.2.2.1
  have nB6 := hBt.2.2.2.2.2.2.1
  have kP0 := hPs.1.1
  have kK0 := hKs.1.1
  have hw12 : ∀ s, wtN tv W s (wM W).1 ≤ 1000000000000 := fun s => by
    have h1 := wtN_le (s := s) hok (fun m hm => (hmk.2.1 m hm).2.2.1) (Nat.le_refl (wM W).1)
    have h2 : 10 ^ (wM W).1 ≤ 10 ^ 12 := Nat.pow_le_pow_right (by decide) hn12
    have h3 : (10 : Nat) ^ 12 = 1000000000000 := by decide
    omega
  have hall : allN tv W ≤ 256000000000000 := by
    have h1 := sm_le (n := nw' tv) (f := fun i => wtN tv W (wl tv i) (wM W).1) (fun i _ => hw12 (wl tv i))
    unfold allN
    have h2 : nw' tv * 1000000000000 ≤ 256 * 1000000000000 := Nat.mul_le_mul_right _ hnw
    omega
  have hsos : ∀ f, sosN tv W f ≤ allN tv W := fun f => sm_mono (fun i _ => by split; exact Nat.le_refl _; exact Nat.zero_le _)
  refine Ct.of rfl (Nat.le_of_ble_eq_true rfl) fun X => ?_
  show V X _ sg I 0 [some (rf g 0), some (.int f), some (.int p), none, none, none, none, none, none, none, none] []
  have loop : ∀ (f0 p0 : Nat), f0 < tF tv → p0 < 2 → f = nI f0 → p = nI p0 → ∀ (d k : Nat) (z z2 z3 : Option Value), okp z = true → nw' tv - k = d → k ≤ nw' tv →
      V X (ZQ X (fun r0 s0 I0 => r0 = some (.long (fBelief tv W f p)) ∧ s0 = sg ∧ I0 = I)) sg I 32 [some (rf g 0), some (.int (nI f0)), some (.int (nI p0)), some (.long (lN (smN k (fun i => if (wl tv i).testBit f0 then wtN tv W (wl tv i) (wM W).1 else 0)))), none, some (.long (lN (smN k (fun i => wtN tv W (wl tv i) (wM W).1)))), none, some (.int (nI k)), z, z2, z3] [] := by
    intro f0 p0 hf0 hp0 ef ep d
    induction d with
    | zero =>
      intro k z z2 z3 hz hd hkn
      have e : k = nw' tv := by omega
      subst e
      have hs0 := hsos f0
      have hg1 : Nat.gcd (allN tv W) (sosN tv W f0) ≤ 256000000000000 ∨ allN tv W = 0 := by
        rcases Nat.eq_zero_or_pos (allN tv W) with h | h
        · exact Or.inr h
        · exact Or.inl (Nat.le_trans (Nat.gcd_le_left _ h) hall)
      have e1 : smN (nw' tv) (fun i => if (wl tv i).testBit f0 then wtN tv W (wl tv i) (wM W).1 else 0) = sosN tv W f0 := rfl
      have e2 : smN (nw' tv) (fun i => wtN tv W (wl tv i) (wM W).1) = allN tv W := rfl
      rw [e1, e2]
      have hff : fBelief tv W f p = if allN tv W = 0 then -4 else if p0 = 0 then lN (sosN tv W f0 / Nat.gcd (allN tv W) (sosN tv W f0)) else lN (allN tv W / Nat.gcd (allN tv W) (sosN tv W f0)) := by
        unfold fBelief; rw [ifb_pos hf0 (by omega) ef, ifb_pos hp0 (by decide) ep]
      rw [hff]
      by_cases h0 : allN tv W = 0
      · have hl := (lg0 (a := allN tv W) (b := 0) (by omega) (by decide)).mpr h0
        refine V_iload rfl dX5_belief_32 ?_
        refine V_aload_n rfl dX5_belief_34 ?_
        refine gf_X5_41 (by assumption) (by assumption) rfl dX5_belief_35 ?_
        refine gf_X5_102 (by assumption) (by assumption) rfl dX5_belief_38 ?_
        refine cf_X5_84 (C_size hWt) (by assumption) rfl rfl ft0 (Nat.le_of_ble_eq_true rfl) dX5_belief_41 ?_
        refine V_icmp_geN 106 dX5_belief_44 (by decide) (by omega) (by omega) (fun h44 => ?_) (fun h44 => absurd h44 (by omega))
        refine V_lload rfl dX5_belief_106 ?_
        refine V_lload_n rfl dX5_belief_108 ?_
        refine cf_X5_213 (C_gcd hs0 (by omega)) rfl rfl ft0 (Nat.le_of_ble_eq_true rfl) dX5_belief_109 ?_
        refine V_lst7 rfl rfl dX5_belief_112 ?_
        refine V_lload rfl dX5_belief_114 ?_
        refine V_lconst (lN 0) rfl dX5_belief_116 ?_
        refine V_lcmp dX5_belief_117 ?_
        refine V_if_eq 128 dX5_belief_118 (by decide) (fun h118 => ?_) (fun h118 => absurd h118 (by exact fun z => z hl))
        refine V_ldc2 RX5 _ rfl wk_X5_217 dX5_belief_128 ?_
        refine V_lret rfl rfl rfl ?_ dX5_belief_131
        exact ⟨by rw [if_pos h0], rfl, rfl⟩
      · have hl : ¬ lg_cmp (lN (allN tv W)) (lN 0) = 0 := fun z => h0 ((lg0 (by omega) (by decide)).mp z)
        have hgp : 0 < Nat.gcd (allN tv W) (sosN tv W f0) := Nat.gcd_pos_of_pos_left _ (by omega)
        have hgl : Nat.gcd (allN tv W) (sosN tv W f0) ≤ 256000000000000 := by omega
        have hl2 : ¬ lg_cmp (lN (Nat.gcd (allN tv W) (sosN tv W f0))) (lN 0) = 0 := fun z => by
          have := (lg0 (a := Nat.gcd (allN tv W) (sosN tv W f0)) (b := 0) (by omega) (by decide)).mp z
          omega
        refine V_iload rfl dX5_belief_32 ?_
        refine V_aload_n rfl dX5_belief_34 ?_
        refine gf_X5_41 (by assumption) (by assumption) rfl dX5_belief_35 ?_
        refine gf_X5_102 (by assumption) (by assumption) rfl dX5_belief_38 ?_
        refine cf_X5_84 (C_size hWt) (by assumption) rfl rfl ft0 (Nat.le_of_ble_eq_true rfl) dX5_belief_41 ?_
        refine V_icmp_geN 106 dX5_belief_44 (by decide) (by omega) (by omega) (fun h44 => ?_) (fun h44 => absurd h44 (by omega))
        refine V_lload rfl dX5_belief_106 ?_
        refine V_lload_n rfl dX5_belief_108 ?_
        refine cf_X5_213 (C_gcd hs0 (by omega)) rfl rfl ft0 (Nat.le_of_ble_eq_true rfl) dX5_belief_109 ?_
        refine V_lst7 rfl rfl dX5_belief_112 ?_
        refine V_lload rfl dX5_belief_114 ?_
        refine V_lconst (lN 0) rfl dX5_belief_116 ?_
        refine V_lcmp dX5_belief_117 ?_
        refine V_if_eq 128 dX5_belief_118 (by decide) (fun h118 => absurd h118 (by exact fun z => hl z)) (fun h118 => ?_)
        refine V_lload rfl dX5_belief_121 ?_
        refine V_lconst (lN 0) rfl dX5_belief_123 ?_
        refine V_lcmp dX5_belief_124 ?_
        refine V_if_ne 132 dX5_belief_125 (by decide) (fun h125 => ?_) (fun h125 => absurd h125 (by exact fun z => hl2 z))
        refine V_iload_n rfl dX5_belief_132 ?_
        refine V_if_neN 143 dX5_belief_133 (by decide) (by omega) (fun h133 => ?_) (fun h133 => ?_)
        · skip
          refine V_lload rfl dX5_belief_143 ?_
          refine V_lload rfl dX5_belief_145 ?_
          refine V_ldiv (lN_nz hgp (by omega)) dX5_belief_147 ?_
          refine V_topl (pk_lDiv (by omega) hgp (by omega)) ?_
          refine V_lret rfl rfl rfl ?_ dX5_belief_148
          exact ⟨by rw [if_neg h0]; first | rw [if_pos h133] | rw [if_neg h133], rfl, rfl⟩
        · skip
          refine V_lload_n rfl dX5_belief_136 ?_
          refine V_lload rfl dX5_belief_137 ?_
          refine V_ldiv (lN_nz hgp (by omega)) dX5_belief_139 ?_
          refine V_topl (pk_lDiv (by omega) hgp (by omega)) ?_
          refine V_goto 148 dX5_belief_140 (by decide) ?_
          refine V_lret rfl rfl rfl ?_ dX5_belief_148
          exact ⟨by rw [if_neg h0]; first | rw [if_pos h133] | rw [if_neg h133], rfl, rfl⟩
    | succ d ih =>
      intro k z z2 z3 hz hd hkn
      have hkl : k < nw' tv := by omega
      obtain ⟨e0, -⟩ := cW k hkl
      have hwlt := (wl_mem hkl).1
      have hev := so_even f0 (wl tv k)
      have h8 := fun z z2 z3 hz => ih (k + 1) z z2 z3 hz (by omega) (by omega)
      rw [smN_succ, smN_succ] at h8
      refine V_iload rfl dX5_belief_32 ?_
      refine V_aload_n rfl dX5_belief_34 ?_
      refine gf_X5_41 (by assumption) (by assumption) rfl dX5_belief_35 ?_
      refine gf_X5_102 (by assumption) (by assumption) rfl dX5_belief_38 ?_
      refine cf_X5_84 (C_size hWt) (by assumption) rfl rfl ft0 (Nat.le_of_ble_eq_true rfl) dX5_belief_41 ?_
      refine V_icmp_geN 106 dX5_belief_44 (by decide) (by omega) (by omega) (fun h44 => absurd h44 (by omega)) (fun h44 => ?_)
      refine V_aload_n rfl dX5_belief_47 ?_
      refine gf_X5_41 (by assumption) (by assumption) rfl dX5_belief_48 ?_
      refine gf_X5_102 (by assumption) (by assumption) rfl dX5_belief_51 ?_
      refine V_iload rfl dX5_belief_54 ?_
      refine V_iconst (nI 0) (by decide) dX5_belief_56 ?_
      refine cf_X5_111 (C_get (c := 0) hWt (by omega) (by decide)) (by assumption) rfl rfl ft0 (Nat.le_of_ble_eq_true rfl) dX5_belief_57 ?_
      rw [if_pos hkl, e0]
      refine V_ist8 rfl rfl dX5_belief_60 ?_
      refine V_aload_n rfl dX5_belief_62 ?_
      refine gf_X5_31 (by assumption) (by assumption) rfl dX5_belief_63 ?_
      refine V_aload_n rfl dX5_belief_66 ?_
      refine gf_X5_41 (by assumption) (by assumption) rfl dX5_belief_67 ?_
      refine V_iload rfl dX5_belief_70 ?_
      refine cf_X5_209 (C_weightOf hT hW hok hmk (by omega)) (by assumption) rfl rfl ft0 (Nat.le_of_ble_eq_true rfl) dX5_belief_72 ?_
      refine V_lst9 rfl rfl dX5_belief_75 ?_
      refine V_lload rfl dX5_belief_77 ?_
      refine V_lload rfl dX5_belief_79 ?_
      refine V_ladd dX5_belief_81 ?_
      rw [lN_add]
      refine V_lst5 rfl rfl dX5_belief_82 ?_
      refine V_iconst (nI 2) (by decide) dX5_belief_84 ?_
      refine V_iload_n rfl dX5_belief_85 ?_
      refine V_imulN dX5_belief_86 ?_
      refine V_iload rfl dX5_belief_87 ?_
      refine cf_X5_128 (C_isSo (by omega) (by omega)) rfl rfl ft0 (Nat.le_of_ble_eq_true rfl) dX5_belief_89 ?_
      refine V_if_eqB 100 dX5_belief_92 (by decide) (fun h92 => ?_) (fun h92 => ?_)
      · skip
        first | rw [hev] at h92 | skip
        refine V_iinc7_ _ (nI_inc _) rfl rfl dX5_belief_100 ?_
        refine V_goto 32 dX5_belief_103 (by decide) ?_
        first
        | (rw [if_neg h92, Nat.add_zero] at h8; exact h8 _ _ _ rfl)
        | (rw [if_pos h92] at h8; exact h8 _ _ _ rfl)
      · skip
        rw [hev] at h92
        refine V_lload_n rfl dX5_belief_95 ?_
        refine V_lload rfl dX5_belief_96 ?_
        refine V_ladd dX5_belief_98 ?_
        rw [lN_add]
        refine V_lst3 rfl rfl dX5_belief_99 ?_
        first | rw [hev] at h92 | skip
        refine V_iinc7_ _ (nI_inc _) rfl rfl dX5_belief_100 ?_
        refine V_goto 32 dX5_belief_103 (by decide) ?_
        first
        | (rw [if_neg h92, Nat.add_zero] at h8; exact h8 _ _ _ rfl)
        | (rw [if_pos h92] at h8; exact h8 _ _ _ rfl)
  refine V_aload_n rfl dX5_belief_0 ?_
  refine gf_X5_41 (by assumption) (by assumption) rfl dX5_belief_1 ?_
  refine V_iload_n rfl dX5_belief_4 ?_
  refine cf_X5_145 (C_isFact (tv := tv) tk tF5) (by assumption) rfl rfl ft0 (Nat.le_of_ble_eq_true rfl) dX5_belief_5 ?_
  refine V_if_eqB 20 dX5_belief_8 (by decide) (fun h8 => ?_) (fun h8 => ?_)
  · skip
    refine V_ldc2 RX5 _ rfl wk_X5_207 dX5_belief_20 ?_
    refine V_lret rfl rfl rfl ?_ dX5_belief_23
    refine ⟨?_, rfl, rfl⟩
    unfold fBelief
    first
    | rw [ifb_neg h8]
    | rw [ifb_pos hf0 (by omega) rfl, ifb_lt0 h12]
    | rw [ifb_pos hf0 (by omega) rfl, ifb_big hp0 (by decide) (by omega)]
  · skip
    obtain ⟨f0, hf0, rfl⟩ := bel_ex (by omega) h8
    refine V_iload_n rfl dX5_belief_11 ?_
    refine V_if_lt 20 dX5_belief_12 (by decide) (fun h12 => ?_) (fun h12 => ?_)
    · skip
      refine V_ldc2 RX5 _ rfl wk_X5_207 dX5_belief_20 ?_
      refine V_lret rfl rfl rfl ?_ dX5_belief_23
      refine ⟨?_, rfl, rfl⟩
      unfold fBelief
      first
      | rw [ifb_neg h8]
      | rw [ifb_pos hf0 (by omega) rfl, ifb_lt0 h12]
      | rw [ifb_pos hf0 (by omega) rfl, ifb_big hp0 (by decide) (by omega)]
    · skip
      obtain ⟨p0, hp0, rfl⟩ := nn_ex h12
      refine V_iload_n rfl dX5_belief_15 ?_
      refine V_iconst (nI 1) (by decide) dX5_belief_16 ?_
      refine V_icmp_leN 24 dX5_belief_17 (by decide) (by omega) (by omega) (fun h17 => ?_) (fun h17 => ?_)
      · skip
        refine V_lconst (lN 0) rfl dX5_belief_24 ?_
        refine V_lst3 rfl rfl dX5_belief_25 ?_
        refine V_lconst (lN 0) rfl dX5_belief_26 ?_
        refine V_lst5 rfl rfl dX5_belief_27 ?_
        refine V_iconst (nI 0) (by decide) dX5_belief_29 ?_
        refine V_ist7 rfl rfl dX5_belief_30 ?_
        exact loop f0 p0 hf0 (by omega) rfl rfl (nw' tv) 0 _ _ _ rfl (by omega) (by omega)
      · skip
        refine V_ldc2 RX5 _ rfl wk_X5_207 dX5_belief_20 ?_
        refine V_lret rfl rfl rfl ?_ dX5_belief_23
        refine ⟨?_, rfl, rfl⟩
        unfold fBelief
        first
        | rw [ifb_neg h8]
        | rw [ifb_pos hf0 (by omega) rfl, ifb_lt0 h12]
        | rw [ifb_pos hf0 (by omega) rfl, ifb_big hp0 (by decide) (by omega)]
theorem X_stoodBefore {s k : Nat} (hC : CSt sg I A B x tv W P K) (hS : STok x tv W P K) (hk : k < nw' tv) (hs : s < 65536) : Fn m_X5_stoodBefore g [rf g 0, .int (nI s), .int (nI k)] sg I (some (.int (bI (anyB k (fun i => decide (msN W (wl tv i) = s)) = true)))) sg I := by
  obtain ⟨hX0, hok, hnp, hns, ⟨hWok, hwk⟩, hPok, hKok⟩ := hS
  obtain ⟨⟨kc, c0, c1, c2, c3, c4, c5, c6, hAB, kt, u0, u1⟩, ⟨hXt, cX⟩, ⟨nn, hNt⟩, hPs, hKs, hW, hD, ⟨hT, hWl⟩, hB⟩ := hC
  have hmk := hWok.2.2.2.1
  have hn12 := hmk.1
  have hF1 := hok.1
  have hF8 := hok.2.1
  have h256 := p2_le8 hF8
  have h16 := p2_le16 hF8
  have hnw := nw_le hF8
  have hnw0 := nw_pos hWok
  have htr := hWok.1
  obtain ⟨⟨wk, w0, w1⟩, we2, we3, ⟨hM, cM⟩, hH, cH⟩ := id hW
  obtain ⟨⟨tk, t0, t1, t2, t3, t4⟩, tF5, tX6, ⟨hLt, cL⟩, ⟨hPt, cP⟩, ⟨hSt, cS⟩, ⟨hBt, cB⟩⟩ := id hT
  obtain ⟨hWt, cW⟩ := id hWl
  have kX := hXt.1
  have kM := hM.1
  have kH := hH.1
  have kL := hLt.1
  have kP := hPt.1
  have kS := hSt.1
  have kB := hBt.1
  have kW := hWt.1
  have nL10 := hLt.2.2.2.2.2.2.1
  have nP5 := hPt.2.2.2.2.2.2.1
  have nS5 := hSt.2.2.2.2.2.2.1
  have nB6 := hBt.2.2.2.2.2.2.1
  have kP0 := hPs.1.1
  have kK0 := hKs.1.1
  refine Ct.of rfl (Nat.le_of_ble_eq_true rfl) fun X => ?_
  show V X _ sg I 0 [some (rf g 0), some (.int (nI s)), some (.int (nI k)), none] []
  have loop : ∀ (d j : Nat), k - j = d → j ≤ k → (∀ i, i < j → decide (msN W (wl tv i) = s) = false) →
      V X (ZQ X (fun r0 s0 I0 => r0 = some (.int (bI (anyB k (fun i => decide (msN W (wl tv i) = s)) = true))) ∧ s0 = sg ∧ I0 = I)) sg I 2 [some (rf g 0), some (.int (nI s)), some (.int (nI k)), some (.int (nI j))] [] := by
    intro d
    induction d with
    | zero =>
      intro j hd hj hall
      have e : j = k := by omega
      subst e
      refine V_iload_n rfl dX5_stoodBefore_2 ?_
      refine V_iload_n rfl dX5_stoodBefore_3 ?_
      refine V_icmp_geN 38 dX5_stoodBefore_4 (by decide) (by omega) (by omega) (fun h4 => ?_) (fun h4 => absurd h4 (by omega))
      refine V_iconst (nI 0) (by decide) dX5_stoodBefore_38 ?_
      refine V_zret rfl (rfl) rfl rfl ?_ dX5_stoodBefore_39
      exact ⟨by rw [bI_f (fun z => by obtain ⟨i, a, b⟩ := anyB_iff.mp z; rw [hall i a] at b; cases b)], rfl, rfl⟩
    | succ d ih =>
      intro j hd hj hall
      have hjl : j < nw' tv := by omega
      obtain ⟨e0, -⟩ := cW j hjl
      have hwlt := (wl_mem hjl).1
      have hms : msN W (wl tv j) < 65536 := bm_16 (by omega)
      refine V_iload_n rfl dX5_stoodBefore_2 ?_
      refine V_iload_n rfl dX5_stoodBefore_3 ?_
      refine V_icmp_geN 38 dX5_stoodBefore_4 (by decide) (by omega) (by omega) (fun h4 => absurd h4 (by omega)) (fun h4 => ?_)
      refine V_aload_n rfl dX5_stoodBefore_7 ?_
      refine gf_X5_31 (by assumption) (by assumption) rfl dX5_stoodBefore_8 ?_
      refine V_aload_n rfl dX5_stoodBefore_11 ?_
      refine gf_X5_41 (by assumption) (by assumption) rfl dX5_stoodBefore_12 ?_
      refine gf_X5_102 (by assumption) (by assumption) rfl dX5_stoodBefore_15 ?_
      refine V_iload_n rfl dX5_stoodBefore_18 ?_
      refine V_iconst (nI 0) (by decide) dX5_stoodBefore_19 ?_
      refine cf_X5_111 (C_get (c := 0) hWt (by omega) (by decide)) (by assumption) rfl rfl ft0 (Nat.le_of_ble_eq_true rfl) dX5_stoodBefore_20 ?_
      rw [if_pos hjl, e0]
      refine cf_X5_237 (C_marksSoIn hW hmk hF8 (by omega)) (by assumption) rfl rfl ft0 (Nat.le_of_ble_eq_true rfl) dX5_stoodBefore_23 ?_
      refine V_iload_n rfl dX5_stoodBefore_26 ?_
      refine V_icmp_neN 32 dX5_stoodBefore_27 (by decide) (by omega) (by omega) (fun h27 => ?_) (fun h27 => ?_)
      · skip
        refine V_iinc3_ _ (nI_inc _) rfl rfl dX5_stoodBefore_32 ?_
        refine V_goto 2 dX5_stoodBefore_35 (by decide) ?_
        refine ih (j + 1) (by omega) (by omega) (fun i hi => ?_)
        by_cases e : i = j
        · subst e; exact decide_eq_false h27
        · exact hall i (by omega)
      · skip
        refine V_iconst (nI 1) (by decide) dX5_stoodBefore_30 ?_
        refine V_zret rfl (rfl) rfl rfl ?_ dX5_stoodBefore_31
        exact ⟨by rw [bI_t (anyB_iff.mpr ⟨j, by omega, decide_eq_true h27⟩)], rfl, rfl⟩
  refine V_iconst (nI 0) (by decide) dX5_stoodBefore_0 ?_
  refine V_ist3 rfl rfl dX5_stoodBefore_1 ?_
  exact loop k 0 (by omega) (by omega) (fun i hi => absurd hi (Nat.not_lt_zero i))
theorem X_standingSets {m : Nat} (hC : CSt sg I A B x tv W P K) (hS : STok x tv W P K) (hm : m < 65536) : Fn m_X5_standingSets g [rf g 0, .int (nI m)] sg I (some (.int (nI (stsN tv W m)))) sg I := by
  have hC0 := hC
  have hS0 := hS
  obtain ⟨hX0, hok, hnp, hns, ⟨hWok, hwk⟩, hPok, hKok⟩ := hS
  obtain ⟨⟨kc, c0, c1, c2, c3, c4, c5, c6, hAB, kt, u0, u1⟩, ⟨hXt, cX⟩, ⟨nn, hNt⟩, hPs, hKs, hW, hD, ⟨hT, hWl⟩, hB⟩ := hC
  have hmk := hWok.2.2.2.1
  have hn12 := hmk.1
  have hF1 := hok.1
  have hF8 := hok.2.1
  have h256 := p2_le8 hF8
  have h16 := p2_le16 hF8
  have hnw := nw_le hF8
  have hnw0 := nw_pos hWok
  have htr := hWok.1
  obtain ⟨⟨wk, w0, w1⟩, we2, we3, ⟨hM, cM⟩, hH, cH⟩ := id hW
  obtain ⟨⟨tk, t0, t1, t2, t3, t4⟩, tF5, tX6, ⟨hLt, cL⟩, ⟨hPt, cP⟩, ⟨hSt, cS⟩, ⟨hBt, cB⟩⟩ := id hT
  obtain ⟨hWt, cW⟩ := id hWl
  have kX := hXt.1
  have kM := hM.1
  have kH := hH.1
  have kL := hLt.1
  have kP := hPt.1
  have kS := hSt.1
  have kB := hBt.1
  have kW := hWt.1
  have nL10 := hLt.2.2.2.2.2.2.1
  have nP5 := hPt.2.2.2.2.2.2.1
  have nS5 := hSt.2.2.2.2.2.2.1
  have nB6 := hBt.2.2.2.2.2.2.1
  have kP0 := hPs.1.1
  have kK0 := hKs.1.1
  refine Ct.of rfl (Nat.le_of_ble_eq_true rfl) fun X => ?_
  show V X _ sg I 0 [some (rf g 0), some (.int (nI m)), none, none, none] []
  have loop : ∀ (d k : Nat) (z : Option Value), okp z = true → nw' tv - k = d → k ≤ nw' tv →
      V X (ZQ X (fun r0 s0 I0 => r0 = some (.int (nI (stsN tv W m))) ∧ s0 = sg ∧ I0 = I)) sg I 4 [some (rf g 0), some (.int (nI m)), some (.int (nI (cnt k (fun k => decide (pc16 (msN W (wl tv k)) = m) && !anyB k (fun i => decide (msN W (wl tv i) = msN W (wl tv k))))))), some (.int (nI k)), z] [] := by
    intro d
    induction d with
    | zero =>
      intro k z hz hd hkn
      have e : k = nw' tv := by omega
      subst e
      refine V_iload_n rfl dX5_standingSets_4 ?_
      refine V_aload_n rfl dX5_standingSets_5 ?_
      refine gf_X5_41 (by assumption) (by assumption) rfl dX5_standingSets_6 ?_
      refine gf_X5_102 (by assumption) (by assumption) rfl dX5_standingSets_9 ?_
      refine cf_X5_84 (C_size hWt) (by assumption) rfl rfl ft0 (Nat.le_of_ble_eq_true rfl) dX5_standingSets_12 ?_
      refine V_icmp_geN 67 dX5_standingSets_15 (by decide) (by omega) (by omega) (fun h15 => ?_) (fun h15 => absurd h15 (by omega))
      refine V_iload_n rfl dX5_standingSets_67 ?_
      refine V_iret rfl rfl rfl ?_ dX5_standingSets_68
      exact ⟨rfl, rfl, rfl⟩
    | succ d ih =>
      intro k z hz hd hkn
      have hkl : k < nw' tv := by omega
      obtain ⟨e0, -⟩ := cW k hkl
      have hwlt := (wl_mem hkl).1
      have hms : msN W (wl tv k) < 65536 := bm_16 (by omega)
      have hpl : pc16 (msN W (wl tv k)) ≤ 16 := pcN_le 16 _
      have h8 := fun z hz => ih (k + 1) z hz (by omega) (by omega)
      rw [cnt_succ] at h8
      refine V_iload_n rfl dX5_standingSets_4 ?_
      refine V_aload_n rfl dX5_standingSets_5 ?_
      refine gf_X5_41 (by assumption) (by assumption) rfl dX5_standingSets_6 ?_
      refine gf_X5_102 (by assumption) (by assumption) rfl dX5_standingSets_9 ?_
      refine cf_X5_84 (C_size hWt) (by assumption) rfl rfl ft0 (Nat.le_of_ble_eq_true rfl) dX5_standingSets_12 ?_
      refine V_icmp_geN 67 dX5_standingSets_15 (by decide) (by omega) (by omega) (fun h15 => absurd h15 (by omega)) (fun h15 => ?_)
      refine V_aload_n rfl dX5_standingSets_18 ?_
      refine gf_X5_31 (by assumption) (by assumption) rfl dX5_standingSets_19 ?_
      refine V_aload_n rfl dX5_standingSets_22 ?_
      refine gf_X5_41 (by assumption) (by assumption) rfl dX5_standingSets_23 ?_
      refine gf_X5_102 (by assumption) (by assumption) rfl dX5_standingSets_26 ?_
      refine V_iload_n rfl dX5_standingSets_29 ?_
      refine V_iconst (nI 0) (by decide) dX5_standingSets_30 ?_
      refine cf_X5_111 (C_get (c := 0) hWt (by omega) (by decide)) (by assumption) rfl rfl ft0 (Nat.le_of_ble_eq_true rfl) dX5_standingSets_31 ?_
      rw [if_pos hkl, e0]
      refine cf_X5_237 (C_marksSoIn hW hmk hF8 (by omega)) (by assumption) rfl rfl ft0 (Nat.le_of_ble_eq_true rfl) dX5_standingSets_34 ?_
      refine V_ist4 rfl rfl dX5_standingSets_37 ?_
      refine V_iload rfl dX5_standingSets_39 ?_
      refine cf_X5_139 (C_bitCount hms) rfl rfl ft0 (Nat.le_of_ble_eq_true rfl) dX5_standingSets_41 ?_
      refine V_iload_n rfl dX5_standingSets_44 ?_
      refine V_icmp_neN 61 dX5_standingSets_45 (by decide) (by omega) (by omega) (fun h45 => ?_) (fun h45 => ?_)
      · skip
        refine V_iinc3_ _ (nI_inc _) rfl rfl dX5_standingSets_61 ?_
        refine V_goto 4 dX5_standingSets_64 (by decide) ?_
        first
        | (rw [if_neg (by rw [decide_eq_false h45, Bool.false_and]; decide), Nat.add_zero] at h8; exact h8 _ rfl)
        | (rw [if_neg (by rw [h55]; simp), Nat.add_zero] at h8; exact h8 _ rfl)
        | (rw [if_pos (by rw [decide_eq_true h45, Bool.true_and, Bool.not_eq_true', ← Bool.not_eq_true]; exact h55)] at h8; exact h8 _ rfl)
      · skip
        refine V_aload_n rfl dX5_standingSets_48 ?_
        refine V_iload rfl dX5_standingSets_49 ?_
        refine V_iload_n rfl dX5_standingSets_51 ?_
        refine cf_X5_284 (X_stoodBefore hC0 hS0 hkl hms) (by assumption) rfl rfl ft0 (Nat.le_of_ble_eq_true rfl) dX5_standingSets_52 ?_
        refine V_if_neB 61 dX5_standingSets_55 (by decide) (fun h55 => ?_) (fun h55 => ?_)
        · skip
          refine V_iinc3_ _ (nI_inc _) rfl rfl dX5_standingSets_61 ?_
          refine V_goto 4 dX5_standingSets_64 (by decide) ?_
          first
          | (rw [if_neg (by rw [decide_eq_false h45, Bool.false_and]; decide), Nat.add_zero] at h8; exact h8 _ rfl)
          | (rw [if_neg (by rw [h55]; simp), Nat.add_zero] at h8; exact h8 _ rfl)
          | (rw [if_pos (by rw [decide_eq_true h45, Bool.true_and, Bool.not_eq_true', ← Bool.not_eq_true]; exact h55)] at h8; exact h8 _ rfl)
        · skip
          refine V_iinc2_ _ (nI_inc _) rfl rfl dX5_standingSets_58 ?_
          refine V_iinc3_ _ (nI_inc _) rfl rfl dX5_standingSets_61 ?_
          refine V_goto 4 dX5_standingSets_64 (by decide) ?_
          first
          | (rw [if_neg (by rw [decide_eq_false h45, Bool.false_and]; decide), Nat.add_zero] at h8; exact h8 _ rfl)
          | (rw [if_neg (by rw [h55]; simp), Nat.add_zero] at h8; exact h8 _ rfl)
          | (rw [if_pos (by rw [decide_eq_true h45, Bool.true_and, Bool.not_eq_true', ← Bool.not_eq_true]; exact h55)] at h8; exact h8 _ rfl)
  refine V_iconst (nI 0) (by decide) dX5_standingSets_0 ?_
  refine V_ist2 rfl rfl dX5_standingSets_1 ?_
  refine V_iconst (nI 0) (by decide) dX5_standingSets_2 ?_
  refine V_ist3 rfl rfl dX5_standingSets_3 ?_
  exact loop (nw' tv) 0 _ rfl (by omega) (by omega)
theorem mst_le {k : Nat} : mstN tv W k ≤ 16 := by
  induction k with
  | zero => exact Nat.zero_le _
  | succ k ih => exact Nat.max_le.mpr ⟨ih, pcN_le 16 _⟩
theorem X_stand {w : Int32} (hC : CSt sg I A B x tv W P K) (hS : STok x tv W P K) : Fn m_X5_stand g [rf g 0, .int w] sg I (some (.int (fStand tv W w))) sg I := by
  have hC0 := hC
  have hS0 := hS
  obtain ⟨hX0, hok, hnp, hns, ⟨hWok, hwk⟩, hPok, hKok⟩ := hS
  obtain ⟨⟨kc, c0, c1, c2, c3, c4, c5, c6, hAB, kt, u0, u1⟩, ⟨hXt, cX⟩, ⟨nn, hNt⟩, hPs, hKs, hW, hD, ⟨hT, hWl⟩, hB⟩ := hC
  have hmk := hWok.2.2.2.1
  have hn12 := hmk.1
  have hF1 := hok.1
  have hF8 := hok.2.1
  have h256 := p2_le8 hF8
  have h16 := p2_le16 hF8
  have hnw := nw_le hF8
  have hnw0 := nw_pos hWok
  have htr := hWok.1
  obtain ⟨⟨wk, w0, w1⟩, we2, we3, ⟨hM, cM⟩, hH, cH⟩ := id hW
  obtain ⟨⟨tk, t0, t1, t2, t3, t4⟩, tF5, tX6, ⟨hLt, cL⟩, ⟨hPt, cP⟩, ⟨hSt, cS⟩, ⟨hBt, cB⟩⟩ := id hT
  obtain ⟨hWt, cW⟩ := id hWl
  have kX := hXt.1
  have kM := hM.1
  have kH := hH.1
  have kL := hLt.1
  have kP := hPt.1
  have kS := hSt.1
  have kB := hBt.1
  have kW := hWt.1
  have nL10 := hLt.2.2.2.2.2.2.1
  have nP5 := hPt.2.2.2.2.2.2.1
  have nS5 := hSt.2.2.2.2.2.2.1
  have nB6 := hBt.2.2.2.2.2.2.1
  have kP0 := hPs.1.1
  have kK0 := hKs.1.1
  refine Ct.of rfl (Nat.le_of_ble_eq_true rfl) fun X => ?_
  show V X _ sg I 0 [some (rf g 0), some (.int w), none, none] []
  have loop : ∀ (q : Nat), q < 2 → w = nI q → ∀ (d k : Nat), nw' tv - k = d → k ≤ nw' tv →
      V X (ZQ X (fun r0 s0 I0 => r0 = some (.int (fStand tv W w)) ∧ s0 = sg ∧ I0 = I)) sg I 15 [some (rf g 0), some (.int (nI q)), some (.int (nI (mstN tv W k))), some (.int (nI k))] [] := by
    intro q hq eq d
    induction d with
    | zero =>
      intro k hd hkn
      have e : k = nw' tv := by omega
      subst e
      have hml := mst_le (tv := tv) (W := W) (k := nw' tv)
      have hff : fStand tv W w = if q = 0 then nI (mstN tv W (nw' tv)) else nI (stsN tv W (mstN tv W (nw' tv))) := by unfold fStand; rw [ifb_pos hq (by decide) eq]
      rw [hff]
      refine V_iload_n rfl dX5_stand_15 ?_
      refine V_aload_n rfl dX5_stand_16 ?_
      refine gf_X5_41 (by assumption) (by assumption) rfl dX5_stand_17 ?_
      refine gf_X5_102 (by assumption) (by assumption) rfl dX5_stand_20 ?_
      refine cf_X5_84 (C_size hWt) (by assumption) rfl rfl ft0 (Nat.le_of_ble_eq_true rfl) dX5_stand_23 ?_
      refine V_icmp_geN 62 dX5_stand_26 (by decide) (by omega) (by omega) (fun h26 => ?_) (fun h26 => absurd h26 (by omega))
      refine V_iload_n rfl dX5_stand_62 ?_
      refine V_if_neN 70 dX5_stand_63 (by decide) (by omega) (fun h63 => ?_) (fun h63 => ?_)
      · skip
        refine V_aload_n rfl dX5_stand_70 ?_
        refine V_iload_n rfl dX5_stand_71 ?_
        refine cf_X5_243 (X_standingSets hC0 hS0 (by omega)) (by assumption) rfl rfl ft0 (Nat.le_of_ble_eq_true rfl) dX5_stand_72 ?_
        refine V_iret rfl rfl rfl ?_ dX5_stand_75
        exact ⟨by first | rw [if_pos h63] | rw [if_neg h63], rfl, rfl⟩
      · skip
        refine V_iload_n rfl dX5_stand_66 ?_
        refine V_goto 75 dX5_stand_67 (by decide) ?_
        refine V_iret rfl rfl rfl ?_ dX5_stand_75
        exact ⟨by first | rw [if_pos h63] | rw [if_neg h63], rfl, rfl⟩
    | succ d ih =>
      intro k hd hkn
      have hkl : k < nw' tv := by omega
      obtain ⟨e0, -⟩ := cW k hkl
      have hwlt := (wl_mem hkl).1
      have hms : msN W (wl tv k) < 65536 := bm_16 (by omega)
      have hpl : pc16 (msN W (wl tv k)) ≤ 16 := pcN_le 16 _
      have hml := mst_le (tv := tv) (W := W) (k := k)
      refine V_iload_n rfl dX5_stand_15 ?_
      refine V_aload_n rfl dX5_stand_16 ?_
      refine gf_X5_41 (by assumption) (by assumption) rfl dX5_stand_17 ?_
      refine gf_X5_102 (by assumption) (by assumption) rfl dX5_stand_20 ?_
      refine cf_X5_84 (C_size hWt) (by assumption) rfl rfl ft0 (Nat.le_of_ble_eq_true rfl) dX5_stand_23 ?_
      refine V_icmp_geN 62 dX5_stand_26 (by decide) (by omega) (by omega) (fun h26 => absurd h26 (by omega)) (fun h26 => ?_)
      refine V_iload_n rfl dX5_stand_29 ?_
      refine V_aload_n rfl dX5_stand_30 ?_
      refine gf_X5_31 (by assumption) (by assumption) rfl dX5_stand_31 ?_
      refine V_aload_n rfl dX5_stand_34 ?_
      refine gf_X5_41 (by assumption) (by assumption) rfl dX5_stand_35 ?_
      refine gf_X5_102 (by assumption) (by assumption) rfl dX5_stand_38 ?_
      refine V_iload_n rfl dX5_stand_41 ?_
      refine V_iconst (nI 0) (by decide) dX5_stand_42 ?_
      refine cf_X5_111 (C_get (c := 0) hWt (by omega) (by decide)) (by assumption) rfl rfl ft0 (Nat.le_of_ble_eq_true rfl) dX5_stand_43 ?_
      rw [if_pos hkl, e0]
      refine cf_X5_237 (C_marksSoIn hW hmk hF8 (by omega)) (by assumption) rfl rfl ft0 (Nat.le_of_ble_eq_true rfl) dX5_stand_46 ?_
      refine cf_X5_139 (C_bitCount hms) rfl rfl ft0 (Nat.le_of_ble_eq_true rfl) dX5_stand_49 ?_
      refine V_maxN wl_X5_240 ws_max wi_Math wc_max (by decide) (Nat.le_of_ble_eq_true rfl) fh0 (by omega) (by omega) dX5_stand_52 ?_
      refine V_ist2 rfl rfl dX5_stand_55 ?_
      refine V_iinc3_ _ (nI_inc _) rfl rfl dX5_stand_56 ?_
      refine V_goto 15 dX5_stand_59 (by decide) ?_
      exact ih (k + 1) (by omega) (by omega)
  refine V_iload_n rfl dX5_stand_0 ?_
  refine V_if_lt 9 dX5_stand_1 (by decide) (fun h1 => ?_) (fun h1 => ?_)
  · skip
    refine V_iconst (-1) (by decide) dX5_stand_9 ?_
    refine V_iret rfl rfl rfl ?_ dX5_stand_10
    refine ⟨?_, rfl, rfl⟩
    unfold fStand
    first
    | rw [ifb_lt0 h1]
    | rw [ifb_big hq (by decide) (by omega)]
  · skip
    obtain ⟨q, hq, rfl⟩ := nn_ex h1
    refine V_iload_n rfl dX5_stand_4 ?_
    refine V_iconst (nI 1) (by decide) dX5_stand_5 ?_
    refine V_icmp_leN 11 dX5_stand_6 (by decide) (by omega) (by omega) (fun h6 => ?_) (fun h6 => ?_)
    · skip
      refine V_iconst (nI 0) (by decide) dX5_stand_11 ?_
      refine V_ist2 rfl rfl dX5_stand_12 ?_
      refine V_iconst (nI 0) (by decide) dX5_stand_13 ?_
      refine V_ist3 rfl rfl dX5_stand_14 ?_
      exact loop q (by omega) rfl (nw' tv) 0 (by omega) (by omega)
    · skip
      refine V_iconst (-1) (by decide) dX5_stand_9 ?_
      refine V_iret rfl rfl rfl ?_ dX5_stand_10
      refine ⟨?_, rfl, rfl⟩
      unfold fStand
      first
      | rw [ifb_lt0 h1]
      | rw [ifb_big hq (by decide) (by omega)]
end CREAD4
