/-! CarvedWeeksModel: free, costs, worlds, hands, what is read and known -/
theorem bm_mask {p : Nat → Bool} {F : Nat} (h : F ≤ 8) : bm 8 p &&& (2 ^ F - 1) = bm F p := by
  refine bm_ext (Nat.lt_of_le_of_lt Nat.and_le_right (by have := p2_pos F; omega)) (fun i hi => ?_)
  rw [Nat.testBit_and, bm_bit, Nat.testBit_two_pow_sub_one, decide_eq_true hi, decide_eq_true (show i < 8 by omega), Bool.and_true, Bool.true_and]
theorem knw_even {tv : TV} {rd f : Nat} (h8 : tF tv ≤ 8) : knw tv rd (2 * f) = (anyW tv rd && allB 256 (fun i => !(wB tv i && sat rd i) || i.testBit f)) := by
  unfold knw
  rw [all_wl h8 (fun w => !sat rd w || so (2 * f) w)]
  exact congrArg (fun b => anyW tv rd && b) <| allB_congr (fun i _ => by show (!wB tv i || (!sat rd i || so (2 * f) i)) = (!(wB tv i && sat rd i) || i.testBit f); rw [so_even]; cases wB tv i <;> cases sat rd i <;> rfl)
theorem knw_odd {tv : TV} {rd f : Nat} (h8 : tF tv ≤ 8) : knw tv rd (2 * f + 1) = (anyW tv rd && allB 256 (fun i => !(wB tv i && sat rd i) || !i.testBit f)) := by
  unfold knw
  rw [all_wl h8 (fun w => !sat rd w || so (2 * f + 1) w)]
  exact congrArg (fun b => anyW tv rd && b) <| allB_congr (fun i _ => by show (!wB tv i || (!sat rd i || so (2 * f + 1) i)) = (!(wB tv i && sat rd i) || !i.testBit f); rw [so_odd]; cases wB tv i <;> cases sat rd i <;> rfl)
def kwQ (sg : SG) (I : IM) (tv : TV) (rd : Nat) : Option Value → SG → IM → Prop := fun r0 s0 J => r0 = none ∧ s0 = sg ∧ J 92 13 = bI (anyW tv rd = true) ∧ J 92 14 = nI (bm (tF tv) (fun f => knw tv rd (2 * f))) ∧ J 92 15 = nI (bm (tF tv) (fun f => knw tv rd (2 * f + 1))) ∧ (∀ q, q ≠ 92 → J q = I q) ∧ ∀ k, k ≠ 13 → k ≠ 14 → k ≠ 15 → J 92 k = I 92 k
section MREAD
variable {g : GC} {sg : SG} {I : IM} {tv : TV} {W : WV} {np : Nat}
theorem D_costs {s : Nat} (hK : MK sg) (hT : MTn I tv) (hok : TVok tv) (hs : s < (tS tv).1) : Fn m_X6_costs g [rf g 92, .int (nI s)] sg I (some (.int (nI (hrsN tv s)))) sg I := by
  obtain ⟨m0, mR1, mR3, mR4, mR5, mR6, mR7, mR8, mR10, mR16, mR17, mA93, mA94, mA95, mA96, mA97, mA98, mA99, mA100, mA101, mA102⟩ := hK
  obtain ⟨mF, mnL, mnP, mnS, mnB, mL, mP, mS, mB, mWd, mnw⟩ := hT
  have hF1 := hok.1
  have hF8 := hok.2.1
  have h256 := p2_le8 hF8
  have h16 := p2_le16 hF8
  have nL10 := hok.2.2.2.2.2.2.2.1
  have nP5 := hok.2.2.2.2.2.2.2.2.1
  have nS5 := hok.2.2.2.2.2.2.2.2.2.1
  have nB6 := hok.2.2.2.2.2.2.2.2.2.2
  have hso := hok.2.2.2.2.2.1 s hs
  refine Ct.of rfl (Nat.le_of_ble_eq_true rfl) fun X => ?_
  show V X _ sg I 0 [some (rf g 92), some (.int (nI s))] []
  refine V_aload_n rfl dX6_costs_0 ?_
  refine gf_X6_23 (by assumption) (by assumption) rfl dX6_costs_1 ?_
  refine V_iconst (nI 3) (by decide) dX6_costs_4 ?_
  refine V_iload_n rfl dX6_costs_5 ?_
  refine V_imulN dX6_costs_6 ?_
  refine V_iconst (nI 2) (by decide) dX6_costs_7 ?_
  refine V_iaddN dX6_costs_8 ?_
  refine V_iald _ (by assumption) rfl (by omega) (by omega) dX6_costs_9 ?_
  refine V_topi (mS s hs 2 (by decide)) ?_
  refine V_iconst (nI 2) (by decide) dX6_costs_10 ?_
  refine V_icmp_neN 18 dX6_costs_11 (by decide) (by omega) (by omega) (fun h11 => ?_) (fun h11 => ?_)
  · skip
    refine V_aload_n rfl dX6_costs_18 ?_
    refine gf_X6_23 (by assumption) (by assumption) rfl dX6_costs_19 ?_
    refine V_iconst (nI 3) (by decide) dX6_costs_22 ?_
    refine V_iload_n rfl dX6_costs_23 ?_
    refine V_imulN dX6_costs_24 ?_
    refine V_iconst (nI 1) (by decide) dX6_costs_25 ?_
    refine V_iaddN dX6_costs_26 ?_
    refine V_iald _ (by assumption) rfl (by omega) (by omega) dX6_costs_27 ?_
    refine V_topi (mS s hs 1 (by decide)) ?_
    refine V_iret rfl rfl rfl ?_ dX6_costs_28
    exact ⟨by unfold hrsN; first | rw [if_pos h11] | rw [if_neg h11], rfl, rfl⟩
  · skip
    refine V_iconst (nI 1) (by decide) dX6_costs_14 ?_
    refine V_goto 28 dX6_costs_15 (by decide) ?_
    refine V_iret rfl rfl rfl ?_ dX6_costs_28
    exact ⟨by unfold hrsN; first | rw [if_pos h11] | rw [if_neg h11], rfl, rfl⟩
theorem D_free {s st : Nat} (hK : MK sg) (hT : MTn I tv) (hok : TVok tv) (hW : SlW I s W np) (hs12 : s < 12) (hm : MKok tv (wM W) (wK W)) (hs : st < (tS tv).1) : Fn m_X6_free g [rf g 92, .int (nI s), .int (nI st)] sg I (some (.int (nI (freeN tv W st)))) sg I := by
  obtain ⟨m0, mR1, mR3, mR4, mR5, mR6, mR7, mR8, mR10, mR16, mR17, mA93, mA94, mA95, mA96, mA97, mA98, mA99, mA100, mA101, mA102⟩ := hK
  obtain ⟨mF, mnL, mnP, mnS, mnB, mL, mP, mS, mB, mWd, mnw⟩ := hT
  have hF1 := hok.1
  have hF8 := hok.2.1
  have h256 := p2_le8 hF8
  have h16 := p2_le16 hF8
  have nL10 := hok.2.2.2.2.2.2.2.1
  have nP5 := hok.2.2.2.2.2.2.2.2.1
  have nS5 := hok.2.2.2.2.2.2.2.2.2.1
  have nB6 := hok.2.2.2.2.2.2.2.2.2.2
  obtain ⟨wT0, wK0, wM0, wH0, wC0⟩ := hW
  have hn := hm.1
  have hr := hok.2.2.2.2.2.1 st hs
  have hcnt := hm.2.2 st hs
  refine Ct.of rfl (Nat.le_of_ble_eq_true rfl) fun X => ?_
  show V X _ sg I 0 [some (rf g 92), some (.int (nI s)), some (.int (nI st)), none, none] []
  have mono : ∀ k, k ≤ (wM W).1 → cnt k (stB W st) ≤ (tS tv).2 st 0 := fun k hk => by
    have : cnt k (stB W st) ≤ cnt (wM W).1 (stB W st) := by
      obtain ⟨d, hd⟩ : ∃ d, (wM W).1 = k + d := ⟨(wM W).1 - k, by omega⟩
      rw [hd]; exact cnt_mono _ _ d
    exact Nat.le_trans this hcnt
  have loop : ∀ (d k : Nat), (wM W).1 - k = d → k ≤ (wM W).1 →
      V X (ZQ X (fun r0 s0 I0 => r0 = some (.int (nI (freeN tv W st))) ∧ s0 = sg ∧ I0 = I)) sg I 12 [some (rf g 92), some (.int (nI s)), some (.int (nI st)), some (.int (nI ((tS tv).2 st 0 - cnt k (stB W st)))), some (.int (nI k))] [] := by
    intro d
    induction d with
    | zero =>
      intro k hd hkn
      have e : k = (wM W).1 := by omega
      subst e
      refine V_iload rfl dX6_free_12 ?_
      refine V_aload_n rfl dX6_free_14 ?_
      refine gf_X6_33 (by assumption) (by assumption) rfl dX6_free_15 ?_
      refine V_bipush (nI 56) (by decide) dX6_free_18 ?_
      refine V_iload_n rfl dX6_free_20 ?_
      refine V_imulN dX6_free_21 ?_
      refine V_iconst (nI 2) (by decide) dX6_free_22 ?_
      refine V_iaddN dX6_free_23 ?_
      refine V_iald _ (by assumption) rfl (by omega) (by omega) dX6_free_24 ?_
      refine V_topi (wM0) ?_
      refine V_icmp_geN 65 dX6_free_25 (by decide) (by omega) (by omega) (fun h25 => ?_) (fun h25 => absurd h25 (by omega))
      refine V_iload_n rfl dX6_free_65 ?_
      refine V_iret rfl rfl rfl ?_ dX6_free_66
      exact ⟨rfl, rfl, rfl⟩
    | succ d ih =>
      intro k hd hkn
      have hkl : k < (wM W).1 := by omega
      have hst := (hm.2.1 k hkl).2.1
      have h9 := mono (k + 1) (by omega)
      have h8 := ih (k + 1) (by omega) (by omega)
      rw [cnt_succ] at h9 h8
      refine V_iload rfl dX6_free_12 ?_
      refine V_aload_n rfl dX6_free_14 ?_
      refine gf_X6_33 (by assumption) (by assumption) rfl dX6_free_15 ?_
      refine V_bipush (nI 56) (by decide) dX6_free_18 ?_
      refine V_iload_n rfl dX6_free_20 ?_
      refine V_imulN dX6_free_21 ?_
      refine V_iconst (nI 2) (by decide) dX6_free_22 ?_
      refine V_iaddN dX6_free_23 ?_
      refine V_iald _ (by assumption) rfl (by omega) (by omega) dX6_free_24 ?_
      refine V_topi (wM0) ?_
      refine V_icmp_geN 65 dX6_free_25 (by decide) (by omega) (by omega) (fun h25 => absurd h25 (by omega)) (fun h25 => ?_)
      refine V_iload_n rfl dX6_free_28 ?_
      refine V_aload_n rfl dX6_free_29 ?_
      refine gf_X6_33 (by assumption) (by assumption) rfl dX6_free_30 ?_
      refine V_bipush (nI 56) (by decide) dX6_free_33 ?_
      refine V_iload_n rfl dX6_free_35 ?_
      refine V_imulN dX6_free_36 ?_
      refine V_bipush (nI 8) (by decide) dX6_free_37 ?_
      refine V_iaddN dX6_free_39 ?_
      refine V_iconst (nI 4) (by decide) dX6_free_40 ?_
      refine V_iload rfl dX6_free_41 ?_
      refine V_imulN dX6_free_43 ?_
      refine V_iaddN dX6_free_44 ?_
      refine V_iconst (nI 1) (by decide) dX6_free_45 ?_
      refine V_iaddN dX6_free_46 ?_
      refine V_iald _ (by assumption) rfl (by omega) (by omega) dX6_free_47 ?_
      refine V_topi (wC0 k hkl 1 (by decide)) ?_
      refine V_iload_n rfl dX6_free_48 ?_
      refine V_icmp_neN 56 dX6_free_49 (by decide) (by omega) (by omega) (fun h49 => ?_) (fun h49 => ?_)
      · skip
        refine V_iconst (nI 0) (by decide) dX6_free_56 ?_
        first | (rw [if_pos (show stB W st k = true from decide_eq_true h49), ← Nat.sub_sub] at h8; rw [if_pos (show stB W st k = true from decide_eq_true h49)] at h9; refine V_isubN (by omega) dX6_free_57 ?_) | (rw [if_neg (show ¬ stB W st k = true by unfold stB; simp [h49]), Nat.add_zero] at h8; refine V_isubN (by omega) dX6_free_57 ?_; rw [Nat.sub_zero])
        refine V_ist3 rfl rfl dX6_free_58 ?_
        refine V_iinc4_ _ (nI_inc _) rfl rfl dX6_free_59 ?_
        refine V_goto 12 dX6_free_62 (by decide) ?_
        exact h8
      · skip
        refine V_iconst (nI 1) (by decide) dX6_free_52 ?_
        refine V_goto 57 dX6_free_53 (by decide) ?_
        first | (rw [if_pos (show stB W st k = true from decide_eq_true h49), ← Nat.sub_sub] at h8; rw [if_pos (show stB W st k = true from decide_eq_true h49)] at h9; refine V_isubN (by omega) dX6_free_57 ?_) | (rw [if_neg (show ¬ stB W st k = true by unfold stB; simp [h49]), Nat.add_zero] at h8; refine V_isubN (by omega) dX6_free_57 ?_; rw [Nat.sub_zero])
        refine V_ist3 rfl rfl dX6_free_58 ?_
        refine V_iinc4_ _ (nI_inc _) rfl rfl dX6_free_59 ?_
        refine V_goto 12 dX6_free_62 (by decide) ?_
        exact h8
  refine V_aload_n rfl dX6_free_0 ?_
  refine gf_X6_23 (by assumption) (by assumption) rfl dX6_free_1 ?_
  refine V_iconst (nI 3) (by decide) dX6_free_4 ?_
  refine V_iload_n rfl dX6_free_5 ?_
  refine V_imulN dX6_free_6 ?_
  refine V_iald _ (by assumption) rfl (by omega) (by omega) dX6_free_7 ?_
  refine V_topi (mS st hs 0 (by decide)) ?_
  refine V_ist3 rfl rfl dX6_free_8 ?_
  refine V_iconst (nI 0) (by decide) dX6_free_9 ?_
  refine V_ist4 rfl rfl dX6_free_10 ?_
  exact loop (wM W).1 0 (by omega) (by omega)
theorem D_trueOf {s f : Nat} (hK : MK sg) (hW : SlW I s W np) (hs12 : s < 12) (hf : f < 31) (ht : wT W < 2147483648) : Fn m_X6_trueOf g [rf g 92, .int (nI s), .int (nI f)] sg I (some (.int (nI (tsy f (wT W))))) sg I := by
  obtain ⟨m0, mR1, mR3, mR4, mR5, mR6, mR7, mR8, mR10, mR16, mR17, mA93, mA94, mA95, mA96, mA97, mA98, mA99, mA100, mA101, mA102⟩ := hK
  have htb : (wT W).testBit f = decide (wT W / 2 ^ f % 2 = 1) := Nat.testBit_eq_decide_div_mod_eq
  have e : 2 * f + 1 - wT W / 2 ^ f % 2 = tsy f (wT W) := by
    unfold tsy
    rw [htb]
    have := Nat.mod_two_eq_zero_or_one (wT W / 2 ^ f)
    by_cases c : wT W / 2 ^ f % 2 = 1
    · rw [if_pos (decide_eq_true c), c]; omega
    · rw [if_neg (by rw [decide_eq_false c]; decide), show wT W / 2 ^ f % 2 = 0 by omega]; omega
  have hle : wT W / 2 ^ f ≤ wT W := Nat.div_le_self _ _
  refine Ct.of rfl (Nat.le_of_ble_eq_true rfl) fun X => ?_
  show V X _ sg I 0 [some (rf g 92), some (.int (nI s)), some (.int (nI f))] []
  refine V_iconst (nI 2) (by decide) dX6_trueOf_0 ?_
  refine V_iload_n rfl dX6_trueOf_1 ?_
  refine V_imulN dX6_trueOf_2 ?_
  refine V_iconst (nI 1) (by decide) dX6_trueOf_3 ?_
  refine V_iaddN dX6_trueOf_4 ?_
  refine V_aload_n rfl dX6_trueOf_5 ?_
  refine gf_X6_33 (by assumption) (by assumption) rfl dX6_trueOf_6 ?_
  refine V_bipush (nI 56) (by decide) dX6_trueOf_9 ?_
  refine V_iload_n rfl dX6_trueOf_11 ?_
  refine V_imulN dX6_trueOf_12 ?_
  refine V_iald _ (by assumption) rfl (by omega) (by omega) dX6_trueOf_13 ?_
  refine V_topi (hW.1) ?_
  refine V_iload_n rfl dX6_trueOf_14 ?_
  refine V_ishrN ⟨by omega, by omega⟩ dX6_trueOf_15 ?_
  refine V_iconst (nI 1) (by decide) dX6_trueOf_16 ?_
  refine V_iand1N dX6_trueOf_17 ?_
  refine V_isubN (by omega) dX6_trueOf_18 ?_
  refine V_iret rfl rfl rfl ?_ dX6_trueOf_19
  exact ⟨by rw [e], rfl, rfl⟩
theorem D_worldOf {k : Nat} (hK : MK sg) (hT : MTn I tv) (hok : TVok tv) (hk : k < 2147483648) : Fn m_X6_worldOf g [rf g 92, .int (nI k)] sg I (some (.int (if k < nw' tv then nI (wl tv k) else -4))) sg I := by
  obtain ⟨m0, mR1, mR3, mR4, mR5, mR6, mR7, mR8, mR10, mR16, mR17, mA93, mA94, mA95, mA96, mA97, mA98, mA99, mA100, mA101, mA102⟩ := hK
  obtain ⟨mF, mnL, mnP, mnS, mnB, mL, mP, mS, mB, mWd, mnw⟩ := hT
  have hF1 := hok.1
  have hF8 := hok.2.1
  have h256 := p2_le8 hF8
  have h16 := p2_le16 hF8
  have nL10 := hok.2.2.2.2.2.2.2.1
  have nP5 := hok.2.2.2.2.2.2.2.2.1
  have nS5 := hok.2.2.2.2.2.2.2.2.2.1
  have nB6 := hok.2.2.2.2.2.2.2.2.2.2
  have hnw := nw_cnt hF8
  refine Ct.of rfl (Nat.le_of_ble_eq_true rfl) fun X => ?_
  show V X _ sg I 0 [some (rf g 92), some (.int (nI k)), none, none] []
  have loop : ∀ (d w : Nat), 256 - w = d → w ≤ 256 → cnt w (wB tv) ≤ k → V X (ZQ X (fun r0 s0 I0 => r0 = some (.int (if k < nw' tv then nI (wl tv k) else -4)) ∧ s0 = sg ∧ I0 = I)) sg I 4 [some (rf g 92), some (.int (nI k)), some (.int (nI (k - cnt w (wB tv)))), some (.int (nI w))] [] := by
    intro d
    induction d with
    | zero =>
      intro w hd hw hc
      have e : w = 256 := by omega
      subst e
      refine V_iload_n rfl dX6_worldOf_4 ?_
      refine V_sipush (nI 256) (by decide) dX6_worldOf_5 ?_
      refine V_icmp_geN 35 dX6_worldOf_8 (by decide) (by omega) (by omega) (fun h8 => ?_) (fun h8 => absurd h8 (by decide))
      refine V_bipush (-4) (by decide) dX6_worldOf_35 ?_
      refine V_iret rfl rfl rfl ?_ dX6_worldOf_37
      exact ⟨by rw [if_neg (by omega)], rfl, rfl⟩
    | succ d ih =>
      intro w hd hw hc
      have hih := fun h => ih (w + 1) (by omega) (by omega) h
      rw [cnt_succ] at hih
      refine V_iload_n rfl dX6_worldOf_4 ?_
      refine V_sipush (nI 256) (by decide) dX6_worldOf_5 ?_
      refine V_icmp_geN 35 dX6_worldOf_8 (by decide) (by omega) (by omega) (fun h8 => absurd h8 (by omega)) (fun h8 => ?_)
      refine V_aload_n rfl dX6_worldOf_11 ?_
      refine gf_X6_29 (by assumption) (by assumption) rfl dX6_worldOf_12 ?_
      refine V_iload_n rfl dX6_worldOf_15 ?_
      refine V_zald _ (by assumption) rfl (by omega) (by omega) dX6_worldOf_16 ?_
      refine V_topi (mWd w (by omega)) ?_
      refine V_if_eqB 29 dX6_worldOf_17 (by decide) (fun h17 => ?_) (fun h17 => ?_)
      · skip
        refine V_iinc3_ _ (nI_inc _) rfl rfl dX6_worldOf_29 ?_
        refine V_goto 4 dX6_worldOf_32 (by decide) ?_
        first
        | (rw [Nat.sub_sub]; exact hih (by omega))
        | (rw [if_neg h17, Nat.add_zero] at hih; exact hih hc)
      · skip
        rw [if_pos h17] at hih
        refine V_iload_n rfl dX6_worldOf_20 ?_
        refine V_if_neN 26 dX6_worldOf_21 (by decide) (by omega) (fun h21 => ?_) (fun h21 => ?_)
        · skip
          refine V_iinc2_ _ (nI_dec1 (by omega)) rfl rfl dX6_worldOf_26 ?_
          refine V_iinc3_ _ (nI_inc _) rfl rfl dX6_worldOf_29 ?_
          refine V_goto 4 dX6_worldOf_32 (by decide) ?_
          first
          | (rw [Nat.sub_sub]; exact hih (by omega))
          | (rw [if_neg h17, Nat.add_zero] at hih; exact hih hc)
        · skip
          refine V_iload_n rfl dX6_worldOf_24 ?_
          refine V_iret rfl rfl rfl ?_ dX6_worldOf_25
          have h1 := cnt_lt h17 256 (by omega)
          have h2 := wl_at h17
          rw [show cnt w (wB tv) = k by omega] at h1 h2
          exact ⟨by rw [if_pos (by omega), h2], rfl, rfl⟩
  refine V_iload_n rfl dX6_worldOf_0 ?_
  refine V_ist2 rfl rfl dX6_worldOf_1 ?_
  refine V_iconst (nI 0) (by decide) dX6_worldOf_2 ?_
  refine V_ist3 rfl rfl dX6_worldOf_3 ?_
  exact loop 256 0 rfl (by decide) (Nat.zero_le _)
theorem D_handsOf {s v wo al : Nat} {a0 b0 : Int32} (hK : MK sg) (hT : MTn I tv) (hok : TVok tv) (hW : SlW I s W np) (hs12 : s < 12) (hm : MKok tv (wM W) (wK W)) (hv : v < 2147483648) (hb : (b0 = -1 ∧ wo = 99) ∨ (b0 = nI wo ∧ wo < 12)) (ha : (a0 = -1 ∧ al = 99) ∨ (a0 = nI al ∧ al < 8)) : Fn m_X6_handsOf g [rf g 92, .int (nI s), .int (nI v), .int b0, .int a0] sg I (some (.int (nI (hdsN tv W v wo al)))) sg I := by
  obtain ⟨m0, mR1, mR3, mR4, mR5, mR6, mR7, mR8, mR10, mR16, mR17, mA93, mA94, mA95, mA96, mA97, mA98, mA99, mA100, mA101, mA102⟩ := hK
  obtain ⟨mF, mnL, mnP, mnS, mnB, mL, mP, mS, mB, mWd, mnw⟩ := hT
  have hF1 := hok.1
  have hF8 := hok.2.1
  have h256 := p2_le8 hF8
  have h16 := p2_le16 hF8
  have nL10 := hok.2.2.2.2.2.2.2.1
  have nP5 := hok.2.2.2.2.2.2.2.2.1
  have nS5 := hok.2.2.2.2.2.2.2.2.2.1
  have nB6 := hok.2.2.2.2.2.2.2.2.2.2
  obtain ⟨wT0, wK0, wM0, wH0, wC0⟩ := hW
  have hn := hm.1
  refine Ct.of rfl (Nat.le_of_ble_eq_true rfl) fun X => ?_
  show V X _ sg I 0 [some (rf g 92), some (.int (nI s)), some (.int (nI v)), some (.int b0), some (.int a0), none, none, none, none] []
  have hb8 : ∀ p : Nat → Bool, bm 8 p < 65536 := fun p => bm_16 (by decide)
  have loop : ∀ (d k : Nat) (z : Option Value), okp z = true → (wM W).1 - k = d → k ≤ (wM W).1 →
      V X (ZQ X (fun r0 s0 I0 => r0 = some (.int (nI (hdsN tv W v wo al))) ∧ s0 = sg ∧ I0 = I)) sg I 21 [some (rf g 92), some (.int (nI s)), some (.int (nI v)), some (.int b0), some (.int a0), some (.int (nI (bm 8 (fun i => decide (i = al) || cutB W v wo k i)))), some (.int (nI (if archB tv W v wo k then 1 else 0))), some (.int (nI k)), z] [] := by
    intro d
    induction d with
    | zero =>
      intro k z hz hd hkn
      have e : k = (wM W).1 := by omega
      subst e
      refine V_iload rfl dX6_handsOf_21 ?_
      refine V_aload_n rfl dX6_handsOf_23 ?_
      refine gf_X6_33 (by assumption) (by assumption) rfl dX6_handsOf_24 ?_
      refine V_bipush (nI 56) (by decide) dX6_handsOf_27 ?_
      refine V_iload_n rfl dX6_handsOf_29 ?_
      refine V_imulN dX6_handsOf_30 ?_
      refine V_iconst (nI 2) (by decide) dX6_handsOf_31 ?_
      refine V_iaddN dX6_handsOf_32 ?_
      refine V_iald _ (by assumption) rfl (by omega) (by omega) dX6_handsOf_33 ?_
      refine V_topi (wM0) ?_
      refine V_icmp_geN 120 dX6_handsOf_34 (by decide) (by omega) (by omega) (fun h34 => ?_) (fun h34 => absurd h34 (by omega))
      refine V_iload rfl dX6_handsOf_120 ?_
      refine cf_X6_149 (D_many (hb8 _)) rfl rfl ft0 (Nat.le_of_ble_eq_true rfl) dX6_handsOf_122 ?_
      rw [show pc16 (bm 8 (fun i => decide (i = al) || cutB W v wo (wM W).1 i)) = cnt 8 (fun i => decide (i = al) || cutB W v wo (wM W).1 i) from pc_bm (by decide)]
      refine V_iload rfl dX6_handsOf_125 ?_
      refine V_iaddN dX6_handsOf_127 ?_
      refine V_iret rfl rfl rfl ?_ dX6_handsOf_128
      exact ⟨rfl, rfl, rfl⟩
    | succ d ih =>
      intro k z hz hd hkn
      have hkl : k < (wM W).1 := by omega
      obtain ⟨g1, g2, g3, g4⟩ := hm.2.1 k hkl
      have hkd := hok.2.2.2.2.2.1 _ g2
      have h8 := fun z hz => ih (k + 1) z hz (by omega) (by omega)
      have hbk : b0 = nI k ↔ k = wo := by
        rcases hb with ⟨rfl, rfl⟩ | ⟨rfl, h12⟩
        · exact ⟨fun z => absurd z.symm (nI_nm1 (by omega)), fun z => by omega⟩
        · rw [nI_eq (by omega) (by omega)]; exact ⟨Eq.symm, Eq.symm⟩
      have hcs : ∀ i, cutB W v wo (k + 1) i = (cutB W v wo k i || (decide ((wM W).2 k 0 = v) && decide (k ≠ wo) && decide ((wM W).2 k 2 = i))) := fun i => by
        unfold cutB; rw [anyB_succ]
      have has : archB tv W v wo (k + 1) = (archB tv W v wo k || (decide ((wM W).2 k 0 = v) && decide (k ≠ wo) && decide ((tS tv).2 ((wM W).2 k 1) 2 = 3))) := by
        unfold archB; rw [anyB_succ]
      have ef : ¬ ((wM W).2 k 0 = v ∧ k ≠ wo) → bm 8 (fun i => decide (i = al) || cutB W v wo (k + 1) i) = bm 8 (fun i => decide (i = al) || cutB W v wo k i) := fun h => bm_congr (fun i _ => by
        have : (decide ((wM W).2 k 0 = v) && decide (k ≠ wo)) = false := by rw [← Bool.decide_and]; exact decide_eq_false h
        rw [hcs i, this, Bool.false_and, Bool.or_false])
      have et : ((wM W).2 k 0 = v ∧ k ≠ wo) → bm 8 (fun i => decide (i = al) || cutB W v wo (k + 1) i) = bm 8 (fun i => (decide (i = al) || cutB W v wo k i) || decide (i = (wM W).2 k 2)) := fun h => bm_congr (fun i _ => by
        have : (decide ((wM W).2 k 0 = v) && decide (k ≠ wo)) = true := by rw [← Bool.decide_and]; exact decide_eq_true h
        rw [hcs i, this, Bool.true_and, Bool.or_assoc]; simp [eq_comm])
      have e0 := wC0 k hkl 0 (by decide)
      refine V_iload rfl dX6_handsOf_21 ?_
      refine V_aload_n rfl dX6_handsOf_23 ?_
      refine gf_X6_33 (by assumption) (by assumption) rfl dX6_handsOf_24 ?_
      refine V_bipush (nI 56) (by decide) dX6_handsOf_27 ?_
      refine V_iload_n rfl dX6_handsOf_29 ?_
      refine V_imulN dX6_handsOf_30 ?_
      refine V_iconst (nI 2) (by decide) dX6_handsOf_31 ?_
      refine V_iaddN dX6_handsOf_32 ?_
      refine V_iald _ (by assumption) rfl (by omega) (by omega) dX6_handsOf_33 ?_
      refine V_topi (wM0) ?_
      refine V_icmp_geN 120 dX6_handsOf_34 (by decide) (by omega) (by omega) (fun h34 => absurd h34 (by omega)) (fun h34 => ?_)
      refine V_bipush (nI 56) (by decide) dX6_handsOf_37 ?_
      refine V_iload_n rfl dX6_handsOf_39 ?_
      refine V_imulN dX6_handsOf_40 ?_
      refine V_bipush (nI 8) (by decide) dX6_handsOf_41 ?_
      refine V_iaddN dX6_handsOf_43 ?_
      refine V_iconst (nI 4) (by decide) dX6_handsOf_44 ?_
      refine V_iload rfl dX6_handsOf_45 ?_
      refine V_imulN dX6_handsOf_47 ?_
      refine V_iaddN dX6_handsOf_48 ?_
      refine V_ist8 rfl rfl dX6_handsOf_49 ?_
      refine V_aload_n rfl dX6_handsOf_51 ?_
      refine gf_X6_33 (by assumption) (by assumption) rfl dX6_handsOf_52 ?_
      refine V_iload rfl dX6_handsOf_55 ?_
      refine V_iald _ (by assumption) rfl (by omega) (by omega) dX6_handsOf_57 ?_
      refine V_topi (e0) ?_
      refine V_iload_n rfl dX6_handsOf_58 ?_
      refine V_icmp_neN 114 dX6_handsOf_59 (by decide) (by omega) (by omega) (fun h59 => ?_) (fun h59 => ?_)
      · skip
        refine V_iinc7_ _ (nI_inc _) rfl rfl dX6_handsOf_114 ?_
        refine V_goto 21 dX6_handsOf_117 (by decide) ?_
        have hx := ef (fun z => h59 z.1)
        have hy : archB tv W v wo (k + 1) = archB tv W v wo k := by rw [has, decide_eq_false h59, Bool.false_and, Bool.false_and, Bool.or_false]
        rw [hx, hy] at h8
        exact h8 _ rfl
      · skip
        refine V_iload rfl dX6_handsOf_62 ?_
        refine V_iload_n rfl dX6_handsOf_64 ?_
        refine V_icmp_eq 114 dX6_handsOf_65 (by decide) (fun h65 => ?_) (fun h65 => ?_)
        · skip
          have hx := ef (fun z => z.2 (hbk.mp h65.symm))
          have hy : archB tv W v wo (k + 1) = archB tv W v wo k := by rw [has, decide_eq_false (show ¬ k ≠ wo from fun z => z (hbk.mp h65.symm)), Bool.and_false, Bool.false_and, Bool.or_false]
          rw [hx, hy] at h8
          refine V_iinc7_ _ (nI_inc _) rfl rfl dX6_handsOf_114 ?_
          refine V_goto 21 dX6_handsOf_117 (by decide) ?_
          exact h8 _ rfl
        · skip
          have hne : k ≠ wo := fun z => h65 (hbk.mpr z).symm
          rw [et ⟨h59, hne⟩, has, decide_eq_true h59, decide_eq_true hne, Bool.true_and, Bool.true_and] at h8
          refine V_iload rfl dX6_handsOf_68 ?_
          refine V_iconst (nI 1) (by decide) dX6_handsOf_70 ?_
          refine V_aload_n rfl dX6_handsOf_71 ?_
          refine gf_X6_33 (by assumption) (by assumption) rfl dX6_handsOf_72 ?_
          refine V_iload rfl dX6_handsOf_75 ?_
          refine V_iconst (nI 2) (by decide) dX6_handsOf_77 ?_
          refine V_iaddN dX6_handsOf_78 ?_
          refine V_iald _ (by assumption) rfl (by omega) (by omega) dX6_handsOf_79 ?_
          refine V_topi (wC0 k hkl 2 (by decide)) ?_
          refine V_ishl1N (by omega) dX6_handsOf_80 ?_
          refine V_iorN dX6_handsOf_81 ?_
          rw [or_pow (show (wM W).2 k 2 < 8 by omega)]
          refine V_ist5 rfl rfl dX6_handsOf_82 ?_
          refine V_aload_n rfl dX6_handsOf_84 ?_
          refine gf_X6_23 (by assumption) (by assumption) rfl dX6_handsOf_85 ?_
          refine V_iconst (nI 3) (by decide) dX6_handsOf_88 ?_
          refine V_aload_n rfl dX6_handsOf_89 ?_
          refine gf_X6_33 (by assumption) (by assumption) rfl dX6_handsOf_90 ?_
          refine V_iload rfl dX6_handsOf_93 ?_
          refine V_iconst (nI 1) (by decide) dX6_handsOf_95 ?_
          refine V_iaddN dX6_handsOf_96 ?_
          refine V_iald _ (by assumption) rfl (by omega) (by omega) dX6_handsOf_97 ?_
          refine V_topi (wC0 k hkl 1 (by decide)) ?_
          refine V_imulN dX6_handsOf_98 ?_
          refine V_iconst (nI 2) (by decide) dX6_handsOf_99 ?_
          refine V_iaddN dX6_handsOf_100 ?_
          refine V_iald _ (by assumption) rfl (by omega) (by omega) dX6_handsOf_101 ?_
          refine V_topi (mS _ g2 2 (by decide)) ?_
          refine V_iconst (nI 3) (by decide) dX6_handsOf_102 ?_
          refine V_icmp_neN 110 dX6_handsOf_103 (by decide) (by omega) (by omega) (fun h103 => ?_) (fun h103 => ?_)
          · skip
            refine V_iload rfl dX6_handsOf_110 ?_
            refine V_ist6 rfl rfl dX6_handsOf_112 ?_
            refine V_iinc7_ _ (nI_inc _) rfl rfl dX6_handsOf_114 ?_
            refine V_goto 21 dX6_handsOf_117 (by decide) ?_
            first
            | (rw [decide_eq_false h103, Bool.or_false] at h8; exact h8 _ rfl)
            | (rw [decide_eq_true h103, Bool.or_true, if_pos rfl] at h8; exact h8 _ rfl)
          · skip
            refine V_iconst (nI 1) (by decide) dX6_handsOf_106 ?_
            refine V_goto 112 dX6_handsOf_107 (by decide) ?_
            refine V_ist6 rfl rfl dX6_handsOf_112 ?_
            refine V_iinc7_ _ (nI_inc _) rfl rfl dX6_handsOf_114 ?_
            refine V_goto 21 dX6_handsOf_117 (by decide) ?_
            first
            | (rw [decide_eq_false h103, Bool.or_false] at h8; exact h8 _ rfl)
            | (rw [decide_eq_true h103, Bool.or_true, if_pos rfl] at h8; exact h8 _ rfl)
  have hstart : V X (ZQ X (fun r0 s0 I0 => r0 = some (.int (nI (hdsN tv W v wo al))) ∧ s0 = sg ∧ I0 = I)) sg I 13 [some (rf g 92), some (.int (nI s)), some (.int (nI v)), some (.int b0), some (.int a0), none, none, none, none] [.int (nI (bm 8 (fun i => decide (i = al) || cutB W v wo 0 i)))] := by
    refine V_ist5 rfl rfl dX6_handsOf_13 ?_
    refine V_iconst (nI 0) (by decide) dX6_handsOf_15 ?_
    refine V_ist6 rfl rfl dX6_handsOf_16 ?_
    refine V_iconst (nI 0) (by decide) dX6_handsOf_18 ?_
    refine V_ist7 rfl rfl dX6_handsOf_19 ?_
    exact loop (wM W).1 0 _ rfl (by omega) (by omega)
  rcases ha with ⟨rfl, rfl⟩ | ⟨rfl, hal⟩
  · skip
    refine V_iload rfl dX6_handsOf_0 ?_
    refine V_if_lt 12 dX6_handsOf_2 (by decide) (fun h2 => ?_) (fun h2 => absurd h2 (by decide))
    refine V_iconst (nI 0) (by decide) dX6_handsOf_12 ?_
    have e0 : bm 8 (fun i => decide (i = 99) || cutB W v wo 0 i) = 0 := by
      rw [← bm_false 8]
      exact bm_congr (fun i hi => by rw [decide_eq_false (show ¬ i = 99 by omega)]; rfl)
    rw [e0] at hstart
    exact hstart
  · have e : 2 ^ al = bm 8 (fun i => decide (i = al) || cutB W v wo 0 i) := by
      have h9 := or_pow (n := 8) (j := al) (p := fun _ => false) hal
      rw [bm_false, Nat.zero_or] at h9
      rw [h9]
      exact bm_congr (fun i _ => by rw [Bool.false_or]; exact (Bool.or_false _).symm)
    refine V_iload rfl dX6_handsOf_0 ?_
    refine V_if_ltN 12 dX6_handsOf_2 (by decide) (by omega) ?_
    refine V_iconst (nI 1) (by decide) dX6_handsOf_5 ?_
    refine V_iload rfl dX6_handsOf_6 ?_
    refine V_ishl1N (by omega) dX6_handsOf_8 ?_
    refine V_goto 13 dX6_handsOf_9 (by decide) ?_
    rw [e]; exact hstart
theorem D_readBy {s h wo : Nat} {b0 : Int32} (hK : MK sg) (hT : MTn I tv) (hok : TVok tv) (hW : SlW I s W np) (hs12 : s < 12) (hm : MKok tv (wM W) (wK W)) (hh : h < 2147483648) (hb : (b0 = -1 ∧ wo = 99) ∨ (b0 = nI wo ∧ wo < 12)) : Fn m_X6_readBy g [rf g 92, .int (nI s), .int (nI h), .int b0] sg I (some (.int (nI (rdN tv W h wo)))) sg I := by
  have hK0 := hK
  have hT0 := hT
  obtain ⟨m0, mR1, mR3, mR4, mR5, mR6, mR7, mR8, mR10, mR16, mR17, mA93, mA94, mA95, mA96, mA97, mA98, mA99, mA100, mA101, mA102⟩ := hK
  obtain ⟨mF, mnL, mnP, mnS, mnB, mL, mP, mS, mB, mWd, mnw⟩ := hT
  have hF1 := hok.1
  have hF8 := hok.2.1
  have h256 := p2_le8 hF8
  have h16 := p2_le16 hF8
  have nL10 := hok.2.2.2.2.2.2.2.1
  have nP5 := hok.2.2.2.2.2.2.2.2.1
  have nS5 := hok.2.2.2.2.2.2.2.2.2.1
  have nB6 := hok.2.2.2.2.2.2.2.2.2.2
  refine Ct.of rfl (Nat.le_of_ble_eq_true rfl) fun X => ?_
  show V X _ sg I 0 [some (rf g 92), some (.int (nI s)), some (.int (nI h)), some (.int b0), none, none] []
  have loop : ∀ (d k : Nat), 2 * tF tv - k = d → k ≤ 2 * tF tv →
      V X (ZQ X (fun r0 s0 I0 => r0 = some (.int (nI (rdN tv W h wo))) ∧ s0 = sg ∧ I0 = I)) sg I 6 [some (rf g 92), some (.int (nI s)), some (.int (nI h)), some (.int b0), some (.int (nI (bm k (fun v => decide (h ≤ hdsN tv W v wo 99))))), some (.int (nI k))] [] := by
    intro d
    induction d with
    | zero =>
      intro k hd hkn
      have e : k = 2 * tF tv := by omega
      subst e
      refine V_iload rfl dX6_readBy_6 ?_
      refine V_iconst (nI 2) (by decide) dX6_readBy_8 ?_
      refine V_aload_n rfl dX6_readBy_9 ?_
      refine gf_X6_13 (by assumption) (by assumption) rfl dX6_readBy_10 ?_
      refine V_iconst (nI 0) (by decide) dX6_readBy_13 ?_
      refine V_iald _ (by assumption) rfl (by omega) (by omega) dX6_readBy_14 ?_
      refine V_topi (mF) ?_
      refine V_imulN dX6_readBy_15 ?_
      refine V_icmp_geN 51 dX6_readBy_16 (by decide) (by omega) (by omega) (fun h16 => ?_) (fun h16 => absurd h16 (by omega))
      refine V_iload rfl dX6_readBy_51 ?_
      refine V_iret rfl rfl rfl ?_ dX6_readBy_53
      exact ⟨rfl, rfl, rfl⟩
    | succ d ih =>
      intro k hd hkn
      have hh9 : hdsN tv W k wo 99 ≤ 9 := hds_le
      have h8 := ih (k + 1) (by omega) (by omega)
      rw [bm_succ] at h8
      refine V_iload rfl dX6_readBy_6 ?_
      refine V_iconst (nI 2) (by decide) dX6_readBy_8 ?_
      refine V_aload_n rfl dX6_readBy_9 ?_
      refine gf_X6_13 (by assumption) (by assumption) rfl dX6_readBy_10 ?_
      refine V_iconst (nI 0) (by decide) dX6_readBy_13 ?_
      refine V_iald _ (by assumption) rfl (by omega) (by omega) dX6_readBy_14 ?_
      refine V_topi (mF) ?_
      refine V_imulN dX6_readBy_15 ?_
      refine V_icmp_geN 51 dX6_readBy_16 (by decide) (by omega) (by omega) (fun h16 => absurd h16 (by omega)) (fun h16 => ?_)
      refine V_iload rfl dX6_readBy_19 ?_
      refine V_aload_n rfl dX6_readBy_21 ?_
      refine V_iload_n rfl dX6_readBy_22 ?_
      refine V_iload rfl dX6_readBy_23 ?_
      refine V_iload_n rfl dX6_readBy_25 ?_
      refine V_iconst (-1) (by decide) dX6_readBy_26 ?_
      refine cf_X6_171 (D_handsOf hK0 hT0 hok hW hs12 hm (by omega) hb (Or.inl ⟨rfl, rfl⟩)) (by assumption) rfl rfl ft0 (Nat.le_of_ble_eq_true rfl) dX6_readBy_27 ?_
      refine V_iload_n rfl dX6_readBy_30 ?_
      refine V_icmp_ltN 41 dX6_readBy_31 (by decide) (by omega) (by omega) (fun h31 => ?_) (fun h31 => ?_)
      · skip
        refine V_iconst (nI 0) (by decide) dX6_readBy_41 ?_
        refine V_iorN dX6_readBy_42 ?_
        refine V_ist4 rfl rfl dX6_readBy_43 ?_
        refine V_iinc5_ _ (nI_inc _) rfl rfl dX6_readBy_45 ?_
        refine V_goto 6 dX6_readBy_48 (by decide) ?_
        first
        | (rw [if_neg (by rw [decide_eq_false (by omega)]; decide)] at h8; exact h8)
        | (rw [if_pos (decide_eq_true (by omega))] at h8; exact h8)
      · skip
        refine V_iconst (nI 1) (by decide) dX6_readBy_34 ?_
        refine V_iload rfl dX6_readBy_35 ?_
        refine V_ishl1N (by omega) dX6_readBy_37 ?_
        refine V_goto 42 dX6_readBy_38 (by decide) ?_
        refine V_iorN dX6_readBy_42 ?_
        refine V_ist4 rfl rfl dX6_readBy_43 ?_
        refine V_iinc5_ _ (nI_inc _) rfl rfl dX6_readBy_45 ?_
        refine V_goto 6 dX6_readBy_48 (by decide) ?_
        first
        | (rw [if_neg (by rw [decide_eq_false (by omega)]; decide)] at h8; exact h8)
        | (rw [if_pos (decide_eq_true (by omega))] at h8; exact h8)
  refine V_iconst (nI 0) (by decide) dX6_readBy_0 ?_
  refine V_ist4 rfl rfl dX6_readBy_1 ?_
  refine V_iconst (nI 0) (by decide) dX6_readBy_3 ?_
  refine V_ist5 rfl rfl dX6_readBy_4 ?_
  exact loop (2 * tF tv) 0 (by omega) (by omega)
theorem D_knows {rd : Nat} (hK : MK sg) (hT : MTn I tv) (hok : TVok tv) (hr : rd < 65536) : Ct m_X6_knows g [rf g 92, .int (nI rd)] sg I (kwQ sg I tv rd) := by
  obtain ⟨m0, mR1, mR3, mR4, mR5, mR6, mR7, mR8, mR10, mR16, mR17, mA93, mA94, mA95, mA96, mA97, mA98, mA99, mA100, mA101, mA102⟩ := hK
  obtain ⟨mF, mnL, mnP, mnS, mnB, mL, mP, mS, mB, mWd, mnw⟩ := hT
  have hF1 := hok.1
  have hF8 := hok.2.1
  have h256 := p2_le8 hF8
  have h16 := p2_le16 hF8
  have nL10 := hok.2.2.2.2.2.2.2.1
  have nP5 := hok.2.2.2.2.2.2.2.2.1
  have nS5 := hok.2.2.2.2.2.2.2.2.2.1
  have nB6 := hok.2.2.2.2.2.2.2.2.2.2
  refine Ct.of rfl (Nat.le_of_ble_eq_true rfl) fun X => ?_
  show V X _ sg I 0 [some (rf g 92), some (.int (nI rd)), none] []
  have hany : anyW tv rd = anyB 256 (fun w => wB tv w && sat rd w) := any_wl hF8 (fun w => sat rd w)
  have loop : ∀ (d w : Nat) (J : IM), 256 - w = d → w ≤ 256 → J 92 13 = bI (anyB w (fun w => wB tv w && sat rd w) = true) → J 92 14 = nI (bm 8 (fun f => allB w (fun i => !(wB tv i && sat rd i) || i.testBit f))) → J 92 15 = nI (bm 8 (fun f => allB w (fun i => !(wB tv i && sat rd i) || !i.testBit f))) → (∀ q, q ≠ 92 → J q = I q) → (∀ k, k ≠ 13 → k ≠ 14 → k ≠ 15 → J 92 k = I 92 k) →
      V X (ZQ X (kwQ sg I tv rd)) sg J 21 [some (rf g 92), some (.int (nI rd)), some (.int (nI w))] [] := by
    intro d
    induction d with
    | zero =>
      intro w J hd hw j13 j14 j15 hf hk
      have e : w = 256 := by omega
      subst e
      rw [← hany] at j13
      have hF : J 94 0 = nI (tF tv) := by rw [hf 94 (by decide)]; exact mF
      have hfin : ∀ m, (m = if anyW tv rd = true then 2 ^ tF tv - 1 else 0) → V X (ZQ X (kwQ sg I tv rd)) sg J 99 [some (rf g 92), some (.int (nI rd)), some (.int (nI 256))] [.int (nI m)] := by
        intro m em
        have e1 : bm 8 (fun f => allB 256 (fun i => !(wB tv i && sat rd i) || i.testBit f)) &&& m = bm (tF tv) (fun f => knw tv rd (2 * f)) := by
          cases ha : anyW tv rd with
          | true =>
            rw [em, if_pos ha, bm_mask hF8]
            exact bm_congr (fun i _ => by rw [knw_even hF8, ha, Bool.true_and])
          | false =>
            rw [em, if_neg (by rw [ha]; decide), Nat.and_zero, ← bm_false (tF tv)]
            exact bm_congr (fun i _ => by rw [knw_even hF8, ha, Bool.false_and])
        have e2 : bm 8 (fun f => allB 256 (fun i => !(wB tv i && sat rd i) || !i.testBit f)) &&& m = bm (tF tv) (fun f => knw tv rd (2 * f + 1)) := by
          cases ha : anyW tv rd with
          | true =>
            rw [em, if_pos ha, bm_mask hF8]
            exact bm_congr (fun i _ => by rw [knw_odd hF8, ha, Bool.true_and])
          | false =>
            rw [em, if_neg (by rw [ha]; decide), Nat.and_zero, ← bm_false (tF tv)]
            exact bm_congr (fun i _ => by rw [knw_odd hF8, ha, Bool.false_and])
        have j15' : ∀ v, (upI J 92 14 v) 92 15 = nI (bm 8 (fun f => allB 256 (fun i => !(wB tv i && sat rd i) || !i.testBit f))) := fun v => by rw [upI_ne (Or.inr (by decide))]; exact j15
        have j15b := j15' (nI (bm 8 (fun f => allB 256 (fun i => !(wB tv i && sat rd i) || i.testBit f)) &&& m))
        refine V_ist2 rfl rfl dX6_knows_99 ?_
        refine V_aload_n rfl dX6_knows_100 ?_
        refine V_dup rfl dX6_knows_101 ?_
        refine gfe_X6_178 (by assumption) (by assumption) rfl dX6_knows_102 ?_
        refine V_iload_n rfl dX6_knows_105 ?_
        refine V_iandN dX6_knows_106 ?_
        refine pf_X6_178 (by assumption) rfl dX6_knows_107 ?_
        refine V_aload_n rfl dX6_knows_110 ?_
        refine V_dup rfl dX6_knows_111 ?_
        refine gfe_X6_181 (by assumption) (by assumption) rfl dX6_knows_112 ?_
        refine V_iload_n rfl dX6_knows_115 ?_
        refine V_iandN dX6_knows_116 ?_
        refine pf_X6_181 (by assumption) rfl dX6_knows_117 ?_
        refine V_vret rfl rfl rfl ?_ dX6_knows_120
        rw [e1, e2]
        refine ⟨rfl, rfl, ?_, ?_, upI_eq, fun q hq => funext fun k => ?_, fun k k1 k2 k3 => ?_⟩
        · rw [upI_ne (Or.inr (by decide)), upI_ne (Or.inr (by decide))]; exact j13
        · rw [upI_ne (Or.inr (by decide))]; exact upI_eq
        · rw [upI_ne (Or.inl hq), upI_ne (Or.inl hq), hf q hq]
        · rw [upI_ne (Or.inr k3), upI_ne (Or.inr k2)]; exact hk k k1 k2 k3
      refine V_iload_n rfl dX6_knows_21 ?_
      refine V_sipush (nI 256) (by decide) dX6_knows_22 ?_
      refine V_icmp_geN 78 dX6_knows_25 (by decide) (by omega) (by omega) (fun h25 => ?_) (fun h25 => absurd h25 (by decide))
      refine V_aload_n rfl dX6_knows_78 ?_
      refine gfe_X6_174 (by assumption) (by assumption) rfl dX6_knows_79 ?_
      refine V_if_eqB 98 dX6_knows_82 (by decide) (fun h82 => ?_) (fun h82 => ?_)
      · skip
        refine V_iconst (nI 0) (by decide) dX6_knows_98 ?_
        exact hfin _ (by first | rw [if_pos h82] | rw [if_neg h82])
      · skip
        refine V_iconst (nI 1) (by decide) dX6_knows_85 ?_
        refine V_aload_n rfl dX6_knows_86 ?_
        refine gf_X6_13 (by assumption) (by assumption) rfl dX6_knows_87 ?_
        refine V_iconst (nI 0) (by decide) dX6_knows_90 ?_
        refine V_iald _ (by assumption) rfl (by omega) (by omega) dX6_knows_91 ?_
        refine V_topi (hF) ?_
        refine V_ishl1N (by omega) dX6_knows_92 ?_
        refine V_iconst (nI 1) (by decide) dX6_knows_93 ?_
        refine V_isubN (p2_pos _) dX6_knows_94 ?_
        refine V_goto 99 dX6_knows_95 (by decide) ?_
        exact hfin _ (by first | rw [if_pos h82] | rw [if_neg h82])
    | succ d ih =>
      intro w J hd hw j13 j14 j15 hf hk
      have hwd : J 99 w = bI (wB tv w = true) := by rw [hf 99 (by decide)]; exact mWd w (by omega)
      have hb1 : bm 8 (fun f => allB w (fun i => !(wB tv i && sat rd i) || i.testBit f)) < 256 := bm_lt 8 _
      have hb2 : bm 8 (fun f => allB w (fun i => !(wB tv i && sat rd i) || !i.testBit f)) < 256 := bm_lt 8 _
      have hno : (wB tv w && sat rd w) = false → V X (ZQ X (kwQ sg I tv rd)) sg J 21 [some (rf g 92), some (.int (nI rd)), some (.int (nI (w + 1)))] [] := by
        intro h
        refine ih (w + 1) J (by omega) (by omega) ?_ ?_ ?_ hf hk
        · rw [anyB_succ, h, Bool.or_false]; exact j13
        · rw [bm_congr (q := fun f => allB w (fun i => !(wB tv i && sat rd i) || i.testBit f)) (fun i _ => by show (allB w _ && (!(wB tv w && sat rd w) || w.testBit i)) = _; rw [h]; simp)]; exact j14
        · rw [bm_congr (q := fun f => allB w (fun i => !(wB tv i && sat rd i) || !i.testBit f)) (fun i _ => by show (allB w _ && (!(wB tv w && sat rd w) || !w.testBit i)) = _; rw [h]; simp)]; exact j15
      refine V_iload_n rfl dX6_knows_21 ?_
      refine V_sipush (nI 256) (by decide) dX6_knows_22 ?_
      refine V_icmp_geN 78 dX6_knows_25 (by decide) (by omega) (by omega) (fun h25 => absurd h25 (by omega)) (fun h25 => ?_)
      refine V_aload_n rfl dX6_knows_28 ?_
      refine gf_X6_29 (by assumption) (by assumption) rfl dX6_knows_29 ?_
      refine V_iload_n rfl dX6_knows_32 ?_
      refine V_zald _ (by assumption) rfl (by omega) (by omega) dX6_knows_33 ?_
      refine V_topi (hwd) ?_
      refine V_if_eqB 72 dX6_knows_34 (by decide) (fun h34 => ?_) (fun h34 => ?_)
      · skip
        refine V_iinc2_ _ (nI_inc _) rfl rfl dX6_knows_72 ?_
        refine V_goto 21 dX6_knows_75 (by decide) ?_
        exact hno (by first | (rw [Bool.not_eq_true] at h34; rw [h34]; rfl) | (rw [Bool.not_eq_true] at h42; rw [h42, Bool.and_false]))
      · skip
        refine V_iload_n rfl dX6_knows_37 ?_
        refine V_iload_n rfl dX6_knows_38 ?_
        refine cf_X6_184 (D_areSo hr (by omega)) rfl rfl ft0 (Nat.le_of_ble_eq_true rfl) dX6_knows_39 ?_
        refine V_if_eqB 72 dX6_knows_42 (by decide) (fun h42 => ?_) (fun h42 => ?_)
        · skip
          refine V_iinc2_ _ (nI_inc _) rfl rfl dX6_knows_72 ?_
          refine V_goto 21 dX6_knows_75 (by decide) ?_
          exact hno (by first | (rw [Bool.not_eq_true] at h34; rw [h34]; rfl) | (rw [Bool.not_eq_true] at h42; rw [h42, Bool.and_false]))
        · skip
          refine V_aload_n rfl dX6_knows_45 ?_
          refine V_iconst (nI 1) (by decide) dX6_knows_46 ?_
          refine pf_X6_174 (by assumption) rfl rfl rfl dX6_knows_47 ?_
          obtain ⟨J1, hJ1⟩ : ∃ J1, J1 = upI J 92 13 (nI 1) := ⟨_, rfl⟩
          show V X _ sg (upI J 92 13 (nI 1)) 50 [some (rf g 92), some (.int (nI rd)), some (.int (nI w))] []
          rw [← hJ1]
          have a14 : J1 92 14 = nI (bm 8 (fun f => allB w (fun i => !(wB tv i && sat rd i) || i.testBit f))) := by rw [hJ1, upI_ne (Or.inr (by decide))]; exact j14
          have a15 : ∀ v, (upI J1 92 14 v) 92 15 = nI (bm 8 (fun f => allB w (fun i => !(wB tv i && sat rd i) || !i.testBit f))) := fun v => by rw [upI_ne (Or.inr (by decide)), hJ1, upI_ne (Or.inr (by decide))]; exact j15
          have a15b := a15 (nI (bm 8 (fun f => allB w (fun i => !(wB tv i && sat rd i) || i.testBit f)) &&& w))
          have hs : (wB tv w && sat rd w) = true := by rw [h34, h42]; rfl
          have hwx : w = bm 8 (fun i => w.testBit i) := bm_ext (by omega) (fun i _ => rfl)
          have c1 : bm 8 (fun f => allB w (fun i => !(wB tv i && sat rd i) || i.testBit f)) &&& w = bm 8 (fun f => allB (w + 1) (fun i => !(wB tv i && sat rd i) || i.testBit f)) := by
            conv => lhs; rhs; rw [hwx]
            rw [bm_and]
            exact bm_congr (fun i _ => by show (allB w _ && w.testBit i) = (allB w _ && (!(wB tv w && sat rd w) || w.testBit i)); rw [hs]; rfl)
          have c2 : bm 8 (fun f => allB w (fun i => !(wB tv i && sat rd i) || !i.testBit f)) ^^^ (bm 8 (fun f => allB w (fun i => !(wB tv i && sat rd i) || !i.testBit f)) &&& w) = bm 8 (fun f => allB (w + 1) (fun i => !(wB tv i && sat rd i) || !i.testBit f)) := by
            conv => lhs; rhs; rhs; rw [hwx]
            rw [bm_andn]
            exact bm_congr (fun i _ => by show (allB w _ && !w.testBit i) = (allB w _ && (!(wB tv w && sat rd w) || !w.testBit i)); rw [hs]; rfl)
          refine V_aload_n rfl dX6_knows_50 ?_
          refine V_dup rfl dX6_knows_51 ?_
          refine gfe_X6_178 (by assumption) (by assumption) rfl dX6_knows_52 ?_
          refine V_iload_n rfl dX6_knows_55 ?_
          refine V_iandN dX6_knows_56 ?_
          refine pf_X6_178 (by assumption) rfl dX6_knows_57 ?_
          refine V_aload_n rfl dX6_knows_60 ?_
          refine V_dup rfl dX6_knows_61 ?_
          refine gfe_X6_181 (by assumption) (by assumption) rfl dX6_knows_62 ?_
          refine V_iload_n rfl dX6_knows_65 ?_
          refine V_iconst (-1) (by decide) dX6_knows_66 ?_
          skip
          refine V_ixor dX6_knows_67 ?_
          refine V_iand dX6_knows_68 ?_
          refine V_topi (nI_andn _ _ (by omega)) ?_
          refine pf_X6_181 (by assumption) rfl dX6_knows_69 ?_
          refine V_iinc2_ _ (nI_inc _) rfl rfl dX6_knows_72 ?_
          refine V_goto 21 dX6_knows_75 (by decide) ?_
          rw [c1, c2]
          refine ih (w + 1) _ (by omega) (by omega) ?_ ?_ upI_eq (fun q hq => funext fun k => ?_) (fun k k1 k2 k3 => ?_)
          · rw [upI_ne (Or.inr (by decide)), upI_ne (Or.inr (by decide)), hJ1, anyB_succ, hs, Bool.or_true]; exact upI_eq
          · rw [upI_ne (Or.inr (by decide))]; exact upI_eq
          · rw [upI_ne (Or.inl hq), upI_ne (Or.inl hq), hJ1, upI_ne (Or.inl hq), hf q hq]
          · rw [upI_ne (Or.inr k3), upI_ne (Or.inr k2), hJ1, upI_ne (Or.inr k1)]; exact hk k k1 k2 k3
  refine V_aload_n rfl dX6_knows_0 ?_
  refine V_iconst (nI 0) (by decide) dX6_knows_1 ?_
  refine pf_X6_174 (by assumption) rfl rfl rfl dX6_knows_2 ?_
  refine V_aload_n rfl dX6_knows_5 ?_
  refine V_sipush (nI 255) (by decide) dX6_knows_6 ?_
  refine pf_X6_178 (by assumption) rfl dX6_knows_9 ?_
  refine V_aload_n rfl dX6_knows_12 ?_
  refine V_sipush (nI 255) (by decide) dX6_knows_13 ?_
  refine pf_X6_181 (by assumption) rfl dX6_knows_16 ?_
  refine V_iconst (nI 0) (by decide) dX6_knows_19 ?_
  refine V_ist2 rfl rfl dX6_knows_20 ?_
  have e0 : ∀ q : Nat → Nat → Bool, bm 8 (fun f => allB 0 (q f)) = 255 := fun q => (bm_congr (q := fun _ => true) (fun i _ => rfl)).trans (by decide)
  refine loop 256 0 _ rfl (by decide) ?_ ?_ (by rw [e0]; exact upI_eq) (fun q hq => funext fun k => ?_) (fun k k1 k2 k3 => ?_)
  · rw [upI_ne (Or.inr (by decide)), upI_ne (Or.inr (by decide))]; exact upI_eq
  · rw [e0, upI_ne (Or.inr (by decide))]; exact upI_eq
  · rw [upI_ne (Or.inl hq), upI_ne (Or.inl hq), upI_ne (Or.inl hq)]
  · rw [upI_ne (Or.inr k3), upI_ne (Or.inr k2), upI_ne (Or.inr k1)]
end MREAD
