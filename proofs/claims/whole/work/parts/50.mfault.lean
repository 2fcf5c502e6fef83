/-! CarvedWeeksModel: fault, and whether a set of facts keeps the laws -/
theorem MSt.ff {sg : SG} {I J : IM} {x : XV} {tv : TV} {W : WV} {P K : SV} (h : MSt sg I x tv W P K) (hok : TVok tv) (e : fF I J) : MSt sg J x tv W P K := by
  obtain ⟨a, ⟨b1, b2⟩, ⟨c1, c2, c3, c4, c5, c6, c7, c8, c9, c10, c11⟩, d, k1, k2, p1, p2⟩ := h
  obtain ⟨-, -, -, -, -, -, -, o8, o9, o10, o11⟩ := hok
  obtain ⟨e1, e2, e4, e5, e6, e7, e8⟩ := e
  have hs : ∀ s W, SlW I s W (tP tv).1 → SlW J s W (tP tv).1 := fun s W h => by unfold SlW at h ⊢; rw [e1 100 (by omega)]; exact h
  refine ⟨a, ⟨(e2 0 (by decide)).trans b1, fun i hi => by rw [e1 93 (by omega)]; exact b2 i hi⟩, ⟨(e4 0 (by decide)).trans c1, (e4 1 (by decide)).trans c2, (e4 2 (by decide)).trans c3, (e4 3 (by decide)).trans c4, (e4 4 (by decide)).trans c5, fun k hk c hc => (e5 _ (by omega)).trans (c6 k hk c hc), fun k hk c hc => (e6 _ (by omega)).trans (c7 k hk c hc), fun k hk c hc => (e7 _ (by omega)).trans (c8 k hk c hc), fun k hk c hc => (e8 _ (by omega)).trans (c9 k hk c hc), fun w hw => by rw [e1 99 (by omega)]; exact c10 w hw, (e2 9 (by decide)).trans c11⟩, hs _ _ d, (e2 11 (by decide)).trans k1, fun i hi => hs _ _ (k2 i hi), (e2 12 (by decide)).trans p1, fun i hi => hs _ _ (p2 i hi)⟩
theorem allB_s (n : Nat) (p : Nat → Bool) : allB (n + 1) p = (allB n p && p n) := rfl
section MFAULT
variable {g : GC} {sg : SG} {I : IM} {x : XV} {tv : TV} {W : WV} {P K : SV} {np : Nat}
theorem D_begins (hK : MK sg) : Ct m_X6_begins g [rf g 92] sg I (fun r0 s0 J => r0 = none ∧ s0 = sg ∧ MDr J (initT, false) ∧ fF I J ∧ ∀ q, q ≠ 94 → J q = I q) := by
  obtain ⟨m0, mR1, mR3, mR4, mR5, mR6, mR7, mR8, mR10, mR16, mR17, mA93, mA94, mA95, mA96, mA97, mA98, mA99, mA100, mA101, mA102⟩ := hK
  refine Ct.of rfl (Nat.le_of_ble_eq_true rfl) fun X => ?_
  show V X _ sg I 0 [some (rf g 92), none] []
  obtain ⟨QQ, hQQ⟩ : ∃ QQ : Option Value → SG → IM → Prop, QQ = (fun r0 s0 J => r0 = none ∧ s0 = sg ∧ MDr J (initT, false) ∧ fF I J ∧ ∀ q, q ≠ 94 → J q = I q) := ⟨_, rfl⟩
  rw [← hQQ]
  have loop : ∀ (d k : Nat) (J : IM), 14 - k = d → 7 ≤ k → k ≤ 14 → fF I J → (∀ q, q ≠ 94 → J q = I q) → (∀ i, 7 ≤ i → i < k → J 94 i = nI (if i = 7 then 4 else 0)) → V X (ZQ X QQ) sg J 3 [some (rf g 92), some (.int (nI k))] [] := by
    intro d
    induction d with
    | zero =>
      intro k J hd h7 hk hf h1 h2
      have e : k = 14 := by omega
      subst e
      refine V_iload_n rfl dX6_begins_3 ?_
      refine V_bipush (nI 14) (by decide) dX6_begins_4 ?_
      refine V_icmp_geN 32 dX6_begins_6 (by decide) (by omega) (by omega) (fun h6 => ?_) (fun h6 => absurd h6 (by decide))
      refine V_vret rfl rfl rfl ?_ dX6_begins_32
      rw [hQQ]
      exact ⟨rfl, rfl, ⟨h2 7 (by decide) (by decide), h2 8 (by decide) (by decide), h2 9 (by decide) (by decide), h2 10 (by decide) (by decide), h2 11 (by decide) (by decide), h2 12 (by decide) (by decide), (h2 13 (by decide) (by decide)).trans (bI_f (by decide)).symm, fun k hk => absurd hk (Nat.not_lt_zero k), fun k hk => absurd hk (Nat.not_lt_zero k), fun k hk => absurd hk (Nat.not_lt_zero k), fun k hk => absurd hk (Nat.not_lt_zero k)⟩, hf, h1⟩
    | succ d ih =>
      intro k J hd h7 hk hf h1 h2
      have hst : ∀ v, v = nI (if k = 7 then 4 else 0) → V X (ZQ X QQ) sg J 25 [some (rf g 92), some (.int (nI k))] [.int v, .int (nI k), rf g 94] := by
        intro v hv
        refine V_iast _ (by assumption) rfl (by omega) (by omega) dX6_begins_25 ?_
        refine V_iinc1_ _ (nI_inc _) rfl rfl dX6_begins_26 ?_
        refine V_goto 3 dX6_begins_29 (by decide) ?_
        refine ih (k + 1) _ (by omega) (by omega) (by omega) (hf.trans (fF.up (Or.inr (Or.inl ⟨rfl, h7⟩)))) (fun q hq => (funext fun i => upI_ne (Or.inl hq)).trans (h1 q hq)) (fun i h3 h4 => ?_)
        by_cases c : i = k
        · rw [c, upI_eq]; exact hv
        · rw [upI_ne (Or.inr c)]; exact h2 i h3 (by omega)
      refine V_iload_n rfl dX6_begins_3 ?_
      refine V_bipush (nI 14) (by decide) dX6_begins_4 ?_
      refine V_icmp_geN 32 dX6_begins_6 (by decide) (by omega) (by omega) (fun h6 => absurd h6 (by omega)) (fun h6 => ?_)
      refine V_aload_n rfl dX6_begins_9 ?_
      refine gf_X6_13 (by assumption) (by assumption) rfl dX6_begins_10 ?_
      refine V_iload_n rfl dX6_begins_13 ?_
      refine V_iload_n rfl dX6_begins_14 ?_
      refine V_bipush (nI 7) (by decide) dX6_begins_15 ?_
      refine V_icmp_neN 24 dX6_begins_17 (by decide) (by omega) (by omega) (fun h17 => ?_) (fun h17 => ?_)
      · skip
        refine V_iconst (nI 0) (by decide) dX6_begins_24 ?_
        first
        | exact hst _ (by rw [if_pos h17])
        | exact hst _ (by rw [if_neg h17])
      · skip
        refine V_iconst (nI 4) (by decide) dX6_begins_20 ?_
        refine V_goto 25 dX6_begins_21 (by decide) ?_
        first
        | exact hst _ (by rw [if_pos h17])
        | exact hst _ (by rw [if_neg h17])
  refine V_bipush (nI 7) (by decide) dX6_begins_0 ?_
  refine V_ist1 rfl rfl dX6_begins_2 ?_
  exact loop 7 7 I rfl (by decide) (by decide) fF.refl (fun _ _ => rfl) (fun i h1 h2 => absurd h2 (by omega))
def ftQ (sg : SG) (I : IM) (x : XV) : Option Value → SG → IM → Prop := fun r0 s0 J => r0 = some (.int (fFault x)) ∧ s0 = sg ∧ fF I J ∧ (flt x = none → MDr J (rdF x 200 0 (initT, false)).2)
theorem D_fault0 (hK : MK sg) (hl : I 92 0 = nI x.1) (ht : ∀ i, i < x.1 → I 93 i = nI (x.2 i)) (hx : XVok x) : Ct m_X6_fault g [rf g 92] sg I (ftQ sg I x) := by
  have hK0 := hK
  obtain ⟨m0, mR1, mR3, mR4, mR5, mR6, mR7, mR8, mR10, mR16, mR17, mA93, mA94, mA95, mA96, mA97, mA98, mA99, mA100, mA101, mA102⟩ := hK
  have hx2 := hx.1
  refine Ct.of rfl (Nat.le_of_ble_eq_true rfl) fun X => ?_
  show V X _ sg I 0 [some (rf g 92), none] []
  have loop : ∀ (d p : Nat) (s : PS) (J : IM) (z : Option Value), x.1 - p ≤ d → p ≤ 220 → PSok s → rdF x 200 0 (initT, false) = rdF x d p s → fF I J → J 92 2 = nI p → MDr J s → V X (ZQ X (ftQ sg I x)) sg J 9 [some (rf g 92), z] [] := by
    intro d
    induction d with
    | zero =>
      intro p s J z hd hp hs hrd hf hj hD
      have e1 : flt x = none := by unfold flt; rw [hrd]; rfl
      have jl : J 92 0 = nI x.1 := (hf.2.1 0 (by decide)).trans hl
      refine V_aload_n rfl dX6_fault_9 ?_
      refine gfe_X6_60 (by assumption) (by assumption) rfl dX6_fault_10 ?_
      refine V_aload_n rfl dX6_fault_13 ?_
      refine gfe_X6_56 (by assumption) (by assumption) rfl dX6_fault_14 ?_
      refine V_icmp_geN 37 dX6_fault_17 (by decide) (by omega) (by omega) (fun h17 => ?_) (fun h17 => absurd h17 (by omega))
      refine V_bipush (-4) (by decide) dX6_fault_37 ?_
      refine V_iret rfl rfl rfl ?_ dX6_fault_39
      unfold ftQ fFault
      rw [e1, hrd]
      exact ⟨rfl, rfl, hf, fun _ => hD⟩
    | succ d ih =>
      intro p s J z hd hp hs hrd hf hj hD
      have jl : J 92 0 = nI x.1 := (hf.2.1 0 (by decide)).trans hl
      have jt : ∀ i, i < x.1 → J 93 i = nI (x.2 i) := fun i hi => by rw [hf.1 93 (by omega)]; exact ht i hi
      by_cases hpx : p < x.1
      · have hrd2 : rdF x (d + 1) p s = (match itF x s p with
          | none => (some p, s)
          | some y => rdF x d y.2 y.1) := by rw [rdF, if_pos hpx]; rfl
        refine V_aload_n rfl dX6_fault_9 ?_
        refine gfe_X6_60 (by assumption) (by assumption) rfl dX6_fault_10 ?_
        refine V_aload_n rfl dX6_fault_13 ?_
        refine gfe_X6_56 (by assumption) (by assumption) rfl dX6_fault_14 ?_
        refine V_icmp_geN 37 dX6_fault_17 (by decide) (by omega) (by omega) (fun h17 => absurd h17 (by omega)) (fun h17 => ?_)
        refine V_aload_n rfl dX6_fault_20 ?_
        refine gfe_X6_60 (by assumption) (by assumption) rfl dX6_fault_21 ?_
        refine V_ist1 rfl rfl dX6_fault_24 ?_
        refine V_aload_n rfl dX6_fault_25 ?_
        refine cl_X6_112 (D_isItem hK0 jl jt hx hj hpx hD hs.1) (by assumption) rfl rfl ft0 (Nat.le_of_ble_eq_true rfl) dX6_fault_26 (fun rr s9 J9 hq => ?_)
        cases hy : itF x s p with
        | none =>
          rw [hy] at hq hrd2
          obtain ⟨hs9, hfr, hq⟩ := hq
          have hq : rr = some (.int (nI 0)) := hq
          subst hq
          have hs9 := hs9.symm
          subst hs9
          have e1 : flt x = some p := by unfold flt; rw [hrd, hrd2]
          show V X _ sg J9 29 _ [.int (nI 0)]
          refine V_if_neN 34 dX6_fault_29 (by decide) (by omega) (fun h29 => absurd h29 (by decide)) (fun h29 => ?_)
          refine V_iload_n rfl dX6_fault_32 ?_
          refine V_iret rfl rfl rfl ?_ dX6_fault_33
          unfold ftQ fFault
          rw [e1]
          exact ⟨rfl, rfl, hf.trans hfr, fun z => by cases z⟩
        | some y =>
          rw [hy] at hq hrd2
          obtain ⟨hs9, hfr, hq, hq2, hq3⟩ : s9 = sg ∧ fF J J9 ∧ rr = some (.int (nI 1)) ∧ J9 92 2 = nI y.2 ∧ MDr J9 y.1 := hq
          subst hq
          have hs9 := hs9.symm
          subst hs9
          have hyl := itF_lt hy
          show V X _ sg J9 29 _ [.int (nI 1)]
          refine V_if_neN 34 dX6_fault_29 (by decide) (by omega) (fun h29 => ?_) (fun h29 => absurd h29 (by decide))
          refine V_goto 9 dX6_fault_34 (by decide) ?_
          exact ih y.2 y.1 J9 _ (by omega) (by omega) (it_ok hs hy) (hrd.trans hrd2) (hf.trans hfr) hq2 hq3
      · have hrd2 : rdF x (d + 1) p s = (none, s) := by rw [rdF, if_neg hpx]
        have e1 : flt x = none := by unfold flt; rw [hrd, hrd2]
        refine V_aload_n rfl dX6_fault_9 ?_
        refine gfe_X6_60 (by assumption) (by assumption) rfl dX6_fault_10 ?_
        refine V_aload_n rfl dX6_fault_13 ?_
        refine gfe_X6_56 (by assumption) (by assumption) rfl dX6_fault_14 ?_
        refine V_icmp_geN 37 dX6_fault_17 (by decide) (by omega) (by omega) (fun h17 => ?_) (fun h17 => absurd h17 (by omega))
        refine V_bipush (-4) (by decide) dX6_fault_37 ?_
        refine V_iret rfl rfl rfl ?_ dX6_fault_39
        unfold ftQ fFault
        rw [e1, hrd, hrd2]
        exact ⟨rfl, rfl, hf, fun _ => hD⟩
  have hf0 : fF I (upI I 92 2 (nI 0)) := fF.up (Or.inl ⟨rfl, rfl⟩)
  refine V_aload_n rfl dX6_fault_0 ?_
  refine V_iconst (nI 0) (by decide) dX6_fault_1 ?_
  refine pf_X6_60 (by assumption) rfl dX6_fault_2 ?_
  refine V_aload_n rfl dX6_fault_5 ?_
  refine cl_X6_42 (D_begins hK0) (by assumption) rfl rfl ft0 (Nat.le_of_ble_eq_true rfl) dX6_fault_6 (fun rr s9 J9 hq => ?_)
  obtain ⟨rfl, hs, q1, q2, q3⟩ := hq
  have hs := hs.symm
  subst hs
  show V X _ sg J9 9 _ []
  exact loop 200 0 (initT, false) J9 _ (by omega) (by decide) init_ok rfl (hf0.trans q2) ((congrFun (q3 92 (by decide)) 2).trans upI_eq) q1
theorem D_isLawful {w fr : Nat} {tb : TB} (hK : MK sg) (hL : dT I 95 fr 2 tb) (hn : tb.1 ≤ 10) (hfr : fr ≤ 20) (h16 : ∀ k, k < tb.1 → tb.2 k 0 < 16 ∧ tb.2 k 1 < 16) (hw : w < 65536) : Fn m_X6_isLawful g [rf g 92, .int (nI w), .int (nI fr), .int (nI tb.1)] sg I (some (.int (bI (allB tb.1 (fun k => !so (tb.2 k 0) w || so (tb.2 k 1) w) = true)))) sg I := by
  obtain ⟨m0, mR1, mR3, mR4, mR5, mR6, mR7, mR8, mR10, mR16, mR17, mA93, mA94, mA95, mA96, mA97, mA98, mA99, mA100, mA101, mA102⟩ := hK
  refine Ct.of rfl (Nat.le_of_ble_eq_true rfl) fun X => ?_
  show V X _ sg I 0 [some (rf g 92), some (.int (nI w)), some (.int (nI fr)), some (.int (nI tb.1)), none, none] []
  obtain ⟨F, hF⟩ : ∃ F : Nat → Bool, F = fun k => !so (tb.2 k 0) w || so (tb.2 k 1) w := ⟨_, rfl⟩
  rw [← hF]
  have loop : ∀ (d k : Nat), tb.1 - k = d → k ≤ tb.1 → V X (ZQ X (fun r0 s0 I0 => r0 = some (.int (bI (allB tb.1 F = true))) ∧ s0 = sg ∧ I0 = I)) sg I 6 [some (rf g 92), some (.int (nI w)), some (.int (nI fr)), some (.int (nI tb.1)), some (.int (bI (allB k F = true))), some (.int (nI k))] [] := by
    intro d
    induction d with
    | zero =>
      intro k hd hk
      have e : k = tb.1 := by omega
      subst e
      refine V_iload rfl dX6_isLawful_6 ?_
      refine V_iload_n rfl dX6_isLawful_8 ?_
      refine V_icmp_geN 68 dX6_isLawful_9 (by decide) (by omega) (by omega) (fun h9 => ?_) (fun h9 => absurd h9 (by omega))
      refine V_iload rfl dX6_isLawful_68 ?_
      refine V_zret rfl (bI_nar _) rfl rfl ?_ dX6_isLawful_70
      exact ⟨rfl, rfl, rfl⟩
    | succ d ih =>
      intro k hd hk
      have hkl : k < tb.1 := by omega
      have h8 := ih (k + 1) (by omega) (by omega)
      obtain ⟨h160, h161⟩ := h16 k hkl
      have hFk : F k = (!so (tb.2 k 0) w || so (tb.2 k 1) w) := by rw [hF]
      rw [allB_s, hFk] at h8
      have t0 : ¬ allB k F = true → ¬ (allB k F && (!so (tb.2 k 0) w || so (tb.2 k 1) w)) = true := fun a z => a (by rw [Bool.and_eq_true] at z; exact z.1)
      have t1 : ¬ so (tb.2 k 0) w = true → allB k F = true → (allB k F && (!so (tb.2 k 0) w || so (tb.2 k 1) w)) = true := fun a b => by simp [a, b]
      have t2 : so (tb.2 k 1) w = true → allB k F = true → (allB k F && (!so (tb.2 k 0) w || so (tb.2 k 1) w)) = true := fun a b => by simp [a, b]
      have t3 : so (tb.2 k 0) w = true → ¬ so (tb.2 k 1) w = true → ¬ (allB k F && (!so (tb.2 k 0) w || so (tb.2 k 1) w)) = true := fun a b => by simp [a, b]
      refine V_iload rfl dX6_isLawful_6 ?_
      refine V_iload_n rfl dX6_isLawful_8 ?_
      refine V_icmp_geN 68 dX6_isLawful_9 (by decide) (by omega) (by omega) (fun h9 => absurd h9 (by omega)) (fun h9 => ?_)
      refine V_iload rfl dX6_isLawful_12 ?_
      refine V_if_eqB 59 dX6_isLawful_14 (by decide) (fun h14 => ?_) (fun h14 => ?_)
      · skip
        refine V_iconst (nI 0) (by decide) dX6_isLawful_59 ?_
        refine V_ist4 rfl rfl dX6_isLawful_60 ?_
        refine V_iinc5_ _ (nI_inc _) rfl rfl dX6_isLawful_62 ?_
        refine V_goto 6 dX6_isLawful_65 (by decide) ?_
        first
        | (rw [bI_f (t0 h14)] at h8; exact h8)
        | (rw [bI_t (t1 h32 h14)] at h8; exact h8)
        | (rw [bI_t (t2 h52 h14)] at h8; exact h8)
        | (rw [bI_f (t3 h32 h52)] at h8; exact h8)
      · skip
        refine V_aload_n rfl dX6_isLawful_17 ?_
        refine gf_X6_17 (by assumption) (by assumption) rfl dX6_isLawful_18 ?_
        refine V_iload_n rfl dX6_isLawful_21 ?_
        refine V_iconst (nI 2) (by decide) dX6_isLawful_22 ?_
        refine V_iload rfl dX6_isLawful_23 ?_
        refine V_imulN dX6_isLawful_25 ?_
        refine V_iaddN dX6_isLawful_26 ?_
        refine V_iald _ (by assumption) rfl (by omega) (by omega) dX6_isLawful_27 ?_
        refine V_topi ((congrArg (I 95) (by omega)).trans (hL k hkl 0 (by decide))) ?_
        refine V_iload_n rfl dX6_isLawful_28 ?_
        refine cf_X6_91 (D_isSo (by omega) (by omega)) rfl rfl ft0 (Nat.le_of_ble_eq_true rfl) dX6_isLawful_29 ?_
        refine V_if_eqB 55 dX6_isLawful_32 (by decide) (fun h32 => ?_) (fun h32 => ?_)
        · skip
          refine V_iconst (nI 1) (by decide) dX6_isLawful_55 ?_
          refine V_goto 60 dX6_isLawful_56 (by decide) ?_
          refine V_ist4 rfl rfl dX6_isLawful_60 ?_
          refine V_iinc5_ _ (nI_inc _) rfl rfl dX6_isLawful_62 ?_
          refine V_goto 6 dX6_isLawful_65 (by decide) ?_
          first
          | (rw [bI_f (t0 h14)] at h8; exact h8)
          | (rw [bI_t (t1 h32 h14)] at h8; exact h8)
          | (rw [bI_t (t2 h52 h14)] at h8; exact h8)
          | (rw [bI_f (t3 h32 h52)] at h8; exact h8)
        · skip
          refine V_aload_n rfl dX6_isLawful_35 ?_
          refine gf_X6_17 (by assumption) (by assumption) rfl dX6_isLawful_36 ?_
          refine V_iload_n rfl dX6_isLawful_39 ?_
          refine V_iconst (nI 2) (by decide) dX6_isLawful_40 ?_
          refine V_iload rfl dX6_isLawful_41 ?_
          refine V_imulN dX6_isLawful_43 ?_
          refine V_iaddN dX6_isLawful_44 ?_
          refine V_iconst (nI 1) (by decide) dX6_isLawful_45 ?_
          refine V_iaddN dX6_isLawful_46 ?_
          refine V_iald _ (by assumption) rfl (by omega) (by omega) dX6_isLawful_47 ?_
          refine V_topi (hL k hkl 1 (by decide)) ?_
          refine V_iload_n rfl dX6_isLawful_48 ?_
          refine cf_X6_91 (D_isSo (by omega) (by omega)) rfl rfl ft0 (Nat.le_of_ble_eq_true rfl) dX6_isLawful_49 ?_
          refine V_if_eqB 59 dX6_isLawful_52 (by decide) (fun h52 => ?_) (fun h52 => ?_)
          · skip
            refine V_iconst (nI 0) (by decide) dX6_isLawful_59 ?_
            refine V_ist4 rfl rfl dX6_isLawful_60 ?_
            refine V_iinc5_ _ (nI_inc _) rfl rfl dX6_isLawful_62 ?_
            refine V_goto 6 dX6_isLawful_65 (by decide) ?_
            first
            | (rw [bI_f (t0 h14)] at h8; exact h8)
            | (rw [bI_t (t1 h32 h14)] at h8; exact h8)
            | (rw [bI_t (t2 h52 h14)] at h8; exact h8)
            | (rw [bI_f (t3 h32 h52)] at h8; exact h8)
          · skip
            refine V_iconst (nI 1) (by decide) dX6_isLawful_55 ?_
            refine V_goto 60 dX6_isLawful_56 (by decide) ?_
            refine V_ist4 rfl rfl dX6_isLawful_60 ?_
            refine V_iinc5_ _ (nI_inc _) rfl rfl dX6_isLawful_62 ?_
            refine V_goto 6 dX6_isLawful_65 (by decide) ?_
            first
            | (rw [bI_f (t0 h14)] at h8; exact h8)
            | (rw [bI_t (t1 h32 h14)] at h8; exact h8)
            | (rw [bI_t (t2 h52 h14)] at h8; exact h8)
            | (rw [bI_f (t3 h32 h52)] at h8; exact h8)
  have h0 := loop tb.1 0 rfl (Nat.zero_le _)
  rw [bI_t (show allB 0 F = true from rfl)] at h0
  refine V_iconst (nI 1) (by decide) dX6_isLawful_0 ?_
  refine V_ist4 rfl rfl dX6_isLawful_1 ?_
  refine V_iconst (nI 0) (by decide) dX6_isLawful_3 ?_
  refine V_ist5 rfl rfl dX6_isLawful_4 ?_
  exact h0
end MFAULT
