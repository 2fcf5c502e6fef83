/-! Town: its contracts (but reading a text) -/
def Cel (I : IM) (a w : Nat) (tb : TB) : Prop := ∀ k, k < tb.1 → ∀ c, c < w → I a (k * w + c) = nI (tb.2 k c)
def TownK (sg : SG) (T : Nat) : Prop := (sg.2.2.1 T).1 = 3 ∧ sg.2.2.2 T 0 = some (T + 1) ∧ sg.2.2.2 T 1 = some (T + 3) ∧ sg.2.2.2 T 2 = some (T + 5) ∧ sg.2.2.2 T 3 = some (T + 7) ∧ sg.2.2.2 T 4 = some (T + 9)
/-- a town's block of objects tells tv -/
def CTown (sg : SG) (I : IM) (T : Nat) (tv : TV) : Prop := TownK sg T ∧ I T 5 = nI (tF tv) ∧ I T 6 = nI (tX tv) ∧
  (Tab sg I (T + 1) (T + 2) 10 2 (tL tv).1 ∧ Cel I (T + 2) 2 (tL tv)) ∧ (Tab sg I (T + 3) (T + 4) 5 2 (tP tv).1 ∧ Cel I (T + 4) 2 (tP tv)) ∧
  (Tab sg I (T + 5) (T + 6) 5 3 (tS tv).1 ∧ Cel I (T + 6) 3 (tS tv)) ∧ (Tab sg I (T + 7) (T + 8) 6 3 (tB tv).1 ∧ Cel I (T + 8) 3 (tB tv))
def CWlds (sg : SG) (I : IM) (T : Nat) (tv : TV) : Prop := Tab sg I (T + 9) (T + 10) 256 2 (nw' tv) ∧ ∀ k, k < nw' tv → I (T + 10) (k * 2 + 0) = nI (wl tv k) ∧ I (T + 10) (k * 2 + 1) = nI (sim (tF tv) (wl tv k))
theorem CTown.other {sg : SG} {I J : IM} {T : Nat} {tv : TV} (h : CTown sg I T tv) (e : ∀ q, T ≤ q → q < T + 9 → J q = I q) : CTown sg J T tv := by
  obtain ⟨h1, h2, h3, ⟨a1, a2⟩, ⟨b1, b2⟩, ⟨c1, c2⟩, ⟨d1, d2⟩⟩ := h
  refine ⟨h1, by rw [e T (by omega) (by omega)]; exact h2, by rw [e T (by omega) (by omega)]; exact h3, ⟨a1.other (e _ (by omega) (by omega)), ?_⟩, ⟨b1.other (e _ (by omega) (by omega)), ?_⟩, ⟨c1.other (e _ (by omega) (by omega)), ?_⟩, ⟨d1.other (e _ (by omega) (by omega)), ?_⟩⟩
  · intro k hk c hc; rw [e _ (by omega) (by omega)]; exact a2 k hk c hc
  · intro k hk c hc; rw [e _ (by omega) (by omega)]; exact b2 k hk c hc
  · intro k hk c hc; rw [e _ (by omega) (by omega)]; exact c2 k hk c hc
  · intro k hk c hc; rw [e _ (by omega) (by omega)]; exact d2 k hk c hc
theorem CWlds.other {sg : SG} {I J : IM} {T : Nat} {tv : TV} (h : CWlds sg I T tv) (e : ∀ q, T + 9 ≤ q → q < T + 11 → J q = I q) : CWlds sg J T tv :=
  ⟨h.1.other (e _ (by omega) (by omega)), fun k hk => by rw [e (T + 10) (by omega) (by omega)]; exact h.2 k hk⟩
section TOWN
variable {g : GC} {sg : SG} {I : IM} {T : Nat} {tv : TV}
theorem C_isFact {f : Int32} (hk : (sg.2.2.1 T).1 = 3) (hF : I T 5 = nI (tF tv)) : Fn m_X3_isFact g [rf g T, .int f] sg I (some (.int (bI (0 ≤ f ∧ f < nI (tF tv))))) sg I := by
  refine Ct.of rfl (Nat.le_of_ble_eq_true rfl) fun X => ?_
  show V X _ sg I 0 [some (rf g T), some (.int f)] []
  refine V_iload_n rfl dX3_isFact_0 ?_
  refine V_if_lt 16 dX3_isFact_1 (by decide) (fun h1 => ?_) (fun h1 => ?_)
  · skip
    refine V_iconst (nI 0) (by decide) dX3_isFact_16 ?_
    refine V_zret rfl (rfl) rfl rfl ?_ dX3_isFact_17
    exact ⟨by first | rw [bI_t ⟨by rw [Int32.not_lt] at h1; exact h1, by rw [Int32.not_le] at h9; exact h9⟩] | rw [bI_f (fun z => absurd z.1 (by rw [Int32.not_le]; assumption))] | rw [bI_f (fun z => absurd z.2 (by rw [Int32.not_lt]; assumption))], rfl, rfl⟩
  · skip
    refine V_iload_n rfl dX3_isFact_4 ?_
    refine V_aload_n rfl dX3_isFact_5 ?_
    refine gfe_X3_35 (by assumption) (by assumption) rfl dX3_isFact_6 ?_
    refine V_icmp_ge 16 dX3_isFact_9 (by decide) (fun h9 => ?_) (fun h9 => ?_)
    · skip
      refine V_iconst (nI 0) (by decide) dX3_isFact_16 ?_
      refine V_zret rfl (rfl) rfl rfl ?_ dX3_isFact_17
      exact ⟨by first | rw [bI_t ⟨by rw [Int32.not_lt] at h1; exact h1, by rw [Int32.not_le] at h9; exact h9⟩] | rw [bI_f (fun z => absurd z.1 (by rw [Int32.not_le]; assumption))] | rw [bI_f (fun z => absurd z.2 (by rw [Int32.not_lt]; assumption))], rfl, rfl⟩
    · skip
      refine V_iconst (nI 1) (by decide) dX3_isFact_12 ?_
      refine V_goto 17 dX3_isFact_13 (by decide) ?_
      refine V_zret rfl (rfl) rfl rfl ?_ dX3_isFact_17
      exact ⟨by first | rw [bI_t ⟨by rw [Int32.not_lt] at h1; exact h1, by rw [Int32.not_le] at h9; exact h9⟩] | rw [bI_f (fun z => absurd z.1 (by rw [Int32.not_le]; assumption))] | rw [bI_f (fun z => absurd z.2 (by rw [Int32.not_lt]; assumption))], rfl, rfl⟩
theorem C_isSaying {f : Int32} (hk : (sg.2.2.1 T).1 = 3) (hF : I T 5 = nI (tF tv)) : Fn m_X3_isSaying g [rf g T, .int f] sg I (some (.int (bI (0 ≤ f ∧ f < nI (2 * tF tv))))) sg I := by
  refine Ct.of rfl (Nat.le_of_ble_eq_true rfl) fun X => ?_
  show V X _ sg I 0 [some (rf g T), some (.int f)] []
  refine V_iload_n rfl dX3_isSaying_0 ?_
  refine V_if_lt 18 dX3_isSaying_1 (by decide) (fun h1 => ?_) (fun h1 => ?_)
  · skip
    refine V_iconst (nI 0) (by decide) dX3_isSaying_18 ?_
    refine V_zret rfl (rfl) rfl rfl ?_ dX3_isSaying_19
    exact ⟨by first | rw [bI_t ⟨by rw [Int32.not_lt] at h1; exact h1, by rw [Int32.not_le] at h11; exact h11⟩] | rw [bI_f (fun z => absurd z.1 (by rw [Int32.not_le]; assumption))] | rw [bI_f (fun z => absurd z.2 (by rw [Int32.not_lt]; assumption))], rfl, rfl⟩
  · skip
    refine V_iload_n rfl dX3_isSaying_4 ?_
    refine V_iconst (nI 2) (by decide) dX3_isSaying_5 ?_
    refine V_aload_n rfl dX3_isSaying_6 ?_
    refine gfe_X3_35 (by assumption) (by assumption) rfl dX3_isSaying_7 ?_
    refine V_imulN dX3_isSaying_10 ?_
    refine V_icmp_ge 18 dX3_isSaying_11 (by decide) (fun h11 => ?_) (fun h11 => ?_)
    · skip
      refine V_iconst (nI 0) (by decide) dX3_isSaying_18 ?_
      refine V_zret rfl (rfl) rfl rfl ?_ dX3_isSaying_19
      exact ⟨by first | rw [bI_t ⟨by rw [Int32.not_lt] at h1; exact h1, by rw [Int32.not_le] at h11; exact h11⟩] | rw [bI_f (fun z => absurd z.1 (by rw [Int32.not_le]; assumption))] | rw [bI_f (fun z => absurd z.2 (by rw [Int32.not_lt]; assumption))], rfl, rfl⟩
    · skip
      refine V_iconst (nI 1) (by decide) dX3_isSaying_14 ?_
      refine V_goto 19 dX3_isSaying_15 (by decide) ?_
      refine V_zret rfl (rfl) rfl rfl ?_ dX3_isSaying_19
      exact ⟨by first | rw [bI_t ⟨by rw [Int32.not_lt] at h1; exact h1, by rw [Int32.not_le] at h11; exact h11⟩] | rw [bI_f (fun z => absurd z.1 (by rw [Int32.not_le]; assumption))] | rw [bI_f (fun z => absurd z.2 (by rw [Int32.not_lt]; assumption))], rfl, rfl⟩
theorem C_allFacts (hk : (sg.2.2.1 T).1 = 3) (hF : I T 5 = nI (tF tv)) (h8 : tF tv ≤ 8) : Fn m_X3_allFacts g [rf g T] sg I (some (.int (nI (2 ^ tF tv - 1)))) sg I := by
  have hp := p2_pos (tF tv)
  refine Ct.of rfl (Nat.le_of_ble_eq_true rfl) fun X => ?_
  show V X _ sg I 0 [some (rf g T)] []
  refine V_iconst (nI 1) (by decide) dX3_allFacts_0 ?_
  refine V_aload_n rfl dX3_allFacts_1 ?_
  refine gfe_X3_35 (by assumption) (by assumption) rfl dX3_allFacts_2 ?_
  refine V_ishl1N (by omega) dX3_allFacts_5 ?_
  refine V_iconst (nI 1) (by decide) dX3_allFacts_6 ?_
  refine V_isubN (by omega) dX3_allFacts_7 ?_
  refine V_iret rfl rfl rfl ?_ dX3_allFacts_8
  exact ⟨rfl, rfl, rfl⟩
theorem C_isSet {s0 : Int32} (hk : (sg.2.2.1 T).1 = 3) (hF : I T 5 = nI (tF tv)) (h8 : tF tv ≤ 8) : Fn m_X3_isSet g [rf g T, .int s0] sg I (some (.int (bI (0 ≤ s0 ∧ s0 ≤ nI (2 ^ tF tv - 1))))) sg I := by
  refine Ct.of rfl (Nat.le_of_ble_eq_true rfl) fun X => ?_
  show V X _ sg I 0 [some (rf g T), some (.int s0)] []
  refine V_iload_n rfl dX3_isSet_0 ?_
  refine V_if_lt 16 dX3_isSet_1 (by decide) (fun h1 => ?_) (fun h1 => ?_)
  · skip
    refine V_iconst (nI 0) (by decide) dX3_isSet_16 ?_
    refine V_zret rfl (rfl) rfl rfl ?_ dX3_isSet_17
    exact ⟨by first | rw [bI_t ⟨by rw [Int32.not_lt] at h1; exact h1, by rw [Int32.not_lt] at h9; exact h9⟩] | rw [bI_f (fun z => absurd z.1 (by rw [Int32.not_le]; assumption))] | rw [bI_f (fun z => absurd z.2 (by rw [Int32.not_le]; assumption))], rfl, rfl⟩
  · skip
    refine V_iload_n rfl dX3_isSet_4 ?_
    refine V_aload_n rfl dX3_isSet_5 ?_
    refine cf_X3_46 (C_allFacts hk hF h8) (by assumption) rfl rfl ft0 (Nat.le_of_ble_eq_true rfl) dX3_isSet_6 ?_
    refine V_icmp_gt 16 dX3_isSet_9 (by decide) (fun h9 => ?_) (fun h9 => ?_)
    · skip
      refine V_iconst (nI 0) (by decide) dX3_isSet_16 ?_
      refine V_zret rfl (rfl) rfl rfl ?_ dX3_isSet_17
      exact ⟨by first | rw [bI_t ⟨by rw [Int32.not_lt] at h1; exact h1, by rw [Int32.not_lt] at h9; exact h9⟩] | rw [bI_f (fun z => absurd z.1 (by rw [Int32.not_le]; assumption))] | rw [bI_f (fun z => absurd z.2 (by rw [Int32.not_le]; assumption))], rfl, rfl⟩
    · skip
      refine V_iconst (nI 1) (by decide) dX3_isSet_12 ?_
      refine V_goto 17 dX3_isSet_13 (by decide) ?_
      refine V_zret rfl (rfl) rfl rfl ?_ dX3_isSet_17
      exact ⟨by first | rw [bI_t ⟨by rw [Int32.not_lt] at h1; exact h1, by rw [Int32.not_lt] at h9; exact h9⟩] | rw [bI_f (fun z => absurd z.1 (by rw [Int32.not_le]; assumption))] | rw [bI_f (fun z => absurd z.2 (by rw [Int32.not_le]; assumption))], rfl, rfl⟩
theorem C_isWorld {s : Nat} (hT : CTown sg I T tv) (hok : TVok tv) (hs : s < 2 ^ tF tv) : Fn m_X3_isWorld g [rf g T, .int (nI s)] sg I (some (.int (bI (lawB tv s = true)))) sg I := by
  obtain ⟨⟨hk, r0, r1, r2, r3, r4⟩, hF, hX, ⟨hL, cL⟩, -⟩ := hT
  have hkL := hL.1
  have h256 := p2_le8 hok.2.1
  have hn10 := hok.2.2.2.2.2.2.2.1
  have hrng := hok.2.2.2.1
  have hF8 := hok.2.1
  refine Ct.of rfl (Nat.le_of_ble_eq_true rfl) fun X => ?_
  show V X _ sg I 0 [some (rf g T), some (.int (nI s)), none] []
  have loop : ∀ (d k : Nat), (tL tv).1 - k = d → k ≤ (tL tv).1 → (∀ i, i < k → (!so ((tL tv).2 i 0) s || so ((tL tv).2 i 1) s) = true) →
      V X (ZQ X (fun r0 s0 I0 => r0 = some (.int (bI (lawB tv s = true))) ∧ s0 = sg ∧ I0 = I)) sg I 2 [some (rf g T), some (.int (nI s)), some (.int (nI k))] [] := by
    intro d
    induction d with
    | zero =>
      intro k hd hkn hall
      have e : k = (tL tv).1 := by omega
      subst e
      have hb : lawB tv s = true := allB_iff.mpr hall
      refine V_iload_n rfl dX3_isWorld_2 ?_
      refine V_aload_n rfl dX3_isWorld_3 ?_
      refine gf_X3_14 (by assumption) (by assumption) rfl dX3_isWorld_4 ?_
      refine cf_X3_50 (C_size hL) (by assumption) rfl rfl ft0 (Nat.le_of_ble_eq_true rfl) dX3_isWorld_7 ?_
      refine V_icmp_geN 53 dX3_isWorld_10 (by decide) (by omega) (by omega) (fun h10 => ?_) (fun h10 => absurd h10 (by omega))
      refine V_aload_n rfl dX3_isWorld_53 ?_
      refine V_iload_n rfl dX3_isWorld_54 ?_
      refine cf_X3_61 (C_isSet hk hF hF8) (by assumption) rfl rfl ft0 (Nat.le_of_ble_eq_true rfl) dX3_isWorld_55 ?_
      refine V_zret rfl (bI_nar _) rfl rfl ?_ dX3_isWorld_58
      exact ⟨by rw [bI_t hb, bI_t ⟨nI_ge0 (by omega), (nI_leI (by omega) (by omega)).mpr (by omega)⟩], rfl, rfl⟩
    | succ d ih =>
      intro k hd hkn hall
      have hkl : k < (tL tv).1 := by omega
      have e0 := cL k hkl 0 (by decide)
      have e1 := cL k hkl 1 (by decide)
      obtain ⟨g0, g1⟩ := hrng k hkl
      refine V_iload_n rfl dX3_isWorld_2 ?_
      refine V_aload_n rfl dX3_isWorld_3 ?_
      refine gf_X3_14 (by assumption) (by assumption) rfl dX3_isWorld_4 ?_
      refine cf_X3_50 (C_size hL) (by assumption) rfl rfl ft0 (Nat.le_of_ble_eq_true rfl) dX3_isWorld_7 ?_
      refine V_icmp_geN 53 dX3_isWorld_10 (by decide) (by omega) (by omega) (fun h10 => absurd h10 (by omega)) (fun h10 => ?_)
      refine V_aload_n rfl dX3_isWorld_13 ?_
      refine gf_X3_14 (by assumption) (by assumption) rfl dX3_isWorld_14 ?_
      refine V_iload_n rfl dX3_isWorld_17 ?_
      refine V_iconst (nI 0) (by decide) dX3_isWorld_18 ?_
      refine cf_X3_53 (C_get (c := 0) hL (by omega) (by decide)) (by assumption) rfl rfl ft0 (Nat.le_of_ble_eq_true rfl) dX3_isWorld_19 ?_
      rw [if_pos hkl, e0]
      refine V_iload_n rfl dX3_isWorld_22 ?_
      refine cf_X3_57 (C_isSo (by omega) (by omega)) rfl rfl ft0 (Nat.le_of_ble_eq_true rfl) dX3_isWorld_23 ?_
      refine V_if_eqB 47 dX3_isWorld_26 (by decide) (fun h26 => ?_) (fun h26 => ?_)
      · skip
        refine V_iinc2_ _ (nI_inc _) rfl rfl dX3_isWorld_47 ?_
        refine V_goto 2 dX3_isWorld_50 (by decide) ?_
        refine ih (k + 1) (by omega) (by omega) (fun i hi => ?_)
        by_cases e : i = k
        · subst e
          first | (rw [h42]; simp) | (simp at h26; rw [h26]; simp)
        · exact hall i (by omega)
      · skip
        refine V_aload_n rfl dX3_isWorld_29 ?_
        refine gf_X3_14 (by assumption) (by assumption) rfl dX3_isWorld_30 ?_
        refine V_iload_n rfl dX3_isWorld_33 ?_
        refine V_iconst (nI 1) (by decide) dX3_isWorld_34 ?_
        refine cf_X3_53 (C_get (c := 1) hL (by omega) (by decide)) (by assumption) rfl rfl ft0 (Nat.le_of_ble_eq_true rfl) dX3_isWorld_35 ?_
        rw [if_pos hkl, e1]
        refine V_iload_n rfl dX3_isWorld_38 ?_
        refine cf_X3_57 (C_isSo (by omega) (by omega)) rfl rfl ft0 (Nat.le_of_ble_eq_true rfl) dX3_isWorld_39 ?_
        refine V_if_neB 47 dX3_isWorld_42 (by decide) (fun h42 => ?_) (fun h42 => ?_)
        · skip
          refine V_iinc2_ _ (nI_inc _) rfl rfl dX3_isWorld_47 ?_
          refine V_goto 2 dX3_isWorld_50 (by decide) ?_
          refine ih (k + 1) (by omega) (by omega) (fun i hi => ?_)
          by_cases e : i = k
          · subst e
            first | (rw [h42]; simp) | (simp at h26; rw [h26]; simp)
          · exact hall i (by omega)
        · skip
          refine V_iconst (nI 0) (by decide) dX3_isWorld_45 ?_
          refine V_zret rfl (rfl) rfl rfl ?_ dX3_isWorld_46
          exact ⟨by rw [bI_f (fun z => by have h9 := allB_iff.mp z k hkl; simp at h42; rw [h26, h42] at h9; cases h9)], rfl, rfl⟩
  refine V_iconst (nI 0) (by decide) dX3_isWorld_0 ?_
  refine V_ist2 rfl rfl dX3_isWorld_1 ?_
  exact loop (tL tv).1 0 (by omega) (by omega) (fun i hi => absurd hi (Nat.not_lt_zero i))
theorem C_sayingsIn {s : Nat} (hk : (sg.2.2.1 T).1 = 3) (hF : I T 5 = nI (tF tv)) (h8 : tF tv ≤ 8) (hs : s < 256) : Fn m_X3_sayingsIn g [rf g T, .int (nI s)] sg I (some (.int (nI (sim (tF tv) s)))) sg I := by
  refine Ct.of rfl (Nat.le_of_ble_eq_true rfl) fun X => ?_
  show V X _ sg I 0 [some (rf g T), some (.int (nI s)), none, none] []
  have loop : ∀ (d k : Nat), tF tv - k = d → k ≤ tF tv →
      V X (ZQ X (fun r0 s0 I0 => r0 = some (.int (nI (sim (tF tv) s))) ∧ s0 = sg ∧ I0 = I)) sg I 4 [some (rf g T), some (.int (nI s)), some (.int (nI (sim k s))), some (.int (nI k))] [] := by
    intro d
    induction d with
    | zero =>
      intro k hd hkn
      have e : k = tF tv := by omega
      subst e
      refine V_iload_n rfl dX3_sayingsIn_4 ?_
      refine V_aload_n rfl dX3_sayingsIn_5 ?_
      refine gfe_X3_35 (by assumption) (by assumption) rfl dX3_sayingsIn_6 ?_
      refine V_icmp_geN 28 dX3_sayingsIn_9 (by decide) (by omega) (by omega) (fun h9 => ?_) (fun h9 => absurd h9 (by omega))
      refine V_iload_n rfl dX3_sayingsIn_28 ?_
      refine V_iret rfl rfl rfl ?_ dX3_sayingsIn_29
      exact ⟨rfl, rfl, rfl⟩
    | succ d ih =>
      intro k hd hkn
      have ht := tsy_lt (f := k) (n := 8) (s := s) (by omega)
      refine V_iload_n rfl dX3_sayingsIn_4 ?_
      refine V_aload_n rfl dX3_sayingsIn_5 ?_
      refine gfe_X3_35 (by assumption) (by assumption) rfl dX3_sayingsIn_6 ?_
      refine V_icmp_geN 28 dX3_sayingsIn_9 (by decide) (by omega) (by omega) (fun h9 => absurd h9 (by omega)) (fun h9 => ?_)
      refine V_iload_n rfl dX3_sayingsIn_12 ?_
      refine V_iconst (nI 1) (by decide) dX3_sayingsIn_13 ?_
      refine V_iload_n rfl dX3_sayingsIn_14 ?_
      refine V_iload_n rfl dX3_sayingsIn_15 ?_
      refine cf_X3_76 (C_trueSaying (by omega) (by omega)) rfl rfl ft0 (Nat.le_of_ble_eq_true rfl) dX3_sayingsIn_16 ?_
      refine V_ishl1N (by omega) dX3_sayingsIn_19 ?_
      refine V_iorN dX3_sayingsIn_20 ?_
      rw [← sim_step]
      refine V_ist2 rfl rfl dX3_sayingsIn_21 ?_
      refine V_iinc3_ _ (nI_inc _) rfl rfl dX3_sayingsIn_22 ?_
      refine V_goto 4 dX3_sayingsIn_25 (by decide) ?_
      exact ih (k + 1) (by omega) (by omega)
  refine V_iconst (nI 0) (by decide) dX3_sayingsIn_0 ?_
  refine V_ist2 rfl rfl dX3_sayingsIn_1 ?_
  refine V_iconst (nI 0) (by decide) dX3_sayingsIn_2 ?_
  refine V_ist3 rfl rfl dX3_sayingsIn_3 ?_
  exact loop (tF tv) 0 (by omega) (by omega)
theorem C_factsSaid {m b : Nat} (hk : (sg.2.2.1 T).1 = 3) (hF : I T 5 = nI (tF tv)) (h8 : tF tv ≤ 8) (hm : m < 65536) (hb : b < 2) : Fn m_X3_factsSaid g [rf g T, .int (nI m), .int (nI b)] sg I (some (.int (nI (bm (tF tv) (fun f => m.testBit (2 * f + b)))))) sg I := by
  refine Ct.of rfl (Nat.le_of_ble_eq_true rfl) fun X => ?_
  show V X _ sg I 0 [some (rf g T), some (.int (nI m)), some (.int (nI b)), none, none] []
  have loop : ∀ (d k : Nat), tF tv - k = d → k ≤ tF tv →
      V X (ZQ X (fun r0 s0 I0 => r0 = some (.int (nI (bm (tF tv) (fun f => m.testBit (2 * f + b))))) ∧ s0 = sg ∧ I0 = I)) sg I 5 [some (rf g T), some (.int (nI m)), some (.int (nI b)), some (.int (nI (bm k (fun f => m.testBit (2 * f + b))))), some (.int (nI k))] [] := by
    intro d
    induction d with
    | zero =>
      intro k hd hkn
      have e : k = tF tv := by omega
      subst e
      refine V_iload rfl dX3_factsSaid_5 ?_
      refine V_aload_n rfl dX3_factsSaid_7 ?_
      refine gfe_X3_35 (by assumption) (by assumption) rfl dX3_factsSaid_8 ?_
      refine V_icmp_geN 36 dX3_factsSaid_11 (by decide) (by omega) (by omega) (fun h11 => ?_) (fun h11 => absurd h11 (by omega))
      refine V_iload_n rfl dX3_factsSaid_36 ?_
      refine V_iret rfl rfl rfl ?_ dX3_factsSaid_37
      exact ⟨rfl, rfl, rfl⟩
    | succ d ih =>
      intro k hd hkn
      have hq : m / 2 ^ (2 * k + b) % 2 * 2 ^ k = if m.testBit (2 * k + b) then 2 ^ k else 0 := by
        rw [Nat.testBit_eq_decide_div_mod_eq]
        have h2 : m / 2 ^ (2 * k + b) % 2 = 0 ∨ m / 2 ^ (2 * k + b) % 2 = 1 := by omega
        rcases h2 with e | e <;> simp [e]
      have hq2 : m / 2 ^ (2 * k + b) % 2 * 2 ^ k < 4294967296 := by
        have h3 : 2 ^ k ≤ 2 ^ 8 := Nat.pow_le_pow_right (by decide) (by omega)
        have h4 : m / 2 ^ (2 * k + b) % 2 * 2 ^ k ≤ 1 * 2 ^ k := Nat.mul_le_mul_right _ (by omega)
        omega
      refine V_iload rfl dX3_factsSaid_5 ?_
      refine V_aload_n rfl dX3_factsSaid_7 ?_
      refine gfe_X3_35 (by assumption) (by assumption) rfl dX3_factsSaid_8 ?_
      refine V_icmp_geN 36 dX3_factsSaid_11 (by decide) (by omega) (by omega) (fun h11 => absurd h11 (by omega)) (fun h11 => ?_)
      refine V_iload_n rfl dX3_factsSaid_14 ?_
      refine V_iload_n rfl dX3_factsSaid_15 ?_
      refine V_iconst (nI 2) (by decide) dX3_factsSaid_16 ?_
      refine V_iload rfl dX3_factsSaid_17 ?_
      refine V_imulN dX3_factsSaid_19 ?_
      refine V_iload_n rfl dX3_factsSaid_20 ?_
      refine V_iaddN dX3_factsSaid_21 ?_
      refine V_ishrN (by omega) dX3_factsSaid_22 ?_
      refine V_iconst (nI 1) (by decide) dX3_factsSaid_23 ?_
      refine V_iand1N dX3_factsSaid_24 ?_
      refine V_iload rfl dX3_factsSaid_25 ?_
      refine V_ishl dX3_factsSaid_27 ?_
      refine V_topi (nI_shl (by omega) hq2) ?_
      rw [hq]
      refine V_iorN dX3_factsSaid_28 ?_
      rw [← bm_succ k (fun f => m.testBit (2 * f + b))]
      refine V_ist3 rfl rfl dX3_factsSaid_29 ?_
      refine V_iinc4_ _ (nI_inc _) rfl rfl dX3_factsSaid_30 ?_
      refine V_goto 5 dX3_factsSaid_33 (by decide) ?_
      exact ih (k + 1) (by omega) (by omega)
  refine V_iconst (nI 0) (by decide) dX3_factsSaid_0 ?_
  refine V_ist3 rfl rfl dX3_factsSaid_1 ?_
  refine V_iconst (nI 0) (by decide) dX3_factsSaid_2 ?_
  refine V_ist4 rfl rfl dX3_factsSaid_3 ?_
  exact loop (tF tv) 0 (by omega) (by omega)
theorem C_hoursAt {s : Nat} (hT : CTown sg I T tv) (hok : TVok tv) (hs : s < (tS tv).1) : Fn m_X3_hoursAt g [rf g T, .int (nI s)] sg I (some (.int (nI (hrsN tv s)))) sg I := by
  obtain ⟨⟨hk, r0, r1, r2, r3, r4⟩, hF, hX, -, -, ⟨hS, cS⟩, -⟩ := hT
  have hkS := hS.1
  have hn5 := hS.2.2.2.2.2.2.1
  have e2 := cS s hs 2 (by decide)
  have e1 := cS s hs 1 (by decide)
  have hr := hok.2.2.2.2.2.1 s hs
  refine Ct.of rfl (Nat.le_of_ble_eq_true rfl) fun X => ?_
  show V X _ sg I 0 [some (rf g T), some (.int (nI s))] []
  refine V_aload_n rfl dX3_hoursAt_0 ?_
  refine gf_X3_23 (by assumption) (by assumption) rfl dX3_hoursAt_1 ?_
  refine V_iload_n rfl dX3_hoursAt_4 ?_
  refine V_iconst (nI 2) (by decide) dX3_hoursAt_5 ?_
  refine cf_X3_53 (C_get (c := 2) hS (by omega) (by decide)) (by assumption) rfl rfl ft0 (Nat.le_of_ble_eq_true rfl) dX3_hoursAt_6 ?_
  rw [if_pos hs, e2]
  refine V_iconst (nI 2) (by decide) dX3_hoursAt_9 ?_
  refine V_icmp_neN 17 dX3_hoursAt_10 (by decide) (by omega) (by omega) (fun h10 => ?_) (fun h10 => ?_)
  · skip
    refine V_aload_n rfl dX3_hoursAt_17 ?_
    refine gf_X3_23 (by assumption) (by assumption) rfl dX3_hoursAt_18 ?_
    refine V_iload_n rfl dX3_hoursAt_21 ?_
    refine V_iconst (nI 1) (by decide) dX3_hoursAt_22 ?_
    refine cf_X3_53 (C_get (c := 1) hS (by omega) (by decide)) (by assumption) rfl rfl ft0 (Nat.le_of_ble_eq_true rfl) dX3_hoursAt_23 ?_
    try rw [if_pos hs, e1]
    refine V_iret rfl rfl rfl ?_ dX3_hoursAt_26
    exact ⟨by unfold hrsN; first | rw [if_pos h10] | rw [if_neg h10], rfl, rfl⟩
  · skip
    refine V_iconst (nI 1) (by decide) dX3_hoursAt_13 ?_
    refine V_goto 26 dX3_hoursAt_14 (by decide) ?_
    try rw [if_pos hs, e1]
    refine V_iret rfl rfl rfl ?_ dX3_hoursAt_26
    exact ⟨by unfold hrsN; first | rw [if_pos h10] | rw [if_neg h10], rfl, rfl⟩
theorem C_wearsOff {s hd : Nat} (hT : CTown sg I T tv) (hok : TVok tv) (hs : s < (tS tv).1) (hhd : hd < 2147483648) : Fn m_X3_wearsOff g [rf g T, .int (nI s), .int (nI hd)] sg I (some (.int (bI (wornB tv s hd = true)))) sg I := by
  obtain ⟨⟨hk, r0, r1, r2, r3, r4⟩, hF, hX, -, -, ⟨hS, cS⟩, -⟩ := hT
  have hkS := hS.1
  have hn5 := hS.2.2.2.2.2.2.1
  have e2 := cS s hs 2 (by decide)
  have e1 := cS s hs 1 (by decide)
  have hr := hok.2.2.2.2.2.1 s hs
  have key : wornB tv s hd = true ↔ ((tS tv).2 s 2 = 1 ∧ (tS tv).2 s 1 ≤ hd) ∨ ((tS tv).2 s 2 = 2 ∧ 2 ≤ hd) := by
    unfold wornB; simp
  refine Ct.of rfl (Nat.le_of_ble_eq_true rfl) fun X => ?_
  show V X _ sg I 0 [some (rf g T), some (.int (nI s)), some (.int (nI hd)), none] []
  refine V_aload_n rfl dX3_wearsOff_0 ?_
  refine gf_X3_23 (by assumption) (by assumption) rfl dX3_wearsOff_1 ?_
  refine V_iload_n rfl dX3_wearsOff_4 ?_
  refine V_iconst (nI 2) (by decide) dX3_wearsOff_5 ?_
  refine cf_X3_53 (C_get (c := 2) hS (by omega) (by decide)) (by assumption) rfl rfl ft0 (Nat.le_of_ble_eq_true rfl) dX3_wearsOff_6 ?_
  rw [if_pos hs, e2]
  refine V_ist3 rfl rfl dX3_wearsOff_9 ?_
  refine V_iload_n rfl dX3_wearsOff_10 ?_
  refine V_iconst (nI 1) (by decide) dX3_wearsOff_11 ?_
  refine V_icmp_neN 28 dX3_wearsOff_12 (by decide) (by omega) (by omega) (fun h12 => ?_) (fun h12 => ?_)
  · skip
    refine V_iload_n rfl dX3_wearsOff_28 ?_
    refine V_iconst (nI 2) (by decide) dX3_wearsOff_29 ?_
    refine V_icmp_neN 42 dX3_wearsOff_30 (by decide) (by omega) (by omega) (fun h30 => ?_) (fun h30 => ?_)
    · skip
      refine V_iconst (nI 0) (by decide) dX3_wearsOff_42 ?_
      refine V_zret rfl (rfl) rfl rfl ?_ dX3_wearsOff_43
      first
      | (exfalso; omega)
      | exact ⟨by first | rw [bI_t (key.mpr (by omega))] | rw [bI_f (fun z => absurd (key.mp z) (by omega))], rfl, rfl⟩
    · skip
      refine V_iload_n rfl dX3_wearsOff_33 ?_
      refine V_iconst (nI 2) (by decide) dX3_wearsOff_34 ?_
      refine V_icmp_ltN 42 dX3_wearsOff_35 (by decide) (by omega) (by omega) (fun h35 => ?_) (fun h35 => ?_)
      · skip
        refine V_iconst (nI 0) (by decide) dX3_wearsOff_42 ?_
        refine V_zret rfl (rfl) rfl rfl ?_ dX3_wearsOff_43
        first
        | (exfalso; omega)
        | exact ⟨by first | rw [bI_t (key.mpr (by omega))] | rw [bI_f (fun z => absurd (key.mp z) (by omega))], rfl, rfl⟩
      · skip
        refine V_iconst (nI 1) (by decide) dX3_wearsOff_38 ?_
        refine V_goto 43 dX3_wearsOff_39 (by decide) ?_
        refine V_zret rfl (rfl) rfl rfl ?_ dX3_wearsOff_43
        first
        | (exfalso; omega)
        | exact ⟨by first | rw [bI_t (key.mpr (by omega))] | rw [bI_f (fun z => absurd (key.mp z) (by omega))], rfl, rfl⟩
  · skip
    refine V_iload_n rfl dX3_wearsOff_15 ?_
    refine V_aload_n rfl dX3_wearsOff_16 ?_
    refine gf_X3_23 (by assumption) (by assumption) rfl dX3_wearsOff_17 ?_
    refine V_iload_n rfl dX3_wearsOff_20 ?_
    refine V_iconst (nI 1) (by decide) dX3_wearsOff_21 ?_
    refine cf_X3_53 (C_get (c := 1) hS (by omega) (by decide)) (by assumption) rfl rfl ft0 (Nat.le_of_ble_eq_true rfl) dX3_wearsOff_22 ?_
    rw [if_pos hs, e1]
    refine V_icmp_geN 38 dX3_wearsOff_25 (by decide) (by omega) (by omega) (fun h25 => ?_) (fun h25 => ?_)
    · skip
      refine V_iconst (nI 1) (by decide) dX3_wearsOff_38 ?_
      refine V_goto 43 dX3_wearsOff_39 (by decide) ?_
      refine V_zret rfl (rfl) rfl rfl ?_ dX3_wearsOff_43
      first
      | (exfalso; omega)
      | exact ⟨by first | rw [bI_t (key.mpr (by omega))] | rw [bI_f (fun z => absurd (key.mp z) (by omega))], rfl, rfl⟩
    · skip
      refine V_iload_n rfl dX3_wearsOff_28 ?_
      refine V_iconst (nI 2) (by decide) dX3_wearsOff_29 ?_
      refine V_icmp_neN 42 dX3_wearsOff_30 (by decide) (by omega) (by omega) (fun h30 => ?_) (fun h30 => ?_)
      · skip
        refine V_iconst (nI 0) (by decide) dX3_wearsOff_42 ?_
        refine V_zret rfl (rfl) rfl rfl ?_ dX3_wearsOff_43
        first
        | (exfalso; omega)
        | exact ⟨by first | rw [bI_t (key.mpr (by omega))] | rw [bI_f (fun z => absurd (key.mp z) (by omega))], rfl, rfl⟩
      · skip
        refine V_iload_n rfl dX3_wearsOff_33 ?_
        refine V_iconst (nI 2) (by decide) dX3_wearsOff_34 ?_
        refine V_icmp_ltN 42 dX3_wearsOff_35 (by decide) (by omega) (by omega) (fun h35 => ?_) (fun h35 => ?_)
        · skip
          refine V_iconst (nI 0) (by decide) dX3_wearsOff_42 ?_
          refine V_zret rfl (rfl) rfl rfl ?_ dX3_wearsOff_43
          first
          | (exfalso; omega)
          | exact ⟨by first | rw [bI_t (key.mpr (by omega))] | rw [bI_f (fun z => absurd (key.mp z) (by omega))], rfl, rfl⟩
        · skip
          refine V_iconst (nI 1) (by decide) dX3_wearsOff_38 ?_
          refine V_goto 43 dX3_wearsOff_39 (by decide) ?_
          refine V_zret rfl (rfl) rfl rfl ?_ dX3_wearsOff_43
          first
          | (exfalso; omega)
          | exact ⟨by first | rw [bI_t (key.mpr (by omega))] | rw [bI_f (fun z => absurd (key.mp z) (by omega))], rfl, rfl⟩
theorem hbN_lt {srv : Nat} : ∀ {k j : Nat}, hbN tv srv k = some j → j < k
  | 0, j, h => by cases h
  | k + 1, j, h => by
    unfold hbN at h
    split at h
    · have := hbN_lt h; omega
    · cases hb : hbN tv srv k with
      | none => rw [hb] at h; cases h; omega
      | some i =>
        rw [hb] at h
        have h1 := hbN_lt hb
        simp only [] at h
        split at h <;> cases h <;> omega
theorem hb_skip {srv k : Nat} (h : srv.testBit k = true) : hbN tv srv (k + 1) = hbN tv srv k := by
  unfold hbN; rw [if_pos h]
  cases k <;> rfl
theorem hb_none {srv k : Nat} (h : srv.testBit k = false) (hb : hbN tv srv k = none) : hbN tv srv (k + 1) = some k := by
  unfold hbN; rw [if_neg (by rw [h]; decide), hb]
theorem hb_up {srv k j : Nat} (h : srv.testBit k = false) (hb : hbN tv srv k = some j) (ho : (tB tv).2 j 2 < (tB tv).2 k 2) : hbN tv srv (k + 1) = some k := by
  unfold hbN; rw [if_neg (by rw [h]; decide), hb]; exact if_pos ho
theorem hb_stay {srv k j : Nat} (h : srv.testBit k = false) (hb : hbN tv srv k = some j) (ho : ¬ (tB tv).2 j 2 < (tB tv).2 k 2) : hbN tv srv (k + 1) = some j := by
  unfold hbN; rw [if_neg (by rw [h]; decide), hb]; exact if_neg ho
theorem C_highestBid {srv : Nat} (hT : CTown sg I T tv) (hok : TVok tv) (hsv : srv < 2147483648) : Fn m_X3_highestBidBut g [rf g T, .int (nI srv)] sg I (some (.int (oI (hbN tv srv (tB tv).1)))) sg I := by
  obtain ⟨⟨hk, r0, r1, r2, r3, r4⟩, hF, hX, -, -, -, ⟨hB, cB⟩⟩ := hT
  have hkB := hB.1
  have hn6 := hB.2.2.2.2.2.2.1
  have hr := hok.2.2.2.2.2.2.1
  refine Ct.of rfl (Nat.le_of_ble_eq_true rfl) fun X => ?_
  show V X _ sg I 0 [some (rf g T), some (.int (nI srv)), none, none, none] []
  have loop : ∀ (d k : Nat) (x : Option Value), (tB tv).1 - k = d → k ≤ (tB tv).1 →
      V X (ZQ X (fun r0 s0 I0 => r0 = some (.int (oI (hbN tv srv (tB tv).1))) ∧ s0 = sg ∧ I0 = I)) sg I 4 [some (rf g T), some (.int (nI srv)), some (.int (oI (hbN tv srv k))), some (.int (nI k)), x] [] := by
    intro d
    induction d with
    | zero =>
      intro k x hd hkn
      have e : k = (tB tv).1 := by omega
      subst e
      refine V_iload_n rfl dX3_highestBidBut_4 ?_
      refine V_aload_n rfl dX3_highestBidBut_5 ?_
      refine gf_X3_26 (by assumption) (by assumption) rfl dX3_highestBidBut_6 ?_
      refine cf_X3_50 (C_size hB) (by assumption) rfl rfl ft0 (Nat.le_of_ble_eq_true rfl) dX3_highestBidBut_9 ?_
      refine V_icmp_geN 68 dX3_highestBidBut_12 (by decide) (by omega) (by omega) (fun h12 => ?_) (fun h12 => absurd h12 (by omega))
      refine V_iload_n rfl dX3_highestBidBut_68 ?_
      refine V_iret rfl rfl rfl ?_ dX3_highestBidBut_69
      exact ⟨rfl, rfl, rfl⟩
    | succ d ih =>
      intro k x hd hkn
      have hkl : k < (tB tv).1 := by omega
      have hrk := hr k hkl
      have ek := cB k hkl 2 (by decide)
      have hm : srv / 2 ^ k % 2 = 0 ∨ srv / 2 ^ k % 2 = 1 := by omega
      have htb := @Nat.testBit_eq_decide_div_mod_eq k srv
      cases hb : hbN tv srv k with
      | none =>
        refine V_iload_n rfl dX3_highestBidBut_4 ?_
        refine V_aload_n rfl dX3_highestBidBut_5 ?_
        refine gf_X3_26 (by assumption) (by assumption) rfl dX3_highestBidBut_6 ?_
        refine cf_X3_50 (C_size hB) (by assumption) rfl rfl ft0 (Nat.le_of_ble_eq_true rfl) dX3_highestBidBut_9 ?_
        refine V_icmp_geN 68 dX3_highestBidBut_12 (by decide) (by omega) (by omega) (fun h12 => absurd h12 (by omega)) (fun h12 => ?_)
        refine V_iload_n rfl dX3_highestBidBut_15 ?_
        refine V_iload_n rfl dX3_highestBidBut_16 ?_
        refine V_ishrN ⟨hsv, by omega⟩ dX3_highestBidBut_17 ?_
        refine V_iconst (nI 1) (by decide) dX3_highestBidBut_18 ?_
        refine V_iand1N dX3_highestBidBut_19 ?_
        refine V_if_neN 27 dX3_highestBidBut_20 (by decide) (by omega) (fun h20 => ?_) (fun h20 => ?_)
        · skip
          refine V_iconst (nI 0) (by decide) dX3_highestBidBut_27 ?_
          refine V_ist4 rfl rfl dX3_highestBidBut_28 ?_
          refine V_iload rfl dX3_highestBidBut_30 ?_
          refine V_if_eqN 62 dX3_highestBidBut_32 (by decide) (by omega) (fun h32 => ?_) (fun h32 => ?_)
          · skip
            refine V_iinc3_ _ (nI_inc _) rfl rfl dX3_highestBidBut_62 ?_
            refine V_goto 4 dX3_highestBidBut_65 (by decide) ?_
            first
            | (exfalso; omega)
            | (have h7 := fun x => ih (k + 1) x (by omega) (by omega)
               rw [hb_none (by rw [htb]; exact decide_eq_false (by omega)) hb] at h7
               exact h7 _)
            | (have h7 := fun x => ih (k + 1) x (by omega) (by omega)
               rw [hb_skip (by rw [htb]; exact decide_eq_true (by omega)), hb] at h7
               exact h7 _)
          · skip
            refine V_iload_n rfl dX3_highestBidBut_35 ?_
            refine V_if_lt 60 dX3_highestBidBut_36 (by decide) (fun h36 => ?_) (fun h36 => absurd h36 (by decide))
            refine V_iload_n rfl dX3_highestBidBut_60 ?_
            refine V_ist2 rfl rfl dX3_highestBidBut_61 ?_
            refine V_iinc3_ _ (nI_inc _) rfl rfl dX3_highestBidBut_62 ?_
            refine V_goto 4 dX3_highestBidBut_65 (by decide) ?_
            first
            | (exfalso; omega)
            | (have h7 := fun x => ih (k + 1) x (by omega) (by omega)
               rw [hb_none (by rw [htb]; exact decide_eq_false (by omega)) hb] at h7
               exact h7 _)
            | (have h7 := fun x => ih (k + 1) x (by omega) (by omega)
               rw [hb_skip (by rw [htb]; exact decide_eq_true (by omega)), hb] at h7
               exact h7 _)
        · skip
          refine V_iconst (nI 1) (by decide) dX3_highestBidBut_23 ?_
          refine V_goto 28 dX3_highestBidBut_24 (by decide) ?_
          refine V_ist4 rfl rfl dX3_highestBidBut_28 ?_
          refine V_iload rfl dX3_highestBidBut_30 ?_
          refine V_if_eqN 62 dX3_highestBidBut_32 (by decide) (by omega) (fun h32 => ?_) (fun h32 => ?_)
          · skip
            refine V_iinc3_ _ (nI_inc _) rfl rfl dX3_highestBidBut_62 ?_
            refine V_goto 4 dX3_highestBidBut_65 (by decide) ?_
            first
            | (exfalso; omega)
            | (have h7 := fun x => ih (k + 1) x (by omega) (by omega)
               rw [hb_none (by rw [htb]; exact decide_eq_false (by omega)) hb] at h7
               exact h7 _)
            | (have h7 := fun x => ih (k + 1) x (by omega) (by omega)
               rw [hb_skip (by rw [htb]; exact decide_eq_true (by omega)), hb] at h7
               exact h7 _)
          · skip
            refine V_iload_n rfl dX3_highestBidBut_35 ?_
            refine V_if_lt 60 dX3_highestBidBut_36 (by decide) (fun h36 => ?_) (fun h36 => absurd h36 (by decide))
            refine V_iload_n rfl dX3_highestBidBut_60 ?_
            refine V_ist2 rfl rfl dX3_highestBidBut_61 ?_
            refine V_iinc3_ _ (nI_inc _) rfl rfl dX3_highestBidBut_62 ?_
            refine V_goto 4 dX3_highestBidBut_65 (by decide) ?_
            first
            | (exfalso; omega)
            | (have h7 := fun x => ih (k + 1) x (by omega) (by omega)
               rw [hb_none (by rw [htb]; exact decide_eq_false (by omega)) hb] at h7
               exact h7 _)
            | (have h7 := fun x => ih (k + 1) x (by omega) (by omega)
               rw [hb_skip (by rw [htb]; exact decide_eq_true (by omega)), hb] at h7
               exact h7 _)
      | some j =>
        have hj := hbN_lt hb
        have hrj := hr j (by omega)
        have ej := cB j (by omega) 2 (by decide)
        refine V_iload_n rfl dX3_highestBidBut_4 ?_
        refine V_aload_n rfl dX3_highestBidBut_5 ?_
        refine gf_X3_26 (by assumption) (by assumption) rfl dX3_highestBidBut_6 ?_
        refine cf_X3_50 (C_size hB) (by assumption) rfl rfl ft0 (Nat.le_of_ble_eq_true rfl) dX3_highestBidBut_9 ?_
        refine V_icmp_geN 68 dX3_highestBidBut_12 (by decide) (by omega) (by omega) (fun h12 => absurd h12 (by omega)) (fun h12 => ?_)
        refine V_iload_n rfl dX3_highestBidBut_15 ?_
        refine V_iload_n rfl dX3_highestBidBut_16 ?_
        refine V_ishrN ⟨hsv, by omega⟩ dX3_highestBidBut_17 ?_
        refine V_iconst (nI 1) (by decide) dX3_highestBidBut_18 ?_
        refine V_iand1N dX3_highestBidBut_19 ?_
        refine V_if_neN 27 dX3_highestBidBut_20 (by decide) (by omega) (fun h20 => ?_) (fun h20 => ?_)
        · skip
          refine V_iconst (nI 0) (by decide) dX3_highestBidBut_27 ?_
          refine V_ist4 rfl rfl dX3_highestBidBut_28 ?_
          refine V_iload rfl dX3_highestBidBut_30 ?_
          refine V_if_eqN 62 dX3_highestBidBut_32 (by decide) (by omega) (fun h32 => ?_) (fun h32 => ?_)
          · skip
            refine V_iinc3_ _ (nI_inc _) rfl rfl dX3_highestBidBut_62 ?_
            refine V_goto 4 dX3_highestBidBut_65 (by decide) ?_
            first
            | (exfalso; omega)
            | (have h7 := fun x => ih (k + 1) x (by omega) (by omega)
               rw [hb_up (by rw [htb]; exact decide_eq_false (by omega)) hb (by omega)] at h7
               exact h7 _)
            | (have h7 := fun x => ih (k + 1) x (by omega) (by omega)
               rw [hb_stay (by rw [htb]; exact decide_eq_false (by omega)) hb (by omega)] at h7
               exact h7 _)
            | (have h7 := fun x => ih (k + 1) x (by omega) (by omega)
               rw [hb_skip (by rw [htb]; exact decide_eq_true (by omega)), hb] at h7
               exact h7 _)
          · skip
            refine V_iload_n rfl dX3_highestBidBut_35 ?_
            refine V_if_ltN (a := j) 60 dX3_highestBidBut_36 (by decide) (by omega) ?_
            refine V_aload_n rfl dX3_highestBidBut_39 ?_
            refine gf_X3_26 (by assumption) (by assumption) rfl dX3_highestBidBut_40 ?_
            refine V_iload_n rfl dX3_highestBidBut_43 ?_
            refine V_iconst (nI 2) (by decide) dX3_highestBidBut_44 ?_
            refine cf_X3_53 (C_get (c := 2) hB (by omega) (by decide)) (by assumption) rfl rfl ft0 (Nat.le_of_ble_eq_true rfl) dX3_highestBidBut_45 ?_
            rw [if_pos hkl, ek]
            refine V_aload_n rfl dX3_highestBidBut_48 ?_
            refine gf_X3_26 (by assumption) (by assumption) rfl dX3_highestBidBut_49 ?_
            refine V_iload_n rfl dX3_highestBidBut_52 ?_
            refine V_iconst (nI 2) (by decide) dX3_highestBidBut_53 ?_
            refine cf_X3_53 (C_get (j := j) (c := 2) hB (by omega) (by decide)) (by assumption) rfl rfl ft0 (Nat.le_of_ble_eq_true rfl) dX3_highestBidBut_54 ?_
            rw [if_pos (show j < (tB tv).1 by omega), ej]
            refine V_icmp_leN 62 dX3_highestBidBut_57 (by decide) (by omega) (by omega) (fun h57 => ?_) (fun h57 => ?_)
            · skip
              refine V_iinc3_ _ (nI_inc _) rfl rfl dX3_highestBidBut_62 ?_
              refine V_goto 4 dX3_highestBidBut_65 (by decide) ?_
              first
              | (exfalso; omega)
              | (have h7 := fun x => ih (k + 1) x (by omega) (by omega)
                 rw [hb_up (by rw [htb]; exact decide_eq_false (by omega)) hb (by omega)] at h7
                 exact h7 _)
              | (have h7 := fun x => ih (k + 1) x (by omega) (by omega)
                 rw [hb_stay (by rw [htb]; exact decide_eq_false (by omega)) hb (by omega)] at h7
                 exact h7 _)
              | (have h7 := fun x => ih (k + 1) x (by omega) (by omega)
                 rw [hb_skip (by rw [htb]; exact decide_eq_true (by omega)), hb] at h7
                 exact h7 _)
            · skip
              refine V_iload_n rfl dX3_highestBidBut_60 ?_
              refine V_ist2 rfl rfl dX3_highestBidBut_61 ?_
              refine V_iinc3_ _ (nI_inc _) rfl rfl dX3_highestBidBut_62 ?_
              refine V_goto 4 dX3_highestBidBut_65 (by decide) ?_
              first
              | (exfalso; omega)
              | (have h7 := fun x => ih (k + 1) x (by omega) (by omega)
                 rw [hb_up (by rw [htb]; exact decide_eq_false (by omega)) hb (by omega)] at h7
                 exact h7 _)
              | (have h7 := fun x => ih (k + 1) x (by omega) (by omega)
                 rw [hb_stay (by rw [htb]; exact decide_eq_false (by omega)) hb (by omega)] at h7
                 exact h7 _)
              | (have h7 := fun x => ih (k + 1) x (by omega) (by omega)
                 rw [hb_skip (by rw [htb]; exact decide_eq_true (by omega)), hb] at h7
                 exact h7 _)
        · skip
          refine V_iconst (nI 1) (by decide) dX3_highestBidBut_23 ?_
          refine V_goto 28 dX3_highestBidBut_24 (by decide) ?_
          refine V_ist4 rfl rfl dX3_highestBidBut_28 ?_
          refine V_iload rfl dX3_highestBidBut_30 ?_
          refine V_if_eqN 62 dX3_highestBidBut_32 (by decide) (by omega) (fun h32 => ?_) (fun h32 => ?_)
          · skip
            refine V_iinc3_ _ (nI_inc _) rfl rfl dX3_highestBidBut_62 ?_
            refine V_goto 4 dX3_highestBidBut_65 (by decide) ?_
            first
            | (exfalso; omega)
            | (have h7 := fun x => ih (k + 1) x (by omega) (by omega)
               rw [hb_up (by rw [htb]; exact decide_eq_false (by omega)) hb (by omega)] at h7
               exact h7 _)
            | (have h7 := fun x => ih (k + 1) x (by omega) (by omega)
               rw [hb_stay (by rw [htb]; exact decide_eq_false (by omega)) hb (by omega)] at h7
               exact h7 _)
            | (have h7 := fun x => ih (k + 1) x (by omega) (by omega)
               rw [hb_skip (by rw [htb]; exact decide_eq_true (by omega)), hb] at h7
               exact h7 _)
          · skip
            refine V_iload_n rfl dX3_highestBidBut_35 ?_
            refine V_if_ltN (a := j) 60 dX3_highestBidBut_36 (by decide) (by omega) ?_
            refine V_aload_n rfl dX3_highestBidBut_39 ?_
            refine gf_X3_26 (by assumption) (by assumption) rfl dX3_highestBidBut_40 ?_
            refine V_iload_n rfl dX3_highestBidBut_43 ?_
            refine V_iconst (nI 2) (by decide) dX3_highestBidBut_44 ?_
            refine cf_X3_53 (C_get (c := 2) hB (by omega) (by decide)) (by assumption) rfl rfl ft0 (Nat.le_of_ble_eq_true rfl) dX3_highestBidBut_45 ?_
            rw [if_pos hkl, ek]
            refine V_aload_n rfl dX3_highestBidBut_48 ?_
            refine gf_X3_26 (by assumption) (by assumption) rfl dX3_highestBidBut_49 ?_
            refine V_iload_n rfl dX3_highestBidBut_52 ?_
            refine V_iconst (nI 2) (by decide) dX3_highestBidBut_53 ?_
            refine cf_X3_53 (C_get (j := j) (c := 2) hB (by omega) (by decide)) (by assumption) rfl rfl ft0 (Nat.le_of_ble_eq_true rfl) dX3_highestBidBut_54 ?_
            rw [if_pos (show j < (tB tv).1 by omega), ej]
            refine V_icmp_leN 62 dX3_highestBidBut_57 (by decide) (by omega) (by omega) (fun h57 => ?_) (fun h57 => ?_)
            · skip
              refine V_iinc3_ _ (nI_inc _) rfl rfl dX3_highestBidBut_62 ?_
              refine V_goto 4 dX3_highestBidBut_65 (by decide) ?_
              first
              | (exfalso; omega)
              | (have h7 := fun x => ih (k + 1) x (by omega) (by omega)
                 rw [hb_up (by rw [htb]; exact decide_eq_false (by omega)) hb (by omega)] at h7
                 exact h7 _)
              | (have h7 := fun x => ih (k + 1) x (by omega) (by omega)
                 rw [hb_stay (by rw [htb]; exact decide_eq_false (by omega)) hb (by omega)] at h7
                 exact h7 _)
              | (have h7 := fun x => ih (k + 1) x (by omega) (by omega)
                 rw [hb_skip (by rw [htb]; exact decide_eq_true (by omega)), hb] at h7
                 exact h7 _)
            · skip
              refine V_iload_n rfl dX3_highestBidBut_60 ?_
              refine V_ist2 rfl rfl dX3_highestBidBut_61 ?_
              refine V_iinc3_ _ (nI_inc _) rfl rfl dX3_highestBidBut_62 ?_
              refine V_goto 4 dX3_highestBidBut_65 (by decide) ?_
              first
              | (exfalso; omega)
              | (have h7 := fun x => ih (k + 1) x (by omega) (by omega)
                 rw [hb_up (by rw [htb]; exact decide_eq_false (by omega)) hb (by omega)] at h7
                 exact h7 _)
              | (have h7 := fun x => ih (k + 1) x (by omega) (by omega)
                 rw [hb_stay (by rw [htb]; exact decide_eq_false (by omega)) hb (by omega)] at h7
                 exact h7 _)
              | (have h7 := fun x => ih (k + 1) x (by omega) (by omega)
                 rw [hb_skip (by rw [htb]; exact decide_eq_true (by omega)), hb] at h7
                 exact h7 _)
  refine V_iconst (-1) (by decide) dX3_highestBidBut_0 ?_
  refine V_ist2 rfl rfl dX3_highestBidBut_1 ?_
  refine V_iconst (nI 0) (by decide) dX3_highestBidBut_2 ?_
  refine V_ist3 rfl rfl dX3_highestBidBut_3 ?_
  exact loop (tB tv).1 0 _ (by omega) (by omega)
theorem C_isPossible {rd : Nat} (hT : CTown sg I T tv) (hW : CWlds sg I T tv) (hok : TVok tv) (hrd : rd < 2 ^ (2 * tF tv)) : Fn m_X3_isPossible g [rf g T, .int (nI rd)] sg I (some (.int (bI (anyW tv rd = true)))) sg I := by
  obtain ⟨⟨hk, r0, r1, r2, r3, r4⟩, hF, hX, -⟩ := hT
  obtain ⟨hWt, cW⟩ := hW
  have hkW := hWt.1
  have hn := nw_le hok.2.1
  have h16 := p2_le16 hok.2.1
  have hF8 := hok.2.1
  refine Ct.of rfl (Nat.le_of_ble_eq_true rfl) fun X => ?_
  show V X _ sg I 0 [some (rf g T), some (.int (nI rd)), none] []
  have loop : ∀ (d k : Nat), nw' tv - k = d → k ≤ nw' tv → (∀ i, i < k → sat rd (wl tv i) = false) →
      V X (ZQ X (fun r0 s0 I0 => r0 = some (.int (bI (anyW tv rd = true))) ∧ s0 = sg ∧ I0 = I)) sg I 2 [some (rf g T), some (.int (nI rd)), some (.int (nI k))] [] := by
    intro d
    induction d with
    | zero =>
      intro k hd hkn hall
      have e : k = nw' tv := by omega
      subst e
      refine V_iload_n rfl dX3_isPossible_2 ?_
      refine V_aload_n rfl dX3_isPossible_3 ?_
      refine gf_X3_29 (by assumption) (by assumption) rfl dX3_isPossible_4 ?_
      refine cf_X3_50 (C_size hWt) (by assumption) rfl rfl ft0 (Nat.le_of_ble_eq_true rfl) dX3_isPossible_7 ?_
      refine V_icmp_geN 36 dX3_isPossible_10 (by decide) (by omega) (by omega) (fun h10 => ?_) (fun h10 => absurd h10 (by omega))
      refine V_iconst (nI 0) (by decide) dX3_isPossible_36 ?_
      refine V_zret rfl (rfl) rfl rfl ?_ dX3_isPossible_37
      exact ⟨by rw [bI_f (fun z => by obtain ⟨i, hi, h9⟩ := anyB_iff.mp z; rw [hall i hi] at h9; cases h9)], rfl, rfl⟩
    | succ d ih =>
      intro k hd hkn hall
      have hkl : k < nw' tv := by omega
      obtain ⟨e0, e1⟩ := cW k hkl
      have hsim : sim (tF tv) (wl tv k) < 65536 := bm_16 (by omega)
      have hsat := sat_cls (s := wl tv k) hF8 hrd
      have hle : sim (tF tv) (wl tv k) &&& rd ≤ rd := Nat.and_le_right
      refine V_iload_n rfl dX3_isPossible_2 ?_
      refine V_aload_n rfl dX3_isPossible_3 ?_
      refine gf_X3_29 (by assumption) (by assumption) rfl dX3_isPossible_4 ?_
      refine cf_X3_50 (C_size hWt) (by assumption) rfl rfl ft0 (Nat.le_of_ble_eq_true rfl) dX3_isPossible_7 ?_
      refine V_icmp_geN 36 dX3_isPossible_10 (by decide) (by omega) (by omega) (fun h10 => absurd h10 (by omega)) (fun h10 => ?_)
      refine V_aload_n rfl dX3_isPossible_13 ?_
      refine gf_X3_29 (by assumption) (by assumption) rfl dX3_isPossible_14 ?_
      refine V_iload_n rfl dX3_isPossible_17 ?_
      refine V_iconst (nI 1) (by decide) dX3_isPossible_18 ?_
      refine cf_X3_53 (C_get (c := 1) hWt (by omega) (by decide)) (by assumption) rfl rfl ft0 (Nat.le_of_ble_eq_true rfl) dX3_isPossible_19 ?_
      rw [if_pos hkl, e1]
      refine V_iload_n rfl dX3_isPossible_22 ?_
      refine V_iandN dX3_isPossible_23 ?_
      refine V_iload_n rfl dX3_isPossible_24 ?_
      refine V_icmp_neN 30 dX3_isPossible_25 (by decide) (by omega) (by omega) (fun h25 => ?_) (fun h25 => ?_)
      · skip
        refine V_iinc2_ _ (nI_inc _) rfl rfl dX3_isPossible_30 ?_
        refine V_goto 2 dX3_isPossible_33 (by decide) ?_
        refine ih (k + 1) (by omega) (by omega) (fun i hi => ?_)
        by_cases e : i = k
        · subst e; rw [← Bool.not_eq_true]; exact fun z => h25 (hsat.mpr z)
        · exact hall i (by omega)
      · skip
        refine V_iconst (nI 1) (by decide) dX3_isPossible_28 ?_
        refine V_zret rfl (rfl) rfl rfl ?_ dX3_isPossible_29
        exact ⟨by rw [bI_t (show anyW tv rd = true from anyB_iff.mpr ⟨k, hkl, hsat.mp h25⟩)], rfl, rfl⟩
  refine V_iconst (nI 0) (by decide) dX3_isPossible_0 ?_
  refine V_ist2 rfl rfl dX3_isPossible_1 ?_
  exact loop (nw' tv) 0 (by omega) (by omega) (fun i hi => absurd hi (Nat.not_lt_zero i))
/-- what all of the first k worlds that are so share -/
def shN (tv : TV) (rd k v : Nat) : Bool := allB k (fun i => !sat rd (wl tv i) || so v (wl tv i))
theorem anyB_succ (k : Nat) (p : Nat → Bool) : anyB (k + 1) p = (anyB k p || p k) := by
  unfold anyB
  rw [show allB (k + 1) (fun i => !p i) = (allB k (fun i => !p i) && !p k) from rfl, Bool.not_and, Bool.not_not]
theorem shN_succ (tv : TV) (rd k v : Nat) : shN tv rd (k + 1) v = (shN tv rd k v && (!sat rd (wl tv k) || so v (wl tv k))) := rfl
theorem bm_and (n : Nat) (p q : Nat → Bool) : bm n p &&& bm n q = bm n (fun i => p i && q i) := by
  refine bm_ext (Nat.and_lt_two_pow _ (bm_lt n q)) (fun i hi => ?_)
  rw [Nat.testBit_and, bm_bit, bm_bit]
  simp [hi]
theorem m1_and (x : Int32) : (-1 : Int32) &&& x = x := by
  apply Int32.toBitVec_inj.1
  show BitVec.ofInt 32 (-1) &&& x.toBitVec = x.toBitVec
  rw [show BitVec.ofInt 32 (-1) = BitVec.allOnes 32 by decide, BitVec.allOnes_and]
def kfI (tv : TV) (rd k : Nat) (z : Int32) : Prop := (anyB k (fun i => sat rd (wl tv i)) = true ∧ z = nI (bm (2 * tF tv) (shN tv rd k))) ∨ (anyB k (fun i => sat rd (wl tv i)) = false ∧ z = -1)
theorem kf_skip {rd k : Nat} {z : Int32} (h : kfI tv rd k z) (hs : sat rd (wl tv k) = false) : kfI tv rd (k + 1) z := by
  unfold kfI at h ⊢
  rw [anyB_succ, hs, Bool.or_false]
  rw [show bm (2 * tF tv) (shN tv rd (k + 1)) = bm (2 * tF tv) (shN tv rd k) from bm_congr (fun v _ => by rw [shN_succ, hs]; simp)]
  exact h
theorem kf_step {rd k : Nat} {z : Int32} (h : kfI tv rd k z) (hs : sat rd (wl tv k) = true) : kfI tv rd (k + 1) (z &&& nI (sim (tF tv) (wl tv k))) := by
  unfold kfI at h ⊢
  left
  refine ⟨by rw [anyB_succ, hs, Bool.or_true], ?_⟩
  rcases h with ⟨ha, rfl⟩ | ⟨ha, rfl⟩
  · rw [nI_and]
    unfold sim
    rw [bm_and]
    rw [bm_congr (p := shN tv rd (k + 1)) (fun v _ => by rw [shN_succ, hs, Bool.not_true, Bool.false_or])]
  · rw [m1_and]
    unfold sim
    refine congrArg nI (bm_congr (fun v _ => ?_))
    rw [shN_succ, hs, Bool.not_true, Bool.false_or]
    have : shN tv rd k v = true := by
      unfold shN
      rw [allB_iff]
      intro i hi
      have h9 : sat rd (wl tv i) = false := by
        rw [← Bool.not_eq_true]
        intro q
        rw [anyB_iff.mpr ⟨i, hi, q⟩] at ha
        cases ha
      rw [h9]; rfl
    rw [this, Bool.true_and]
theorem C_knownFrom {rd : Nat} (hT : CTown sg I T tv) (hW : CWlds sg I T tv) (hok : TVok tv) (hrd : rd < 2 ^ (2 * tF tv)) : Fn m_X3_knownFrom g [rf g T, .int (nI rd)] sg I (some (.int (nI (bm (2 * tF tv) (knw tv rd))))) sg I := by
  obtain ⟨⟨hk, r0, r1, r2, r3, r4⟩, hF, hX, -⟩ := hT
  obtain ⟨hWt, cW⟩ := hW
  have hkW := hWt.1
  have hn := nw_le hok.2.1
  have h16 := p2_le16 hok.2.1
  have hF8 := hok.2.1
  have hb16 : ∀ p : Nat → Bool, bm (2 * tF tv) p < 65536 := fun p => bm_16 (by omega)
  refine Ct.of rfl (Nat.le_of_ble_eq_true rfl) fun X => ?_
  show V X _ sg I 0 [some (rf g T), some (.int (nI rd)), none, none, none] []
  have loop : ∀ (d k : Nat) (z : Int32) (x : Option Value), okp x = true → nw' tv - k = d → k ≤ nw' tv → kfI tv rd k z →
      V X (ZQ X (fun r0 s0 I0 => r0 = some (.int (nI (bm (2 * tF tv) (knw tv rd)))) ∧ s0 = sg ∧ I0 = I)) sg I 4 [some (rf g T), some (.int (nI rd)), some (.int z), some (.int (nI k)), x] [] := by
    intro d
    induction d with
    | zero =>
      intro k z x hx hd hkn hz
      have e : k = nw' tv := by omega
      subst e
      rcases hz with ⟨ha, rfl⟩ | ⟨ha, rfl⟩
      · have hnm : ¬ nI (bm (2 * tF tv) (shN tv rd (nw' tv))) = -1 := fun q => absurd (show (-1 : Int32) < 0 by decide) (by rw [← q]; exact nI_lt0 (by have := hb16 (shN tv rd (nw' tv)); omega))
        have hfin : bm (2 * tF tv) (shN tv rd (nw' tv)) = bm (2 * tF tv) (knw tv rd) := bm_congr (fun v _ => by unfold knw anyW; rw [ha, Bool.true_and]; rfl)
        refine V_iload_n rfl dX3_knownFrom_4 ?_
        refine V_aload_n rfl dX3_knownFrom_5 ?_
        refine gf_X3_29 (by assumption) (by assumption) rfl dX3_knownFrom_6 ?_
        refine cf_X3_50 (C_size hWt) (by assumption) rfl rfl ft0 (Nat.le_of_ble_eq_true rfl) dX3_knownFrom_9 ?_
        refine V_icmp_geN 45 dX3_knownFrom_12 (by decide) (by omega) (by omega) (fun h12 => ?_) (fun h12 => absurd h12 (by omega))
        refine V_iload_n rfl dX3_knownFrom_45 ?_
        refine V_iconst (-1) (by decide) dX3_knownFrom_46 ?_
        refine V_icmp_ne 54 dX3_knownFrom_47 (by decide) (fun h47 => ?_) (fun h47 => absurd h47 (by exact fun q => hnm q))
        refine V_iload_n rfl dX3_knownFrom_54 ?_
        refine V_iret rfl rfl rfl ?_ dX3_knownFrom_55
        exact ⟨by rw [hfin], rfl, rfl⟩
      · have hfin : bm (2 * tF tv) (knw tv rd) = 0 := by
          rw [← bm_false (2 * tF tv)]
          exact bm_congr (fun v _ => by unfold knw anyW; rw [ha, Bool.false_and])
        refine V_iload_n rfl dX3_knownFrom_4 ?_
        refine V_aload_n rfl dX3_knownFrom_5 ?_
        refine gf_X3_29 (by assumption) (by assumption) rfl dX3_knownFrom_6 ?_
        refine cf_X3_50 (C_size hWt) (by assumption) rfl rfl ft0 (Nat.le_of_ble_eq_true rfl) dX3_knownFrom_9 ?_
        refine V_icmp_geN 45 dX3_knownFrom_12 (by decide) (by omega) (by omega) (fun h12 => ?_) (fun h12 => absurd h12 (by omega))
        refine V_iload_n rfl dX3_knownFrom_45 ?_
        refine V_iconst (-1) (by decide) dX3_knownFrom_46 ?_
        refine V_icmp_ne 54 dX3_knownFrom_47 (by decide) (fun h47 => absurd h47 (by exact fun q => q rfl)) (fun h47 => ?_)
        refine V_iconst (nI 0) (by decide) dX3_knownFrom_50 ?_
        refine V_goto 55 dX3_knownFrom_51 (by decide) ?_
        refine V_iret rfl rfl rfl ?_ dX3_knownFrom_55
        exact ⟨by rw [hfin], rfl, rfl⟩
    | succ d ih =>
      intro k z x hx hd hkn hz
      have hkl : k < nw' tv := by omega
      obtain ⟨e0, e1⟩ := cW k hkl
      have hsim : sim (tF tv) (wl tv k) < 65536 := bm_16 (by omega)
      have hsat := sat_cls (s := wl tv k) hF8 hrd
      have hle : sim (tF tv) (wl tv k) &&& rd ≤ rd := Nat.and_le_right
      refine V_iload_n rfl dX3_knownFrom_4 ?_
      refine V_aload_n rfl dX3_knownFrom_5 ?_
      refine gf_X3_29 (by assumption) (by assumption) rfl dX3_knownFrom_6 ?_
      refine cf_X3_50 (C_size hWt) (by assumption) rfl rfl ft0 (Nat.le_of_ble_eq_true rfl) dX3_knownFrom_9 ?_
      refine V_icmp_geN 45 dX3_knownFrom_12 (by decide) (by omega) (by omega) (fun h12 => absurd h12 (by omega)) (fun h12 => ?_)
      refine V_aload_n rfl dX3_knownFrom_15 ?_
      refine gf_X3_29 (by assumption) (by assumption) rfl dX3_knownFrom_16 ?_
      refine V_iload_n rfl dX3_knownFrom_19 ?_
      refine V_iconst (nI 1) (by decide) dX3_knownFrom_20 ?_
      refine cf_X3_53 (C_get (c := 1) hWt (by omega) (by decide)) (by assumption) rfl rfl ft0 (Nat.le_of_ble_eq_true rfl) dX3_knownFrom_21 ?_
      rw [if_pos hkl, e1]
      refine V_ist4 rfl rfl dX3_knownFrom_24 ?_
      refine V_iload rfl dX3_knownFrom_26 ?_
      refine V_iload_n rfl dX3_knownFrom_28 ?_
      refine V_iandN dX3_knownFrom_29 ?_
      refine V_iload_n rfl dX3_knownFrom_30 ?_
      refine V_icmp_neN 39 dX3_knownFrom_31 (by decide) (by omega) (by omega) (fun h31 => ?_) (fun h31 => ?_)
      · skip
        refine V_iinc3_ _ (nI_inc _) rfl rfl dX3_knownFrom_39 ?_
        refine V_goto 4 dX3_knownFrom_42 (by decide) ?_
        first
        | exact ih (k + 1) _ _ rfl (by omega) (by omega) (kf_step hz (hsat.mp h31))
        | exact ih (k + 1) _ _ rfl (by omega) (by omega) (kf_skip hz (by rw [← Bool.not_eq_true]; exact fun z => h31 (hsat.mpr z)))
      · skip
        refine V_iload_n rfl dX3_knownFrom_34 ?_
        refine V_iload rfl dX3_knownFrom_35 ?_
        refine V_iand dX3_knownFrom_37 ?_
        refine V_ist2 rfl rfl dX3_knownFrom_38 ?_
        refine V_iinc3_ _ (nI_inc _) rfl rfl dX3_knownFrom_39 ?_
        refine V_goto 4 dX3_knownFrom_42 (by decide) ?_
        first
        | exact ih (k + 1) _ _ rfl (by omega) (by omega) (kf_step hz (hsat.mp h31))
        | exact ih (k + 1) _ _ rfl (by omega) (by omega) (kf_skip hz (by rw [← Bool.not_eq_true]; exact fun z => h31 (hsat.mpr z)))
  refine V_iconst (-1) (by decide) dX3_knownFrom_0 ?_
  refine V_ist2 rfl rfl dX3_knownFrom_1 ?_
  refine V_iconst (nI 0) (by decide) dX3_knownFrom_2 ?_
  refine V_ist3 rfl rfl dX3_knownFrom_3 ?_
  exact loop (nw' tv) 0 _ _ rfl (by omega) (by omega) (Or.inr ⟨rfl, rfl⟩)
theorem C_tells {told set tr : Nat} (hT : CTown sg I T tv) (hW : CWlds sg I T tv) (hok : TVok tv) (h1' : told < 256) (h2' : set < 256) (h3' : tr < 256) : Fn m_X3_tells g [rf g T, .int (nI told), .int (nI set), .int (nI tr)] sg I (some (.int (bI (tlsB tv told set tr = true)))) sg I := by
  obtain ⟨⟨hk, r0, r1, r2, r3, r4⟩, hF, hX, -⟩ := hT
  obtain ⟨hWt, cW⟩ := hW
  have hkW := hWt.1
  have hn := nw_le hok.2.1
  have h256 := p2_le8 hok.2.1
  refine Ct.of rfl (Nat.le_of_ble_eq_true rfl) fun X => ?_
  show V X _ sg I 0 [some (rf g T), some (.int (nI told)), some (.int (nI set)), some (.int (nI tr)), none, none] []
  have loop : ∀ (d k : Nat) (x : Option Value), okp x = true → nw' tv - k = d → k ≤ nw' tv → (∀ i, i < k → (!(decide ((wl tv i ^^^ tr) &&& told = 0) && !decide ((wl tv i ^^^ tr) &&& set = 0))) = true) →
      V X (ZQ X (fun r0 s0 I0 => r0 = some (.int (bI (tlsB tv told set tr = true))) ∧ s0 = sg ∧ I0 = I)) sg I 3 [some (rf g T), some (.int (nI told)), some (.int (nI set)), some (.int (nI tr)), some (.int (nI k)), x] [] := by
    intro d
    induction d with
    | zero =>
      intro k x hx hd hkn hall
      have e : k = nw' tv := by omega
      subst e
      have hb : tlsB tv told set tr = true := allB_iff.mpr hall
      refine V_iload rfl dX3_tells_3 ?_
      refine V_aload_n rfl dX3_tells_5 ?_
      refine gf_X3_29 (by assumption) (by assumption) rfl dX3_tells_6 ?_
      refine cf_X3_50 (C_size hWt) (by assumption) rfl rfl ft0 (Nat.le_of_ble_eq_true rfl) dX3_tells_9 ?_
      refine V_icmp_geN 51 dX3_tells_12 (by decide) (by omega) (by omega) (fun h12 => ?_) (fun h12 => absurd h12 (by omega))
      refine V_iconst (nI 1) (by decide) dX3_tells_51 ?_
      refine V_zret rfl (rfl) rfl rfl ?_ dX3_tells_52
      exact ⟨by rw [bI_t hb], rfl, rfl⟩
    | succ d ih =>
      intro k x hx hd hkn hall
      have hkl : k < nw' tv := by omega
      obtain ⟨e0, e1⟩ := cW k hkl
      have hw := (wl_mem hkl).1
      have hle : (wl tv k ^^^ tr) &&& told ≤ told := Nat.and_le_right
      have hle2 : (wl tv k ^^^ tr) &&& set ≤ set := Nat.and_le_right
      refine V_iload rfl dX3_tells_3 ?_
      refine V_aload_n rfl dX3_tells_5 ?_
      refine gf_X3_29 (by assumption) (by assumption) rfl dX3_tells_6 ?_
      refine cf_X3_50 (C_size hWt) (by assumption) rfl rfl ft0 (Nat.le_of_ble_eq_true rfl) dX3_tells_9 ?_
      refine V_icmp_geN 51 dX3_tells_12 (by decide) (by omega) (by omega) (fun h12 => absurd h12 (by omega)) (fun h12 => ?_)
      refine V_aload_n rfl dX3_tells_15 ?_
      refine gf_X3_29 (by assumption) (by assumption) rfl dX3_tells_16 ?_
      refine V_iload rfl dX3_tells_19 ?_
      refine V_iconst (nI 0) (by decide) dX3_tells_21 ?_
      refine cf_X3_53 (C_get (c := 0) hWt (by omega) (by decide)) (by assumption) rfl rfl ft0 (Nat.le_of_ble_eq_true rfl) dX3_tells_22 ?_
      rw [if_pos hkl, e0]
      refine V_iload_n rfl dX3_tells_25 ?_
      refine V_ixorN dX3_tells_26 ?_
      refine V_ist5 rfl rfl dX3_tells_27 ?_
      refine V_iload rfl dX3_tells_29 ?_
      refine V_iload_n rfl dX3_tells_31 ?_
      refine V_iandN dX3_tells_32 ?_
      refine V_if_neN 45 dX3_tells_33 (by decide) (by omega) (fun h33 => ?_) (fun h33 => ?_)
      · skip
        refine V_iinc4_ _ (nI_inc _) rfl rfl dX3_tells_45 ?_
        refine V_goto 3 dX3_tells_48 (by decide) ?_
        refine ih (k + 1) _ rfl (by omega) (by omega) (fun i hi => ?_)
        by_cases e : i = k
        · subst e
          first | (rw [decide_eq_false h33]; rfl) | (rw [decide_eq_true h40]; simp)
        · exact hall i (by omega)
      · skip
        refine V_iload rfl dX3_tells_36 ?_
        refine V_iload_n rfl dX3_tells_38 ?_
        refine V_iandN dX3_tells_39 ?_
        refine V_if_eqN 45 dX3_tells_40 (by decide) (by omega) (fun h40 => ?_) (fun h40 => ?_)
        · skip
          refine V_iinc4_ _ (nI_inc _) rfl rfl dX3_tells_45 ?_
          refine V_goto 3 dX3_tells_48 (by decide) ?_
          refine ih (k + 1) _ rfl (by omega) (by omega) (fun i hi => ?_)
          by_cases e : i = k
          · subst e
            first | (rw [decide_eq_false h33]; rfl) | (rw [decide_eq_true h40]; simp)
          · exact hall i (by omega)
        · skip
          refine V_iconst (nI 0) (by decide) dX3_tells_43 ?_
          refine V_zret rfl (rfl) rfl rfl ?_ dX3_tells_44
          exact ⟨by rw [bI_f (fun z => by have h9 := allB_iff.mp z k hkl; rw [decide_eq_true h33, decide_eq_false h40] at h9; cases h9)], rfl, rfl⟩
  refine V_iconst (nI 0) (by decide) dX3_tells_0 ?_
  refine V_ist4 rfl rfl dX3_tells_1 ?_
  exact loop (nw' tv) 0 _ rfl (by omega) (by omega) (fun i hi => absurd hi (Nat.not_lt_zero i))
def fwQ (sg : SG) (I : IM) (T : Nat) (tv : TV) : Option Value → SG → IM → Prop := fun r0 s0 J => r0 = none ∧ s0 = sg ∧ CWlds sg J T tv ∧ ∀ q, q ≠ T + 9 → q ≠ T + 10 → J q = I q
theorem filt_succ (p : Nat → Bool) (k : Nat) : (List.range (k + 1)).filter p = (List.range k).filter p ++ (if p k then [k] else []) := by
  rw [List.range_succ, List.filter_append]
  congr 1
  cases h : p k <;> simp [h]
theorem C_findWorlds (hT : CTown sg I T tv) (hW : Tab sg I (T + 9) (T + 10) 256 2 0) (hok : TVok tv) : Ct m_X3_findWorlds g [rf g T] sg I (fwQ sg I T tv) := by
  have hT0 := hT
  obtain ⟨⟨hk, r0, r1, r2, r3, r4⟩, hF, hX, -⟩ := hT
  have hF8 := hok.2.1
  have h256 := p2_le8 hF8
  have hp := p2_pos (tF tv)
  have hkW := hW.1
  refine Ct.of rfl (Nat.le_of_ble_eq_true rfl) fun X => ?_
  show V X _ sg I 0 [some (rf g T), none] []
  have loop : ∀ (d k : Nat) (J : IM), 2 ^ tF tv - k = d → k ≤ 2 ^ tF tv → Tab sg J (T + 9) (T + 10) 256 2 ((List.range k).filter (lawB tv)).length → (∀ i (h : i < ((List.range k).filter (lawB tv)).length), J (T + 10) (i * 2 + 0) = nI (((List.range k).filter (lawB tv))[i]) ∧ J (T + 10) (i * 2 + 1) = nI (sim (tF tv) (((List.range k).filter (lawB tv))[i]))) → (∀ q, q ≠ T + 9 → q ≠ T + 10 → J q = I q) →
      V X (ZQ X (fwQ sg I T tv)) sg J 2 [some (rf g T), some (.int (nI k))] [] := by
    intro d
    induction d with
    | zero =>
      intro k J hd hkn hTab hrows hfr
      have e : k = 2 ^ tF tv := by omega
      subst e
      have hFJ : J T 5 = nI (tF tv) := by rw [hfr T (by omega) (by omega)]; exact hF
      refine V_iload_n rfl dX3_findWorlds_2 ?_
      refine V_aload_n rfl dX3_findWorlds_3 ?_
      refine cf_X3_46 (C_allFacts hk hFJ hF8) (by assumption) rfl rfl ft0 (Nat.le_of_ble_eq_true rfl) dX3_findWorlds_4 ?_
      refine V_icmp_gtN 39 dX3_findWorlds_7 (by decide) (by omega) (by omega) (fun h7 => ?_) (fun h7 => absurd h7 (by omega))
      refine V_vret rfl rfl rfl ?_ dX3_findWorlds_39
      refine ⟨rfl, rfl, ⟨hTab, fun k hk => ?_⟩, hfr⟩
      have h9 := hrows k hk
      have h10 : wl tv k = ((List.range (2 ^ tF tv)).filter (lawB tv))[k]'hk := by
        show (wls tv).getD k 0 = _
        rw [List.getD_eq_getElem?_getD, List.getElem?_eq_getElem (show k < (wls tv).length from hk)]
        rfl
      rw [h10]; exact h9
    | succ d ih =>
      intro k J hd hkn hTab hrows hfr
      have hFJ : J T 5 = nI (tF tv) := by rw [hfr T (by omega) (by omega)]; exact hF
      have hTJ : CTown sg J T tv := hT0.other (fun q q1 q2 => hfr q (by omega) (by omega))
      have hlen : ((List.range k).filter (lawB tv)).length ≤ k := by
        have h9 := List.length_filter_le (lawB tv) (List.range k)
        rwa [List.length_range] at h9
      refine V_iload_n rfl dX3_findWorlds_2 ?_
      refine V_aload_n rfl dX3_findWorlds_3 ?_
      refine cf_X3_46 (C_allFacts hk hFJ hF8) (by assumption) rfl rfl ft0 (Nat.le_of_ble_eq_true rfl) dX3_findWorlds_4 ?_
      refine V_icmp_gtN 39 dX3_findWorlds_7 (by decide) (by omega) (by omega) (fun h7 => absurd h7 (by omega)) (fun h7 => ?_)
      refine V_aload_n rfl dX3_findWorlds_10 ?_
      refine V_iload_n rfl dX3_findWorlds_11 ?_
      refine cf_X3_65 (C_isWorld hTJ hok (by omega)) (by assumption) rfl rfl ft0 (Nat.le_of_ble_eq_true rfl) dX3_findWorlds_12 ?_
      refine V_if_eqB 33 dX3_findWorlds_15 (by decide) (fun h15 => ?_) (fun h15 => ?_)
      · skip
        refine V_iinc1_ _ (nI_inc _) rfl rfl dX3_findWorlds_33 ?_
        refine V_goto 2 dX3_findWorlds_36 (by decide) ?_
        have hfs := filt_succ (lawB tv) k
        first
        | (rw [if_neg h15, List.append_nil] at hfs
           refine ih (k + 1) _ (by omega) (by omega) (by rw [hfs]; exact hTab) ?_ hfr
           rw [hfs]; exact hrows)
        | (rw [if_pos h15] at hfs
           refine ih (k + 1) _ (by omega) (by omega) (by rw [hfs, List.length_append]; exact q2) ?_ (fun q c1 c2 => by rw [q5 q c1 c2]; exact hfr q c1 c2)
           rw [hfs]
           intro i hi
           rw [List.length_append] at hi
           by_cases hlt : i < ((List.range k).filter (lawB tv)).length
           · rw [List.getElem_append_left hlt, q3 _ (by omega), q3 _ (by omega)]
             exact hrows i hlt
           · have e : i = ((List.range k).filter (lawB tv)).length := by simp at hi; omega
             subst e
             rw [List.getElem_append_right (Nat.le_refl _), q4 0 (by decide), q4 1 (by decide)]
             simp [vsel])
      · skip
        refine V_aload_n rfl dX3_findWorlds_18 ?_
        refine gf_X3_29 (by assumption) (by assumption) rfl dX3_findWorlds_19 ?_
        refine V_iload_n rfl dX3_findWorlds_22 ?_
        refine V_aload_n rfl dX3_findWorlds_23 ?_
        refine V_iload_n rfl dX3_findWorlds_24 ?_
        refine cf_X3_68 (C_sayingsIn hk hFJ hF8 (by omega)) (by assumption) rfl rfl ft0 (Nat.le_of_ble_eq_true rfl) dX3_findWorlds_25 ?_
        refine V_iconst (nI 0) (by decide) dX3_findWorlds_28 ?_
        refine cl_X3_72 (C_add hTab) (by assumption) rfl rfl ft0 (Nat.le_of_ble_eq_true rfl) dX3_findWorlds_29 (fun r1 s1 J1 hq => ?_)
        obtain ⟨rfl, hq⟩ := hq
        obtain ⟨q0, rfl, q2, q3, q4, q5⟩ := hq.resolve_right (fun z => by have h9 := z.1; omega)
        show V X _ s1 J1 32 _ [.int (nI 1)]
        refine V_pop rfl dX3_findWorlds_32 ?_
        refine V_iinc1_ _ (nI_inc _) rfl rfl dX3_findWorlds_33 ?_
        refine V_goto 2 dX3_findWorlds_36 (by decide) ?_
        have hfs := filt_succ (lawB tv) k
        first
        | (rw [if_neg h15, List.append_nil] at hfs
           refine ih (k + 1) _ (by omega) (by omega) (by rw [hfs]; exact hTab) ?_ hfr
           rw [hfs]; exact hrows)
        | (rw [if_pos h15] at hfs
           refine ih (k + 1) _ (by omega) (by omega) (by rw [hfs, List.length_append]; exact q2) ?_ (fun q c1 c2 => by rw [q5 q c1 c2]; exact hfr q c1 c2)
           rw [hfs]
           intro i hi
           rw [List.length_append] at hi
           by_cases hlt : i < ((List.range k).filter (lawB tv)).length
           · rw [List.getElem_append_left hlt, q3 _ (by omega), q3 _ (by omega)]
             exact hrows i hlt
           · have e : i = ((List.range k).filter (lawB tv)).length := by simp at hi; omega
             subst e
             rw [List.getElem_append_right (Nat.le_refl _), q4 0 (by decide), q4 1 (by decide)]
             simp [vsel])
  refine V_iconst (nI 0) (by decide) dX3_findWorlds_0 ?_
  refine V_ist1 rfl rfl dX3_findWorlds_1 ?_
  exact loop (2 ^ tF tv) 0 I (by omega) (by omega) hW (fun i hi => absurd hi (Nat.not_lt_zero i)) (fun q _ _ => rfl)
end TOWN
