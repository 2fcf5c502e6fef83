/-! CarvedWeeksModel: clash, least -/
def sgnN (F t tr : Nat) : Nat := bm (2 * F) (fun v => t.testBit (v / 2) && so v tr)
theorem sgnN_succ (F t tr : Nat) : sgnN (F + 1) t tr = sgnN F t tr ||| (if t.testBit F then 2 ^ tsy F tr else 0) := by
  unfold sgnN
  rw [show 2 * (F + 1) = 2 * F + 1 + 1 by omega, bm_succ, bm_succ, so_even, so_odd, show 2 * F / 2 = F by omega, show (2 * F + 1) / 2 = F by omega]
  unfold tsy
  cases t.testBit F <;> cases tr.testBit F <;> simp
theorem sg_sat {tv : TV} {t tr w : Nat} (h8 : tF tv ≤ 8) (ht : t < 2 ^ tF tv) (hr : tr < 2 ^ tF tv) (hw : w < 2 ^ tF tv) : sat (sgnN (tF tv) t tr) w = true ↔ (w ^^^ tr) &&& t = 0 := by
  unfold sat
  rw [allB_iff, and_eq0_iff]
  constructor
  · intro h f ⟨h1, h2⟩
    have hf : f < tF tv := by
      rcases Nat.lt_or_ge f (tF tv) with z | z
      · exact z
      · rw [Nat.testBit_lt_two_pow (Nat.lt_of_lt_of_le ht (Nat.pow_le_pow_right (by decide) z))] at h2; cases h2
    rw [Nat.testBit_xor] at h1
    have a1 := h (2 * f) (by omega)
    have a2 := h (2 * f + 1) (by omega)
    unfold sgnN at a1 a2
    rw [bm_bit, so_even, so_even, show 2 * f / 2 = f by omega, h2, decide_eq_true (by omega)] at a1
    rw [bm_bit, so_odd, so_odd, show (2 * f + 1) / 2 = f by omega, h2, decide_eq_true (by omega)] at a2
    cases hw1 : w.testBit f <;> cases ht1 : tr.testBit f <;> simp_all
  · intro h v hv
    unfold sgnN
    rw [bm_bit]
    cases hc : decide (v < 2 * tF tv) with
    | false => rfl
    | true =>
      cases h2 : t.testBit (v / 2) with
      | false => rfl
      | true =>
        have h3 := h (v / 2)
        rw [Nat.testBit_xor, h2] at h3
        unfold so
        cases hw1 : w.testBit (v / 2) <;> cases ht1 : tr.testBit (v / 2) <;> simp_all
theorem so_split {v s : Nat} : so v s = if v % 2 = 1 then !s.testBit (v / 2) else s.testBit (v / 2) := by
  unfold so
  by_cases h : v % 2 = 1
  · rw [if_pos h, decide_eq_true h]; cases s.testBit (v / 2) <;> rfl
  · rw [if_neg h, decide_eq_false h]; cases s.testBit (v / 2) <;> rfl
theorem tls_iff {tv : TV} {t set tr : Nat} (h8 : tF tv ≤ 8) (ht : t < 2 ^ tF tv) (hs : set < 2 ^ tF tv) (hr : tr < 2 ^ tF tv) (hl : lawB tv tr = true) : tlsB tv t set tr = true ↔ set ^^^ (set &&& (bm (tF tv) (fun f => knw tv (sgnN (tF tv) t tr) (2 * f)) ||| bm (tF tv) (fun f => knw tv (sgnN (tF tv) t tr) (2 * f + 1)))) = 0 := by
  have hwb : wB tv tr = true := by unfold wB; rw [decide_eq_true hr, hl]; rfl
  obtain ⟨k0, hk0, ek0⟩ : ∃ k, k < nw' tv ∧ wl tv k = tr := ⟨_, by rw [nw_cnt h8]; exact cnt_lt hwb 256 (Nat.lt_of_lt_of_le hr (p2_le8 h8)), wl_at hwb⟩
  have hself : sat (sgnN (tF tv) t tr) tr = true := (sg_sat h8 ht hr hr).mpr (by rw [Nat.xor_self, Nat.zero_and])
  have hany : anyW tv (sgnN (tF tv) t tr) = true := anyB_iff.mpr ⟨k0, hk0, by rw [ek0]; exact hself⟩
  have hkn : ∀ v, knw tv (sgnN (tF tv) t tr) v = true ↔ ∀ i, i < nw' tv → sat (sgnN (tF tv) t tr) (wl tv i) = true → so v (wl tv i) = true := by
    intro v
    unfold knw
    rw [hany, Bool.true_and, allB_iff]
    constructor
    · intro h i hi h2
      have h3 := h i hi
      rw [h2] at h3; simpa using h3
    · intro h i hi
      cases h2 : sat (sgnN (tF tv) t tr) (wl tv i) with
      | false => rfl
      | true => rw [h i hi h2]; rfl
  have hz : (set ^^^ (set &&& (bm (tF tv) (fun f => knw tv (sgnN (tF tv) t tr) (2 * f)) ||| bm (tF tv) (fun f => knw tv (sgnN (tF tv) t tr) (2 * f + 1)))) = 0) ↔ ∀ f, f < tF tv → set.testBit f = true → (knw tv (sgnN (tF tv) t tr) (2 * f) = true ∨ knw tv (sgnN (tF tv) t tr) (2 * f + 1) = true) := by
    constructor
    · intro h f hf hsf
      have h2 := congrArg (fun n => n.testBit f) h
      simp only [Nat.testBit_xor, Nat.testBit_and, Nat.testBit_or, bm_bit, Nat.zero_testBit, hsf, decide_eq_true hf, Bool.true_and] at h2
      revert h2
      cases knw tv (sgnN (tF tv) t tr) (2 * f) <;> cases knw tv (sgnN (tF tv) t tr) (2 * f + 1) <;> simp
    · intro h
      apply Nat.eq_of_testBit_eq
      intro f
      simp only [Nat.testBit_xor, Nat.testBit_and, Nat.testBit_or, bm_bit, Nat.zero_testBit]
      cases hsf : set.testBit f with
      | false => rfl
      | true =>
        have hf : f < tF tv := by
          rcases Nat.lt_or_ge f (tF tv) with z | z
          · exact z
          · rw [Nat.testBit_lt_two_pow (Nat.lt_of_lt_of_le hs (Nat.pow_le_pow_right (by decide) z))] at hsf; cases hsf
        rcases h f hf hsf with z | z <;> rw [z, decide_eq_true hf] <;> simp
  rw [hz]
  unfold tlsB
  rw [allB_iff]
  constructor
  · intro h f hf hsf
    cases hb : tr.testBit f with
    | true =>
      left
      rw [hkn]
      intro i hi h2
      have h3 := h i hi
      rw [decide_eq_true ((sg_sat h8 ht hr (wl_mem hi).1).mp h2), Bool.true_and, Bool.not_not, decide_eq_true_eq] at h3
      have h4 := (and_eq0_iff.mp h3) f
      rw [Nat.testBit_xor, hsf, hb] at h4
      rw [so_even]
      cases hw : (wl tv i).testBit f <;> simp_all
    | false =>
      right
      rw [hkn]
      intro i hi h2
      have h3 := h i hi
      rw [decide_eq_true ((sg_sat h8 ht hr (wl_mem hi).1).mp h2), Bool.true_and, Bool.not_not, decide_eq_true_eq] at h3
      have h4 := (and_eq0_iff.mp h3) f
      rw [Nat.testBit_xor, hsf, hb] at h4
      rw [so_odd]
      cases hw : (wl tv i).testBit f <;> simp_all
  · intro h i hi
    cases hc : decide ((wl tv i ^^^ tr) &&& t = 0) with
    | false => rfl
    | true =>
      rw [Bool.true_and, Bool.not_not, decide_eq_true_eq, and_eq0_iff]
      intro f ⟨h1, h2⟩
      have hf : f < tF tv := by
        rcases Nat.lt_or_ge f (tF tv) with z | z
        · exact z
        · rw [Nat.testBit_lt_two_pow (Nat.lt_of_lt_of_le hs (Nat.pow_le_pow_right (by decide) z))] at h2; cases h2
      have hsi := (sg_sat h8 ht hr (wl_mem hi).1).mpr (of_decide_eq_true hc)
      rw [Nat.testBit_xor] at h1
      rcases h f hf h2 with z | z
      · have y1 := (hkn _).mp z i hi hsi
        have y2 := (hkn _).mp z k0 hk0 (by rw [ek0]; exact hself)
        rw [ek0] at y2
        rw [so_even] at y1 y2
        rw [y1, y2] at h1; cases h1
      · have y1 := (hkn _).mp z i hi hsi
        have y2 := (hkn _).mp z k0 hk0 (by rw [ek0]; exact hself)
        rw [ek0] at y2
        rw [so_odd] at y1 y2
        cases q1 : (wl tv i).testBit f <;> cases q2 : tr.testBit f <;> simp_all
section MLEAST
variable {g : GC} {sg : SG} {I : IM} {x : XV} {tv : TV} {W : WV} {P K : SV} {np : Nat}
theorem D_clash (hM : MSt sg I x tv W P K) (hS : STok x tv W P K) : Ct m_X6_clash g [rf g 92] sg I (knQ sg I (fClash tv W)) := by
  obtain ⟨hX0, hok, hnp, hns, ⟨hWok, hwk⟩, hPok, hKok⟩ := hS
  obtain ⟨hK, ⟨mlen, mtx⟩, hT, hW, mkept, mKs, mdone, mPs⟩ := hM
  have hK0 := hK
  have hT0 := hT
  have hW0 := hW
  obtain ⟨m0, mR1, mR3, mR4, mR5, mR6, mR7, mR8, mR10, mR16, mR17, mA93, mA94, mA95, mA96, mA97, mA98, mA99, mA100, mA101, mA102⟩ := hK
  obtain ⟨mF, mnL, mnP, mnS, mnB, mL, mP, mS, mB, mWd, mnw⟩ := hT
  have hF1 := hok.1
  have hF8 := hok.2.1
  have h256 := p2_le8 hF8
  have h16 := p2_le16 hF8
  have nL10 := hok.2.2.2.2.2.2.2.1
  have nP5 := hok.2.2.2.2.2.2.2.2.1
  have nS5 := hok.2.2.2.2.2.2.2.2.2.1
  have nB6 := hok.2.2.2.2.2.2.2.2.2.2
  have hmk := hWok.2.2.2.1
  have hn12 := hmk.1
  have htr := hWok.1
  have hnw := nw_le hF8
  have hnw0 := nw_pos hWok
  obtain ⟨wT0, wK0, wM0, wH0, wC0⟩ := id hW
  have hp2 : 2 ^ (wM W).1 ≤ 2 ^ 12 := Nat.pow_le_pow_right (by decide) hn12
  refine Ct.of rfl (Nat.le_of_ble_eq_true rfl) fun X => ?_
  show V X _ sg I 0 [some (rf g 92), none, none] []
  obtain ⟨p, hp⟩ : ∃ p : Nat → Bool, p = fun s => !anyW tv (syN tv W s) := ⟨_, rfl⟩
  have hff : fClash tv W = o4 (am p pc16 (2 ^ (wM W).1)) := by unfold fClash clsN; rw [hp]
  rw [hff]
  have loop : ∀ (d k : Nat) (J : IM), 2 ^ (wM W).1 - k = d → k ≤ 2 ^ (wM W).1 → knF I J → V X (ZQ X (knQ sg I (o4 (am p pc16 (2 ^ (wM W).1))))) sg J 5 [some (rf g 92), some (.int (o4 (am p pc16 k))), some (.int (nI k))] [] := by
    intro d
    induction d with
    | zero =>
      intro k J hd hkn hf
      have e : k = 2 ^ (wM W).1 := by omega
      subst e
      have hW1 := hW0.kn hf
      refine V_iload_n rfl dX6_clash_5 ?_
      refine V_iconst (nI 1) (by decide) dX6_clash_6 ?_
      refine V_aload_n rfl dX6_clash_7 ?_
      refine gf_X6_33 (by assumption) (by assumption) rfl dX6_clash_8 ?_
      refine V_iconst (nI 2) (by decide) dX6_clash_11 ?_
      refine V_iald _ (by assumption) rfl (by omega) (by omega) dX6_clash_12 ?_
      refine V_topi (hW1.2.2.1) ?_
      refine V_ishl1N (by omega) dX6_clash_13 ?_
      refine V_icmp_geN 60 dX6_clash_14 (by decide) (by omega) (by omega) (fun h14 => ?_) (fun h14 => absurd h14 (by omega))
      refine V_iload_n rfl dX6_clash_60 ?_
      refine V_iret rfl rfl rfl ?_ dX6_clash_61
      exact ⟨rfl, rfl, hf⟩
    | succ d ih =>
      intro k J hd hkn hf
      have hW1 := hW0.kn hf
      have hT1 := hT0.kn hf
      have hsl : syN tv W k < 65536 := Nat.lt_of_lt_of_le sy_lt h16
      have hih := fun J hf => ih (k + 1) J (by omega) (by omega) hf
      have hpk : p k = !anyW tv (syN tv W k) := by rw [hp]
      cases hb : am p pc16 k with
      | none =>
        have e1 : am p pc16 (k + 1) = if p k then some k else none := by rw [am, hb]
        rw [e1] at hih
        refine V_iload_n rfl dX6_clash_5 ?_
        refine V_iconst (nI 1) (by decide) dX6_clash_6 ?_
        refine V_aload_n rfl dX6_clash_7 ?_
        refine gf_X6_33 (by assumption) (by assumption) rfl dX6_clash_8 ?_
        refine V_iconst (nI 2) (by decide) dX6_clash_11 ?_
        refine V_iald _ (by assumption) rfl (by omega) (by omega) dX6_clash_12 ?_
        refine V_topi (hW1.2.2.1) ?_
        refine V_ishl1N (by omega) dX6_clash_13 ?_
        refine V_icmp_geN 60 dX6_clash_14 (by decide) (by omega) (by omega) (fun h14 => absurd h14 (by omega)) (fun h14 => ?_)
        refine V_iload_n rfl dX6_clash_17 ?_
        refine V_if_lt 32 dX6_clash_18 (by decide) (fun h18 => ?_) (fun h18 => absurd h18 (by exact fun z => z (show (-4 : Int32) < 0 by decide)))
        refine V_aload_n rfl dX6_clash_32 ?_
        refine V_aload_n rfl dX6_clash_33 ?_
        refine V_iload_n rfl dX6_clash_34 ?_
        refine cf_X6_224 (D_says hK0 hok hW1 hmk (by omega)) (by assumption) rfl rfl ft0 (Nat.le_of_ble_eq_true rfl) dX6_clash_35 ?_
        refine cl_X6_196 (D_knows hK0 hT1 hok hsl) (by assumption) rfl rfl ft0 (Nat.le_of_ble_eq_true rfl) dX6_clash_38 (fun rr s9 J1 hq2 => ?_)
        have hkn2 := hf.trans (kw_kn hq2)
        obtain ⟨rfl, hs, q13, -⟩ := id hq2
        have hs := hs.symm
        subst hs
        show V X _ sg J1 41 _ []
        have h9 := hih J1 hkn2
        refine V_aload_n rfl dX6_clash_41 ?_
        refine gfe_X6_174 (by assumption) (by assumption) rfl dX6_clash_42 ?_
        refine V_if_eqB 52 dX6_clash_45 (by decide) (fun h45 => ?_) (fun h45 => ?_)
        · skip
          refine V_iload_n rfl dX6_clash_52 ?_
          refine V_ist1 rfl rfl dX6_clash_53 ?_
          refine V_iinc2_ _ (nI_inc _) rfl rfl dX6_clash_54 ?_
          refine V_goto 5 dX6_clash_57 (by decide) ?_
          first
          | (rw [if_neg (by rw [hpk, h45]; decide)] at h9; exact h9)
          | (rw [if_pos (by rw [hpk]; simpa using h45)] at h9; exact h9)
        · skip
          refine V_iload_n rfl dX6_clash_48 ?_
          refine V_goto 53 dX6_clash_49 (by decide) ?_
          refine V_ist1 rfl rfl dX6_clash_53 ?_
          refine V_iinc2_ _ (nI_inc _) rfl rfl dX6_clash_54 ?_
          refine V_goto 5 dX6_clash_57 (by decide) ?_
          first
          | (rw [if_neg (by rw [hpk, h45]; decide)] at h9; exact h9)
          | (rw [if_pos (by rw [hpk]; simpa using h45)] at h9; exact h9)
      | some j =>
        have hjk := (am_some hb).1
        have e1 : am p pc16 (k + 1) = if p k && decide (pc16 k < pc16 j) then some k else some j := by rw [am, hb]
        rw [e1] at hih
        have hc1 : pc16 k ≤ 16 := pcN_le 16 _
        have hc2 : pc16 j ≤ 16 := pcN_le 16 _
        refine V_iload_n rfl dX6_clash_5 ?_
        refine V_iconst (nI 1) (by decide) dX6_clash_6 ?_
        refine V_aload_n rfl dX6_clash_7 ?_
        refine gf_X6_33 (by assumption) (by assumption) rfl dX6_clash_8 ?_
        refine V_iconst (nI 2) (by decide) dX6_clash_11 ?_
        refine V_iald _ (by assumption) rfl (by omega) (by omega) dX6_clash_12 ?_
        refine V_topi (hW1.2.2.1) ?_
        refine V_ishl1N (by omega) dX6_clash_13 ?_
        refine V_icmp_geN 60 dX6_clash_14 (by decide) (by omega) (by omega) (fun h14 => absurd h14 (by omega)) (fun h14 => ?_)
        refine V_iload_n rfl dX6_clash_17 ?_
        refine V_if_ltN 32 dX6_clash_18 (by decide) (by omega) ?_
        refine V_iload_n rfl dX6_clash_21 ?_
        refine cf_X6_149 (D_many (by omega)) rfl rfl ft0 (Nat.le_of_ble_eq_true rfl) dX6_clash_22 ?_
        refine V_iload_n rfl dX6_clash_25 ?_
        refine cf_X6_149 (D_many (by omega)) rfl rfl ft0 (Nat.le_of_ble_eq_true rfl) dX6_clash_26 ?_
        refine V_icmp_geN 54 dX6_clash_29 (by decide) (by omega) (by omega) (fun h29 => ?_) (fun h29 => ?_)
        · skip
          refine V_iinc2_ _ (nI_inc _) rfl rfl dX6_clash_54 ?_
          refine V_goto 5 dX6_clash_57 (by decide) ?_
          first
          | (have h9 := hih J hf; rw [if_neg (by rw [decide_eq_false (by omega), Bool.and_false]; decide)] at h9; exact h9)
          | (rw [if_neg (by rw [hpk, h45]; simp)] at h9; exact h9)
          | (rw [if_pos (by rw [hpk, decide_eq_true (by omega), Bool.and_true]; simpa using h45)] at h9; exact h9)
        · skip
          refine V_aload_n rfl dX6_clash_32 ?_
          refine V_aload_n rfl dX6_clash_33 ?_
          refine V_iload_n rfl dX6_clash_34 ?_
          refine cf_X6_224 (D_says hK0 hok hW1 hmk (by omega)) (by assumption) rfl rfl ft0 (Nat.le_of_ble_eq_true rfl) dX6_clash_35 ?_
          refine cl_X6_196 (D_knows hK0 hT1 hok hsl) (by assumption) rfl rfl ft0 (Nat.le_of_ble_eq_true rfl) dX6_clash_38 (fun rr s9 J1 hq2 => ?_)
          have hkn2 := hf.trans (kw_kn hq2)
          obtain ⟨rfl, hs, q13, -⟩ := id hq2
          have hs := hs.symm
          subst hs
          show V X _ sg J1 41 _ []
          have h9 := hih J1 hkn2
          refine V_aload_n rfl dX6_clash_41 ?_
          refine gfe_X6_174 (by assumption) (by assumption) rfl dX6_clash_42 ?_
          refine V_if_eqB 52 dX6_clash_45 (by decide) (fun h45 => ?_) (fun h45 => ?_)
          · skip
            refine V_iload_n rfl dX6_clash_52 ?_
            refine V_ist1 rfl rfl dX6_clash_53 ?_
            refine V_iinc2_ _ (nI_inc _) rfl rfl dX6_clash_54 ?_
            refine V_goto 5 dX6_clash_57 (by decide) ?_
            first
            | (have h9 := hih J hf; rw [if_neg (by rw [decide_eq_false (by omega), Bool.and_false]; decide)] at h9; exact h9)
            | (rw [if_neg (by rw [hpk, h45]; simp)] at h9; exact h9)
            | (rw [if_pos (by rw [hpk, decide_eq_true (by omega), Bool.and_true]; simpa using h45)] at h9; exact h9)
          · skip
            refine V_iload_n rfl dX6_clash_48 ?_
            refine V_goto 53 dX6_clash_49 (by decide) ?_
            refine V_ist1 rfl rfl dX6_clash_53 ?_
            refine V_iinc2_ _ (nI_inc _) rfl rfl dX6_clash_54 ?_
            refine V_goto 5 dX6_clash_57 (by decide) ?_
            first
            | (have h9 := hih J hf; rw [if_neg (by rw [decide_eq_false (by omega), Bool.and_false]; decide)] at h9; exact h9)
            | (rw [if_neg (by rw [hpk, h45]; simp)] at h9; exact h9)
            | (rw [if_pos (by rw [hpk, decide_eq_true (by omega), Bool.and_true]; simpa using h45)] at h9; exact h9)
  refine V_bipush (-4) (by decide) dX6_clash_0 ?_
  refine V_ist1 rfl rfl dX6_clash_2 ?_
  refine V_iconst (nI 0) (by decide) dX6_clash_3 ?_
  refine V_ist2 rfl rfl dX6_clash_4 ?_
  exact loop (2 ^ (wM W).1) 0 I rfl (Nat.zero_le _) knF.refl
theorem D_sayings {t : Nat} (hK : MK sg) (hT : MTn I tv) (hok : TVok tv) (hW : SlW I 0 W np) (htr : wT W < 2147483648) (ht : t < 256) : Fn m_X6_sayings g [rf g 92, .int (nI t)] sg I (some (.int (nI (sgnN (tF tv) t (wT W))))) sg I := by
  have hK0 := hK
  obtain ⟨m0, mR1, mR3, mR4, mR5, mR6, mR7, mR8, mR10, mR16, mR17, mA93, mA94, mA95, mA96, mA97, mA98, mA99, mA100, mA101, mA102⟩ := hK
  obtain ⟨mF, mnL, mnP, mnS, mnB, mL, mP, mS, mB, mWd, mnw⟩ := hT
  have hF1 := hok.1
  have hF8 := hok.2.1
  have h256 := p2_le8 hF8
  have h16 := p2_le16 hF8
  have nL10 := hok.2.2.2.2.2.2.2.1
  have nP5 := hok.2.2.2.2.2.2.2.2.1
  have nS5 := hok.2.2.2.2.2.2.2.2.2.1
  have nB6 := hok.2.2.2.2.2.2.2.2.2.2
  refine Ct.of rfl (Nat.le_of_ble_eq_true rfl) fun X => ?_
  show V X _ sg I 0 [some (rf g 92), some (.int (nI t)), none, none] []
  have loop : ∀ (d k : Nat), tF tv - k = d → k ≤ tF tv → V X (ZQ X (fun r0 s0 I0 => r0 = some (.int (nI (sgnN (tF tv) t (wT W)))) ∧ s0 = sg ∧ I0 = I)) sg I 4 [some (rf g 92), some (.int (nI t)), some (.int (nI (sgnN k t (wT W)))), some (.int (nI k))] [] := by
    intro d
    induction d with
    | zero =>
      intro k hd hkn
      have e : k = tF tv := by omega
      subst e
      refine V_iload_n rfl dX6_sayings_4 ?_
      refine V_aload_n rfl dX6_sayings_5 ?_
      refine gf_X6_13 (by assumption) (by assumption) rfl dX6_sayings_6 ?_
      refine V_iconst (nI 0) (by decide) dX6_sayings_9 ?_
      refine V_iald _ (by assumption) rfl (by omega) (by omega) dX6_sayings_10 ?_
      refine V_topi (mF) ?_
      refine V_icmp_geN 44 dX6_sayings_11 (by decide) (by omega) (by omega) (fun h11 => ?_) (fun h11 => absurd h11 (by omega))
      refine V_iload_n rfl dX6_sayings_44 ?_
      refine V_iret rfl rfl rfl ?_ dX6_sayings_45
      exact ⟨rfl, rfl, rfl⟩
    | succ d ih =>
      intro k hd hkn
      have hih := ih (k + 1) (by omega) (by omega)
      have htb : t.testBit k = decide (t / 2 ^ k % 2 = 1) := Nat.testBit_eq_decide_div_mod_eq
      have htl := tsy_lt (s := wT W) (show k < tF tv by omega)
      have hle : t / 2 ^ k ≤ t := Nat.div_le_self _ _
      rw [sgnN_succ] at hih
      refine V_iload_n rfl dX6_sayings_4 ?_
      refine V_aload_n rfl dX6_sayings_5 ?_
      refine gf_X6_13 (by assumption) (by assumption) rfl dX6_sayings_6 ?_
      refine V_iconst (nI 0) (by decide) dX6_sayings_9 ?_
      refine V_iald _ (by assumption) rfl (by omega) (by omega) dX6_sayings_10 ?_
      refine V_topi (mF) ?_
      refine V_icmp_geN 44 dX6_sayings_11 (by decide) (by omega) (by omega) (fun h11 => absurd h11 (by omega)) (fun h11 => ?_)
      refine V_iload_n rfl dX6_sayings_14 ?_
      refine V_iload_n rfl dX6_sayings_15 ?_
      refine V_iload_n rfl dX6_sayings_16 ?_
      refine V_ishrN ⟨by omega, by omega⟩ dX6_sayings_17 ?_
      refine V_iconst (nI 1) (by decide) dX6_sayings_18 ?_
      refine V_iand1N dX6_sayings_19 ?_
      refine V_iconst (nI 1) (by decide) dX6_sayings_20 ?_
      refine V_icmp_neN 35 dX6_sayings_21 (by decide) (by omega) (by omega) (fun h21 => ?_) (fun h21 => ?_)
      · skip
        refine V_iconst (nI 0) (by decide) dX6_sayings_35 ?_
        refine V_iorN dX6_sayings_36 ?_
        refine V_ist2 rfl rfl dX6_sayings_37 ?_
        refine V_iinc3_ _ (nI_inc _) rfl rfl dX6_sayings_38 ?_
        refine V_goto 4 dX6_sayings_41 (by decide) ?_
        first
        | (rw [if_neg (by rw [htb, decide_eq_false h21]; decide)] at hih; exact hih)
        | (rw [if_pos (by rw [htb, decide_eq_true h21])] at hih; exact hih)
      · skip
        refine V_iconst (nI 1) (by decide) dX6_sayings_24 ?_
        refine V_aload_n rfl dX6_sayings_25 ?_
        refine V_iconst (nI 0) (by decide) dX6_sayings_26 ?_
        refine V_iload_n rfl dX6_sayings_27 ?_
        refine cf_X6_158 (D_trueOf hK0 hW (by decide) (by omega) htr) (by assumption) rfl rfl ft0 (Nat.le_of_ble_eq_true rfl) dX6_sayings_28 ?_
        refine V_ishl1N (by omega) dX6_sayings_31 ?_
        refine V_goto 36 dX6_sayings_32 (by decide) ?_
        refine V_iorN dX6_sayings_36 ?_
        refine V_ist2 rfl rfl dX6_sayings_37 ?_
        refine V_iinc3_ _ (nI_inc _) rfl rfl dX6_sayings_38 ?_
        refine V_goto 4 dX6_sayings_41 (by decide) ?_
        first
        | (rw [if_neg (by rw [htb, decide_eq_false h21]; decide)] at hih; exact hih)
        | (rw [if_pos (by rw [htb, decide_eq_true h21])] at hih; exact hih)
  refine V_iconst (nI 0) (by decide) dX6_sayings_0 ?_
  refine V_ist2 rfl rfl dX6_sayings_1 ?_
  refine V_iconst (nI 0) (by decide) dX6_sayings_2 ?_
  refine V_ist3 rfl rfl dX6_sayings_3 ?_
  exact loop (tF tv) 0 (by omega) (by omega)
theorem D_leastOf {set : Nat} (hM : MSt sg I x tv W P K) (hS : STok x tv W P K) (hs : set < 2 ^ tF tv) : Ct m_X6_leastOf g [rf g 92, .int (nI set)] sg I (knQ sg I (nI (lstN tv W set))) := by
  obtain ⟨hX0, hok, hnp, hns, ⟨hWok, hwk⟩, hPok, hKok⟩ := hS
  obtain ⟨hK, ⟨mlen, mtx⟩, hT, hW, mkept, mKs, mdone, mPs⟩ := hM
  have hK0 := hK
  have hT0 := hT
  have hW0 := hW
  obtain ⟨m0, mR1, mR3, mR4, mR5, mR6, mR7, mR8, mR10, mR16, mR17, mA93, mA94, mA95, mA96, mA97, mA98, mA99, mA100, mA101, mA102⟩ := hK
  obtain ⟨mF, mnL, mnP, mnS, mnB, mL, mP, mS, mB, mWd, mnw⟩ := hT
  have hF1 := hok.1
  have hF8 := hok.2.1
  have h256 := p2_le8 hF8
  have h16 := p2_le16 hF8
  have nL10 := hok.2.2.2.2.2.2.2.1
  have nP5 := hok.2.2.2.2.2.2.2.2.1
  have nS5 := hok.2.2.2.2.2.2.2.2.2.1
  have nB6 := hok.2.2.2.2.2.2.2.2.2.2
  have hmk := hWok.2.2.2.1
  have hn12 := hmk.1
  have htr := hWok.1
  have hnw := nw_le hF8
  have hnw0 := nw_pos hWok
  obtain ⟨wT0, wK0, wM0, wH0, wC0⟩ := id hW
  refine Ct.of rfl (Nat.le_of_ble_eq_true rfl) fun X => ?_
  show V X _ sg I 0 [some (rf g 92), some (.int (nI set)), none, none] []
  have hlaw := hWok.2.1
  obtain ⟨p, hp⟩ : ∃ p : Nat → Bool, p = fun t => tlsB tv t set (wT W) := ⟨_, rfl⟩
  have hfin : nI (lstN tv W set) = o4 (am p pc16 (2 ^ tF tv)) := by
    rw [hp, (lst_spec (W := W) hs).2]; rfl
  rw [hfin]
  have loop : ∀ (d k : Nat) (J : IM), 2 ^ tF tv - k = d → k ≤ 2 ^ tF tv → knF I J → V X (ZQ X (knQ sg I (o4 (am p pc16 (2 ^ tF tv))))) sg J 5 [some (rf g 92), some (.int (nI set)), some (.int (o4 (am p pc16 k))), some (.int (nI k))] [] := by
    intro d
    induction d with
    | zero =>
      intro k J hd hkn hf
      have e : k = 2 ^ tF tv := by omega
      subst e
      have hT1 := hT0.kn hf
      refine V_iload_n rfl dX6_leastOf_5 ?_
      refine V_iconst (nI 1) (by decide) dX6_leastOf_6 ?_
      refine V_aload_n rfl dX6_leastOf_7 ?_
      refine gf_X6_13 (by assumption) (by assumption) rfl dX6_leastOf_8 ?_
      refine V_iconst (nI 0) (by decide) dX6_leastOf_11 ?_
      refine V_iald _ (by assumption) rfl (by omega) (by omega) dX6_leastOf_12 ?_
      refine V_topi (hT1.1) ?_
      refine V_ishl1N (by omega) dX6_leastOf_13 ?_
      refine V_icmp_geN 69 dX6_leastOf_14 (by decide) (by omega) (by omega) (fun h14 => ?_) (fun h14 => absurd h14 (by omega))
      refine V_iload_n rfl dX6_leastOf_69 ?_
      refine V_iret rfl rfl rfl ?_ dX6_leastOf_70
      exact ⟨rfl, rfl, hf⟩
    | succ d ih =>
      intro k J hd hkn hf
      have hW1 := hW0.kn hf
      have hT1 := hT0.kn hf
      have hkk : k < 2 ^ tF tv := by omega
      have hsl : sgnN (tF tv) k (wT W) < 65536 := Nat.lt_of_lt_of_le (bm_lt _ _) h16
      have hih := fun J hf => ih (k + 1) J (by omega) (by omega) hf
      have hpk : p k = true ↔ set ^^^ (set &&& (bm (tF tv) (fun f => knw tv (sgnN (tF tv) k (wT W)) (2 * f)) ||| bm (tF tv) (fun f => knw tv (sgnN (tF tv) k (wT W)) (2 * f + 1)))) = 0 := by
        rw [hp]; exact tls_iff hF8 hkk hs htr hlaw
      have hxl : set ^^^ (set &&& (bm (tF tv) (fun f => knw tv (sgnN (tF tv) k (wT W)) (2 * f)) ||| bm (tF tv) (fun f => knw tv (sgnN (tF tv) k (wT W)) (2 * f + 1)))) < 2 ^ 16 := Nat.xor_lt_two_pow (by omega) (Nat.lt_of_le_of_lt Nat.and_le_left (by omega))
      cases hb : am p pc16 k with
      | none =>
        have e1 : am p pc16 (k + 1) = if p k then some k else none := by rw [am, hb]
        rw [e1] at hih
        refine V_iload_n rfl dX6_leastOf_5 ?_
        refine V_iconst (nI 1) (by decide) dX6_leastOf_6 ?_
        refine V_aload_n rfl dX6_leastOf_7 ?_
        refine gf_X6_13 (by assumption) (by assumption) rfl dX6_leastOf_8 ?_
        refine V_iconst (nI 0) (by decide) dX6_leastOf_11 ?_
        refine V_iald _ (by assumption) rfl (by omega) (by omega) dX6_leastOf_12 ?_
        refine V_topi (hT1.1) ?_
        refine V_ishl1N (by omega) dX6_leastOf_13 ?_
        refine V_icmp_geN 69 dX6_leastOf_14 (by decide) (by omega) (by omega) (fun h14 => absurd h14 (by omega)) (fun h14 => ?_)
        refine V_iload_n rfl dX6_leastOf_17 ?_
        refine V_if_lt 32 dX6_leastOf_18 (by decide) (fun h18 => ?_) (fun h18 => absurd h18 (by exact fun z => z (show (-4 : Int32) < 0 by decide)))
        refine V_aload_n rfl dX6_leastOf_32 ?_
        refine V_aload_n rfl dX6_leastOf_33 ?_
        refine V_iload_n rfl dX6_leastOf_34 ?_
        refine cf_X6_212 (D_sayings hK0 hT1 hok hW1 (by omega) (by omega)) (by assumption) rfl rfl ft0 (Nat.le_of_ble_eq_true rfl) dX6_leastOf_35 ?_
        refine cl_X6_196 (D_knows hK0 hT1 hok hsl) (by assumption) rfl rfl ft0 (Nat.le_of_ble_eq_true rfl) dX6_leastOf_38 (fun rr s9 J1 hq2 => ?_)
        have hkn2 := hf.trans (kw_kn hq2)
        obtain ⟨rfl, hs9, q13, q14, q15, -⟩ := id hq2
        have hs9 := hs9.symm
        subst hs9
        show V X _ sg J1 41 _ []
        have h9 := hih J1 hkn2
        refine V_iload_n rfl dX6_leastOf_41 ?_
        refine V_aload_n rfl dX6_leastOf_42 ?_
        refine gfe_X6_178 (by assumption) (by assumption) rfl dX6_leastOf_43 ?_
        refine V_aload_n rfl dX6_leastOf_46 ?_
        refine gfe_X6_181 (by assumption) (by assumption) rfl dX6_leastOf_47 ?_
        refine V_iorN dX6_leastOf_50 ?_
        refine V_iconst (-1) (by decide) dX6_leastOf_51 ?_
        skip
        refine V_ixor dX6_leastOf_52 ?_
        refine V_iand dX6_leastOf_53 ?_
        refine V_topi (nI_andn _ _ (by omega)) ?_
        refine V_if_neN 61 dX6_leastOf_54 (by decide) (by omega) (fun h54 => ?_) (fun h54 => ?_)
        · skip
          refine V_iload_n rfl dX6_leastOf_61 ?_
          refine V_ist2 rfl rfl dX6_leastOf_62 ?_
          refine V_iinc3_ _ (nI_inc _) rfl rfl dX6_leastOf_63 ?_
          refine V_goto 5 dX6_leastOf_66 (by decide) ?_
          first
          | (rw [if_neg (fun z => h54 (hpk.mp z))] at h9; exact h9)
          | (rw [if_pos (hpk.mpr h54)] at h9; exact h9)
        · skip
          refine V_iload_n rfl dX6_leastOf_57 ?_
          refine V_goto 62 dX6_leastOf_58 (by decide) ?_
          refine V_ist2 rfl rfl dX6_leastOf_62 ?_
          refine V_iinc3_ _ (nI_inc _) rfl rfl dX6_leastOf_63 ?_
          refine V_goto 5 dX6_leastOf_66 (by decide) ?_
          first
          | (rw [if_neg (fun z => h54 (hpk.mp z))] at h9; exact h9)
          | (rw [if_pos (hpk.mpr h54)] at h9; exact h9)
      | some j =>
        have hjk := (am_some hb).1
        have e1 : am p pc16 (k + 1) = if p k && decide (pc16 k < pc16 j) then some k else some j := by rw [am, hb]
        rw [e1] at hih
        have hc1 : pc16 k ≤ 16 := pcN_le 16 _
        have hc2 : pc16 j ≤ 16 := pcN_le 16 _
        refine V_iload_n rfl dX6_leastOf_5 ?_
        refine V_iconst (nI 1) (by decide) dX6_leastOf_6 ?_
        refine V_aload_n rfl dX6_leastOf_7 ?_
        refine gf_X6_13 (by assumption) (by assumption) rfl dX6_leastOf_8 ?_
        refine V_iconst (nI 0) (by decide) dX6_leastOf_11 ?_
        refine V_iald _ (by assumption) rfl (by omega) (by omega) dX6_leastOf_12 ?_
        refine V_topi (hT1.1) ?_
        refine V_ishl1N (by omega) dX6_leastOf_13 ?_
        refine V_icmp_geN 69 dX6_leastOf_14 (by decide) (by omega) (by omega) (fun h14 => absurd h14 (by omega)) (fun h14 => ?_)
        refine V_iload_n rfl dX6_leastOf_17 ?_
        refine V_if_ltN 32 dX6_leastOf_18 (by decide) (by omega) ?_
        refine V_iload_n rfl dX6_leastOf_21 ?_
        refine cf_X6_149 (D_many (by omega)) rfl rfl ft0 (Nat.le_of_ble_eq_true rfl) dX6_leastOf_22 ?_
        refine V_iload_n rfl dX6_leastOf_25 ?_
        refine cf_X6_149 (D_many (by omega)) rfl rfl ft0 (Nat.le_of_ble_eq_true rfl) dX6_leastOf_26 ?_
        refine V_icmp_geN 63 dX6_leastOf_29 (by decide) (by omega) (by omega) (fun h29 => ?_) (fun h29 => ?_)
        · skip
          refine V_iinc3_ _ (nI_inc _) rfl rfl dX6_leastOf_63 ?_
          refine V_goto 5 dX6_leastOf_66 (by decide) ?_
          first
          | (have h9 := hih J hf; rw [if_neg (by rw [decide_eq_false (by omega), Bool.and_false]; decide)] at h9; exact h9)
          | (rw [if_neg (fun z => by rw [Bool.and_eq_true] at z; exact h54 (hpk.mp z.1))] at h9; exact h9)
          | (rw [if_pos (by rw [hpk.mpr h54, decide_eq_true (by omega)]; rfl)] at h9; exact h9)
        · skip
          refine V_aload_n rfl dX6_leastOf_32 ?_
          refine V_aload_n rfl dX6_leastOf_33 ?_
          refine V_iload_n rfl dX6_leastOf_34 ?_
          refine cf_X6_212 (D_sayings hK0 hT1 hok hW1 (by omega) (by omega)) (by assumption) rfl rfl ft0 (Nat.le_of_ble_eq_true rfl) dX6_leastOf_35 ?_
          refine cl_X6_196 (D_knows hK0 hT1 hok hsl) (by assumption) rfl rfl ft0 (Nat.le_of_ble_eq_true rfl) dX6_leastOf_38 (fun rr s9 J1 hq2 => ?_)
          have hkn2 := hf.trans (kw_kn hq2)
          obtain ⟨rfl, hs9, q13, q14, q15, -⟩ := id hq2
          have hs9 := hs9.symm
          subst hs9
          show V X _ sg J1 41 _ []
          have h9 := hih J1 hkn2
          refine V_iload_n rfl dX6_leastOf_41 ?_
          refine V_aload_n rfl dX6_leastOf_42 ?_
          refine gfe_X6_178 (by assumption) (by assumption) rfl dX6_leastOf_43 ?_
          refine V_aload_n rfl dX6_leastOf_46 ?_
          refine gfe_X6_181 (by assumption) (by assumption) rfl dX6_leastOf_47 ?_
          refine V_iorN dX6_leastOf_50 ?_
          refine V_iconst (-1) (by decide) dX6_leastOf_51 ?_
          skip
          refine V_ixor dX6_leastOf_52 ?_
          refine V_iand dX6_leastOf_53 ?_
          refine V_topi (nI_andn _ _ (by omega)) ?_
          refine V_if_neN 61 dX6_leastOf_54 (by decide) (by omega) (fun h54 => ?_) (fun h54 => ?_)
          · skip
            refine V_iload_n rfl dX6_leastOf_61 ?_
            refine V_ist2 rfl rfl dX6_leastOf_62 ?_
            refine V_iinc3_ _ (nI_inc _) rfl rfl dX6_leastOf_63 ?_
            refine V_goto 5 dX6_leastOf_66 (by decide) ?_
            first
            | (have h9 := hih J hf; rw [if_neg (by rw [decide_eq_false (by omega), Bool.and_false]; decide)] at h9; exact h9)
            | (rw [if_neg (fun z => by rw [Bool.and_eq_true] at z; exact h54 (hpk.mp z.1))] at h9; exact h9)
            | (rw [if_pos (by rw [hpk.mpr h54, decide_eq_true (by omega)]; rfl)] at h9; exact h9)
          · skip
            refine V_iload_n rfl dX6_leastOf_57 ?_
            refine V_goto 62 dX6_leastOf_58 (by decide) ?_
            refine V_ist2 rfl rfl dX6_leastOf_62 ?_
            refine V_iinc3_ _ (nI_inc _) rfl rfl dX6_leastOf_63 ?_
            refine V_goto 5 dX6_leastOf_66 (by decide) ?_
            first
            | (have h9 := hih J hf; rw [if_neg (by rw [decide_eq_false (by omega), Bool.and_false]; decide)] at h9; exact h9)
            | (rw [if_neg (fun z => by rw [Bool.and_eq_true] at z; exact h54 (hpk.mp z.1))] at h9; exact h9)
            | (rw [if_pos (by rw [hpk.mpr h54, decide_eq_true (by omega)]; rfl)] at h9; exact h9)
  refine V_bipush (-4) (by decide) dX6_leastOf_0 ?_
  refine V_ist2 rfl rfl dX6_leastOf_2 ?_
  refine V_iconst (nI 0) (by decide) dX6_leastOf_3 ?_
  refine V_ist3 rfl rfl dX6_leastOf_4 ?_
  exact loop (2 ^ tF tv) 0 I rfl (Nat.zero_le _) knF.refl
theorem D_least {s : Int32} (hM : MSt sg I x tv W P K) (hS : STok x tv W P K) : Ct m_X6_least g [rf g 92, .int s] sg I (knQ sg I (fLeast tv W s)) := by
  have hM0 := hM
  have hS0 := hS
  obtain ⟨hX0, hok, hnp, hns, ⟨hWok, hwk⟩, hPok, hKok⟩ := hS
  obtain ⟨hK, ⟨mlen, mtx⟩, hT, hW, mkept, mKs, mdone, mPs⟩ := hM
  have hK0 := hK
  have hT0 := hT
  have hW0 := hW
  obtain ⟨m0, mR1, mR3, mR4, mR5, mR6, mR7, mR8, mR10, mR16, mR17, mA93, mA94, mA95, mA96, mA97, mA98, mA99, mA100, mA101, mA102⟩ := hK
  obtain ⟨mF, mnL, mnP, mnS, mnB, mL, mP, mS, mB, mWd, mnw⟩ := hT
  have hF1 := hok.1
  have hF8 := hok.2.1
  have h256 := p2_le8 hF8
  have h16 := p2_le16 hF8
  have nL10 := hok.2.2.2.2.2.2.2.1
  have nP5 := hok.2.2.2.2.2.2.2.2.1
  have nS5 := hok.2.2.2.2.2.2.2.2.2.1
  have nB6 := hok.2.2.2.2.2.2.2.2.2.2
  have hmk := hWok.2.2.2.1
  have hn12 := hmk.1
  have htr := hWok.1
  have hnw := nw_le hF8
  have hnw0 := nw_pos hWok
  obtain ⟨wT0, wK0, wM0, wH0, wC0⟩ := id hW
  refine Ct.of rfl (Nat.le_of_ble_eq_true rfl) fun X => ?_
  show V X _ sg I 0 [some (rf g 92), some (.int s)] []
  refine V_aload_n rfl dX6_least_0 ?_
  refine V_iload_n rfl dX6_least_1 ?_
  refine cf_X6_143 (D_isSet hK0 hT0 hok) (by assumption) rfl rfl ft0 (Nat.le_of_ble_eq_true rfl) dX6_least_2 ?_
  refine V_if_eqB 16 dX6_least_5 (by decide) (fun h5 => ?_) (fun h5 => ?_)
  · skip
    refine V_iconst (-1) (by decide) dX6_least_16 ?_
    refine V_iret rfl rfl rfl ?_ dX6_least_17
    unfold fLeast
    first
    | (rw [ifb_neg h5]; exact ⟨rfl, rfl, knF.refl⟩)
    | (rw [ifb_pos hj (by omega) rfl]; exact ⟨rfl, rfl, hkn⟩)
  · skip
    obtain ⟨j, hj, rfl⟩ := bel_ex (by omega) h5
    refine V_aload_n rfl dX6_least_8 ?_
    refine V_iload_n rfl dX6_least_9 ?_
    refine cl_X6_215 (D_leastOf hM0 hS0 hj) (by assumption) rfl rfl ft0 (Nat.le_of_ble_eq_true rfl) dX6_least_10 (fun rr s9 J1 hq => ?_)
    obtain ⟨rfl, hs9, hkn⟩ := hq
    have hs9 := hs9.symm
    subst hs9
    show V X _ sg J1 13 _ [.int (nI (lstN tv W j))]
    refine V_goto 17 dX6_least_13 (by decide) ?_
    refine V_iret rfl rfl rfl ?_ dX6_least_17
    unfold fLeast
    first
    | (rw [ifb_neg h5]; exact ⟨rfl, rfl, knF.refl⟩)
    | (rw [ifb_pos hj (by omega) rfl]; exact ⟨rfl, rfl, hkn⟩)
end MLEAST
