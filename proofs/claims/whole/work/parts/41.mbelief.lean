/-! CarvedWeeksModel: belief -/
theorem sm_wl {tv : TV} (h8 : tF tv ≤ 8) (q : Nat → Nat) : smN (nw' tv) (fun i => q (wl tv i)) = smN 256 (fun w => if wB tv w = true then q w else 0) := by
  rw [nw_cnt h8]
  have h : ∀ n, smN (cnt n (wB tv)) (fun i => q (wl tv i)) = smN n (fun w => if wB tv w = true then q w else 0) := by
    intro n
    induction n with
    | zero => rfl
    | succ n ih =>
      rw [cnt_succ, smN_succ, ← ih]
      by_cases h : wB tv n = true
      · rw [if_pos h, if_pos h, smN_succ, wl_at h]
      · rw [if_neg h, if_neg h, Nat.add_zero, Nat.add_zero]
  exact h 256
section MBELIEF
variable {g : GC} {sg : SG} {I : IM} {x : XV} {tv : TV} {W : WV} {P K : SV} {np : Nat}
theorem D_belief {f p : Int32} (hM : MSt sg I x tv W P K) (hS : STok x tv W P K) : Fn m_X6_belief g [rf g 92, .int f, .int p] sg I (some (.long (fBelief tv W f p))) sg I := by
  obtain ⟨hX0, hok, hnp, hns, ⟨hWok, hwk⟩, hPok, hKok⟩ := hS
  obtain ⟨hK, ⟨mlen, mtx⟩, hT, hW, mkept, mKs, mdone, mPs⟩ := hM
  have hK0 := hK
  have hT0 := hT
  have hW0 := hW
  obtain ⟨m0, mR1, mR3, mR4, mR5, mR6, mR7, mR8, mR10, mR16, mR17, mA93, mA94, mA95, mA96, mA97, mA98, mA99, mA100, mA101, mA102⟩ := hK
  obtain ⟨mF, mnL, mnP, mnS, mnB, mL, mP, mS, mB, mWd, mnw⟩ := hT
  have hF1 := hok.1
  have hF8 := hok.2.1
  have h256 := p2_le8 hF8
  have h16 := p2_le16 hF8
  have nL10 := hok.2.2.2.2.2.2.2.1
  have nP5 := hok.2.2.2.2.2.2.2.2.1
  have nS5 := hok.2.2.2.2.2.2.2.2.2.1
  have nB6 := hok.2.2.2.2.2.2.2.2.2.2
  have hmk := hWok.2.2.2.1
  have hn12 := hmk.1
  have htr := hWok.1
  have hnw := nw_le hF8
  have hnw0 := nw_pos hWok
  obtain ⟨wT0, wK0, wM0, wH0, wC0⟩ := id hW
  have hw12 : ∀ s, wtN tv W s (wM W).1 ≤ 1000000000000 := fun s => by
    have h1 := wtN_le (s := s) hok (fun m hm => (hmk.2.1 m hm).2.2.1) (Nat.le_refl (wM W).1)
    have h2 : 10 ^ (wM W).1 ≤ 10 ^ 12 := Nat.pow_le_pow_right (by decide) hn12
    have h3 : (10 : Nat) ^ 12 = 1000000000000 := by decide
    omega
  have hall : allN tv W ≤ 256000000000000 := by
    have h1 := sm_le (n := nw' tv) (f := fun i => wtN tv W (wl tv i) (wM W).1) (fun i _ => hw12 (wl tv i))
    unfold allN
    have h2 : nw' tv * 1000000000000 ≤ 256 * 1000000000000 := Nat.mul_le_mul_right _ hnw
    omega
  have hsos : ∀ f, sosN tv W f ≤ allN tv W := fun f => sm_mono (fun i _ => by split; exact Nat.le_refl _; exact Nat.zero_le _)
  obtain ⟨wt, hwt⟩ : ∃ wt : Nat → Nat, wt = fun w => if wB tv w = true then wtN tv W w (wM W).1 else 0 := ⟨_, rfl⟩
  have ea : smN 256 wt = allN tv W := by rw [hwt]; exact (sm_wl hF8 (fun w => wtN tv W w (wM W).1)).symm
  have es : ∀ f0, smN 256 (fun w => if w.testBit f0 then wt w else 0) = sosN tv W f0 := by
    intro f0
    unfold sosN
    rw [sm_wl hF8 (fun w => if w.testBit f0 then wtN tv W w (wM W).1 else 0), hwt]
    refine sm_congr (fun w _ => ?_)
    show (if w.testBit f0 = true then (if wB tv w = true then wtN tv W w (wM W).1 else 0) else 0) = _
    by_cases h1 : w.testBit f0 = true <;> by_cases h2 : wB tv w = true <;> simp [h1, h2]
  refine Ct.of rfl (Nat.le_of_ble_eq_true rfl) fun X => ?_
  show V X _ sg I 0 [some (rf g 92), some (.int f), some (.int p), none, none, none, none, none, none, none, none, none, none] []
  have hend : ∀ (f0 p0 : Nat) (z z2 z3 z4 : Option Value), f0 < tF tv → p0 < 2 → f = nI f0 → p = nI p0 → ¬ allN tv W = 0 →
      V X (ZQ X (fun r0 s0 I0 => r0 = some (.long (fBelief tv W f p)) ∧ s0 = sg ∧ I0 = I)) sg I 212 [some (rf g 92), some (.int (nI f0)), some (.int (nI p0)), some (.long (lN (sosN tv W f0))), none, some (.long (lN (allN tv W))), none, some (.long (lN (Nat.gcd (allN tv W) (sosN tv W f0)))), none, z, z2, z3, z4] [] := by
    intro f0 p0 z z2 z3 z4 hf0 hp0 ef ep h0
    have hs0 := hsos f0
    have hff : fBelief tv W f p = if p0 = 0 then lN (sosN tv W f0 / Nat.gcd (allN tv W) (sosN tv W f0)) else lN (allN tv W / Nat.gcd (allN tv W) (sosN tv W f0)) := by
      unfold fBelief; rw [ifb_pos hf0 (by omega) ef, ifb_pos hp0 (by decide) ep, if_neg h0]
    rw [hff]
    have hgp : 0 < Nat.gcd (allN tv W) (sosN tv W f0) := Nat.gcd_pos_of_pos_left _ (by omega)
    have hgl : Nat.gcd (allN tv W) (sosN tv W f0) ≤ 256000000000000 := Nat.le_trans (Nat.gcd_le_left _ (by omega)) hall
    refine V_iload_n rfl dX6_belief_212 ?_
    refine V_if_neN 223 dX6_belief_213 (by decide) (by omega) (fun h213 => ?_) (fun h213 => ?_)
    · skip
      refine V_lload rfl dX6_belief_223 ?_
      refine V_lload rfl dX6_belief_225 ?_
      refine V_ldiv (lN_nz hgp (by omega)) dX6_belief_227 ?_
      refine V_topl (pk_lDiv (by omega) hgp (by omega)) ?_
      refine V_lret rfl rfl rfl ?_ dX6_belief_228
      exact ⟨by first | rw [if_pos h213] | rw [if_neg h213], rfl, rfl⟩
    · skip
      refine V_lload_n rfl dX6_belief_216 ?_
      refine V_lload rfl dX6_belief_217 ?_
      refine V_ldiv (lN_nz hgp (by omega)) dX6_belief_219 ?_
      refine V_topl (pk_lDiv (by omega) hgp (by omega)) ?_
      refine V_goto 228 dX6_belief_220 (by decide) ?_
      refine V_lret rfl rfl rfl ?_ dX6_belief_228
      exact ⟨by first | rw [if_pos h213] | rw [if_neg h213], rfl, rfl⟩
  have hgcd : ∀ (f0 p0 : Nat), f0 < tF tv → p0 < 2 → f = nI f0 → p = nI p0 → ¬ allN tv W = 0 → ∀ (d a b : Nat) (z3 z4 : Option Value), b ≤ d → a ≤ 256000000000000 → b ≤ 256000000000000 → Nat.gcd a b = Nat.gcd (allN tv W) (sosN tv W f0) →
      V X (ZQ X (fun r0 s0 I0 => r0 = some (.long (fBelief tv W f p)) ∧ s0 = sg ∧ I0 = I)) sg I 187 [some (rf g 92), some (.int (nI f0)), some (.int (nI p0)), some (.long (lN (sosN tv W f0))), none, some (.long (lN (allN tv W))), none, some (.long (lN a)), none, some (.long (lN b)), none, z3, z4] [] := by
    intro f0 p0 hf0 hp0 ef ep h0 d
    induction d with
    | zero =>
      intro a b z3 z4 hb ha hb2 hg
      have e : b = 0 := by omega
      subst e
      rw [Nat.gcd_zero_right] at hg
      subst hg
      have hl := (lg0 (a := 0) (b := 0) (by decide) (by decide)).mpr rfl
      refine V_lload rfl dX6_belief_187 ?_
      refine V_lconst (lN 0) rfl dX6_belief_189 ?_
      refine V_lcmp dX6_belief_190 ?_
      refine V_if_eq 212 dX6_belief_191 (by decide) (fun h191 => ?_) (fun h191 => absurd h191 (by exact fun z => z hl))
      exact hend f0 p0 _ _ _ _ hf0 hp0 ef ep h0
    | succ d ih =>
      intro a b z3 z4 hb ha hb2 hg
      have hl := lg0 (a := b) (b := 0) (by omega) (by decide)
      by_cases hy : b = 0
      · subst hy
        rw [Nat.gcd_zero_right] at hg
        subst hg
        have hl2 := hl.mpr rfl
        refine V_lload rfl dX6_belief_187 ?_
        refine V_lconst (lN 0) rfl dX6_belief_189 ?_
        refine V_lcmp dX6_belief_190 ?_
        refine V_if_eq 212 dX6_belief_191 (by decide) (fun h191 => ?_) (fun h191 => absurd h191 (by exact fun z => z hl2))
        exact hend f0 p0 _ _ _ _ hf0 hp0 ef ep h0
      · have hyp : 0 < b := by omega
        have hml := Nat.mod_lt a hyp
        have hgg : Nat.gcd b (a % b) = Nat.gcd (allN tv W) (sosN tv W f0) := by rw [← hg, Nat.gcd_comm a b, Nat.gcd_rec b a, Nat.gcd_comm]
        refine V_lload rfl dX6_belief_187 ?_
        refine V_lconst (lN 0) rfl dX6_belief_189 ?_
        refine V_lcmp dX6_belief_190 ?_
        refine V_if_eq 212 dX6_belief_191 (by decide) (fun h191 => absurd h191 (by exact fun z => hy (hl.mp z))) (fun h191 => ?_)
        refine V_lload rfl dX6_belief_194 ?_
        refine V_lload rfl dX6_belief_196 ?_
        refine V_lrem (lN_nz hyp (by omega)) dX6_belief_198 ?_
        refine V_topl (pk_lRem (by omega) hyp (by omega)) ?_
        refine V_lst11 rfl rfl dX6_belief_199 ?_
        refine V_lload rfl dX6_belief_201 ?_
        refine V_lst7 rfl rfl dX6_belief_203 ?_
        refine V_lload rfl dX6_belief_205 ?_
        refine V_lst9 rfl rfl dX6_belief_207 ?_
        refine V_goto 187 dX6_belief_209 (by decide) ?_
        exact ih b (a % b) _ _ (by omega) (by omega) (by omega) hgg
  have loop : ∀ (f0 p0 : Nat), f0 < tF tv → p0 < 2 → f = nI f0 → p = nI p0 → ∀ (d k : Nat) (z z2 z3 z4 z5 : Option Value), 256 - k = d → k ≤ 256 →
      V X (ZQ X (fun r0 s0 I0 => r0 = some (.long (fBelief tv W f p)) ∧ s0 = sg ∧ I0 = I)) sg I 30 [some (rf g 92), some (.int (nI f0)), some (.int (nI p0)), some (.long (lN (smN k (fun w => if w.testBit f0 then wt w else 0)))), none, some (.long (lN (smN k wt))), none, some (.int (nI k)), z, z2, z3, z4, z5] [] := by
    intro f0 p0 hf0 hp0 ef ep d
    induction d with
    | zero =>
      intro k z z2 z3 z4 z5 hd hkn
      have e : k = 256 := by omega
      subst e
      rw [ea, es]
      have hs0 := hsos f0
      by_cases h0 : allN tv W = 0
      · have hl := (lg0 (a := allN tv W) (b := 0) (by omega) (by decide)).mpr h0
        have hff : fBelief tv W f p = -4 := by
          unfold fBelief; rw [ifb_pos hf0 (by omega) ef, ifb_pos hp0 (by decide) ep, if_pos h0]
        rw [hff]
        refine V_iload rfl dX6_belief_30 ?_
        refine V_sipush (nI 256) (by decide) dX6_belief_32 ?_
        refine V_icmp_geN 169 dX6_belief_35 (by decide) (by omega) (by omega) (fun h35 => ?_) (fun h35 => absurd h35 (by omega))
        refine V_lload rfl dX6_belief_169 ?_
        refine V_lconst (lN 0) rfl dX6_belief_171 ?_
        refine V_lcmp dX6_belief_172 ?_
        refine V_if_ne 180 dX6_belief_173 (by decide) (fun h173 => absurd h173 (by exact fun z => z hl)) (fun h173 => ?_)
        refine V_ldc2 RX6 _ rfl wk_X6_210 dX6_belief_176 ?_
        refine V_lret rfl rfl rfl ?_ dX6_belief_179
        exact ⟨rfl, rfl, rfl⟩
      · have hl : ¬ lg_cmp (lN (allN tv W)) (lN 0) = 0 := fun z => h0 ((lg0 (by omega) (by decide)).mp z)
        refine V_iload rfl dX6_belief_30 ?_
        refine V_sipush (nI 256) (by decide) dX6_belief_32 ?_
        refine V_icmp_geN 169 dX6_belief_35 (by decide) (by omega) (by omega) (fun h35 => ?_) (fun h35 => absurd h35 (by omega))
        refine V_lload rfl dX6_belief_169 ?_
        refine V_lconst (lN 0) rfl dX6_belief_171 ?_
        refine V_lcmp dX6_belief_172 ?_
        refine V_if_ne 180 dX6_belief_173 (by decide) (fun h173 => ?_) (fun h173 => absurd h173 (by exact hl))
        refine V_lload_n rfl dX6_belief_180 ?_
        refine V_lst7 rfl rfl dX6_belief_181 ?_
        refine V_lload rfl dX6_belief_183 ?_
        refine V_lst9 rfl rfl dX6_belief_185 ?_
        exact hgcd f0 p0 hf0 hp0 ef ep h0 (allN tv W) (sosN tv W f0) (allN tv W) _ _ (Nat.le_refl _) (by omega) (by omega) (Nat.gcd_comm _ _)
    | succ d ih =>
      intro k z z2 z3 z4 z5 hd hkn
      have hwd := mWd k (by omega)
      have htb : k.testBit f0 = decide (k / 2 ^ f0 % 2 = 1) := Nat.testBit_eq_decide_div_mod_eq
      have hle : k / 2 ^ f0 ≤ k := Nat.div_le_self _ _
      have h8 := fun z z2 z3 z4 z5 => ih (k + 1) z z2 z3 z4 z5 (by omega) (by omega)
      rw [smN_succ, smN_succ] at h8
      have inner : ∀ (c : Nat), c * wtN tv W k (wM W).1 = wt k → ∀ (e m : Nat) (z4 z5 : Option Value), (wM W).1 - m = e → m ≤ (wM W).1 →
          V X (ZQ X (fun r0 s0 I0 => r0 = some (.long (fBelief tv W f p)) ∧ s0 = sg ∧ I0 = I)) sg I 58 [some (rf g 92), some (.int (nI f0)), some (.int (nI p0)), some (.long (lN (smN k (fun w => if w.testBit f0 then wt w else 0)))), none, some (.long (lN (smN k wt))), none, some (.int (nI k)), some (.long (lN (c * wtN tv W k m))), none, some (.int (nI m)), z4, z5] [] := by
        intro c hc e
        induction e with
        | zero =>
          intro m z4 z5 he hmn
          have em : m = (wM W).1 := by omega
          subst em
          rw [hc]
          refine V_iload rfl dX6_belief_58 ?_
          refine V_aload_n rfl dX6_belief_60 ?_
          refine gf_X6_33 (by assumption) (by assumption) rfl dX6_belief_61 ?_
          refine V_iconst (nI 2) (by decide) dX6_belief_64 ?_
          refine V_iald _ (by assumption) rfl (by omega) (by omega) dX6_belief_65 ?_
          refine V_topi (wM0) ?_
          refine V_icmp_geN 137 dX6_belief_66 (by decide) (by omega) (by omega) (fun h66 => ?_) (fun h66 => absurd h66 (by omega))
          refine V_lload rfl dX6_belief_137 ?_
          refine V_lload rfl dX6_belief_139 ?_
          refine V_ladd dX6_belief_141 ?_
          rw [lN_add]
          refine V_lst5 rfl rfl dX6_belief_142 ?_
          refine V_lload_n rfl dX6_belief_144 ?_
          refine V_iload rfl dX6_belief_145 ?_
          refine V_iload_n rfl dX6_belief_147 ?_
          refine V_ishrN ⟨by omega, by omega⟩ dX6_belief_148 ?_
          refine V_iconst (nI 1) (by decide) dX6_belief_149 ?_
          refine V_iand1N dX6_belief_150 ?_
          refine V_iconst (nI 1) (by decide) dX6_belief_151 ?_
          refine V_icmp_neN 160 dX6_belief_152 (by decide) (by omega) (by omega) (fun h152 => ?_) (fun h152 => ?_)
          · skip
            refine V_lconst (lN 0) rfl dX6_belief_160 ?_
            refine V_ladd dX6_belief_161 ?_
            rw [lN_add]
            refine V_lst3 rfl rfl dX6_belief_162 ?_
            refine V_iinc7_ _ (nI_inc _) rfl rfl dX6_belief_163 ?_
            refine V_goto 30 dX6_belief_166 (by decide) ?_
            first
            | (rw [if_neg (by rw [htb, decide_eq_false h152]; decide)] at h8; exact h8 _ _ _ _ _)
            | (rw [if_pos (by rw [htb, decide_eq_true h152])] at h8; exact h8 _ _ _ _ _)
          · skip
            refine V_lload rfl dX6_belief_155 ?_
            refine V_goto 161 dX6_belief_157 (by decide) ?_
            refine V_ladd dX6_belief_161 ?_
            rw [lN_add]
            refine V_lst3 rfl rfl dX6_belief_162 ?_
            refine V_iinc7_ _ (nI_inc _) rfl rfl dX6_belief_163 ?_
            refine V_goto 30 dX6_belief_166 (by decide) ?_
            first
            | (rw [if_neg (by rw [htb, decide_eq_false h152]; decide)] at h8; exact h8 _ _ _ _ _)
            | (rw [if_pos (by rw [htb, decide_eq_true h152])] at h8; exact h8 _ _ _ _ _)
        | succ e ihe =>
          intro m z4 z5 he hmn
          have hml : m < (wM W).1 := by omega
          obtain ⟨g1, g2, g3, g4⟩ := hmk.2.1 m hml
          have hl9 := (hok.2.2.2.2.1 _ g3).2
          have h9 := fun z4 z5 => ihe (m + 1) z4 z5 (by omega) (by omega)
          rw [wtN_succ, ← Nat.mul_assoc] at h9
          refine V_iload rfl dX6_belief_58 ?_
          refine V_aload_n rfl dX6_belief_60 ?_
          refine gf_X6_33 (by assumption) (by assumption) rfl dX6_belief_61 ?_
          refine V_iconst (nI 2) (by decide) dX6_belief_64 ?_
          refine V_iald _ (by assumption) rfl (by omega) (by omega) dX6_belief_65 ?_
          refine V_topi (wM0) ?_
          refine V_icmp_geN 137 dX6_belief_66 (by decide) (by omega) (by omega) (fun h66 => absurd h66 (by omega)) (fun h66 => ?_)
          refine V_aload_n rfl dX6_belief_69 ?_
          refine gf_X6_20 (by assumption) (by assumption) rfl dX6_belief_70 ?_
          refine V_iconst (nI 2) (by decide) dX6_belief_73 ?_
          refine V_aload_n rfl dX6_belief_74 ?_
          refine gf_X6_33 (by assumption) (by assumption) rfl dX6_belief_75 ?_
          refine V_bipush (nI 8) (by decide) dX6_belief_78 ?_
          refine V_iconst (nI 4) (by decide) dX6_belief_80 ?_
          refine V_iload rfl dX6_belief_81 ?_
          refine V_imulN dX6_belief_83 ?_
          refine V_iaddN dX6_belief_84 ?_
          refine V_iconst (nI 2) (by decide) dX6_belief_85 ?_
          refine V_iaddN dX6_belief_86 ?_
          refine V_iald _ (by assumption) rfl (by omega) (by omega) dX6_belief_87 ?_
          refine V_topi ((congrArg (I 100) (by omega)).trans (wC0 m hml 2 (by decide))) ?_
          refine V_imulN dX6_belief_88 ?_
          refine V_iconst (nI 1) (by decide) dX6_belief_89 ?_
          refine V_iaddN dX6_belief_90 ?_
          refine V_iald _ (by assumption) rfl (by omega) (by omega) dX6_belief_91 ?_
          refine V_topi (mP _ g3 1 (by decide)) ?_
          refine V_ist11 rfl rfl dX6_belief_92 ?_
          refine V_lload rfl dX6_belief_94 ?_
          refine V_aload_n rfl dX6_belief_96 ?_
          refine gf_X6_33 (by assumption) (by assumption) rfl dX6_belief_97 ?_
          refine V_bipush (nI 8) (by decide) dX6_belief_100 ?_
          refine V_iconst (nI 4) (by decide) dX6_belief_102 ?_
          refine V_iload rfl dX6_belief_103 ?_
          refine V_imulN dX6_belief_105 ?_
          refine V_iaddN dX6_belief_106 ?_
          refine V_iald _ (by assumption) rfl (by omega) (by omega) dX6_belief_107 ?_
          refine V_topi ((congrArg (I 100) (by omega)).trans (wC0 m hml 0 (by decide))) ?_
          refine V_iload rfl dX6_belief_108 ?_
          refine cf_X6_91 (D_isSo (by omega) (by omega)) rfl rfl ft0 (Nat.le_of_ble_eq_true rfl) dX6_belief_110 ?_
          refine V_if_eqB 125 dX6_belief_113 (by decide) (fun h113 => ?_) (fun h113 => ?_)
          · skip
            refine V_iload rfl dX6_belief_125 ?_
            refine V_i2l dX6_belief_127 ?_
            rw [nI_toL (by omega)]
            refine V_lmul dX6_belief_128 ?_
            rw [lN_mul]
            refine V_lst8 rfl rfl dX6_belief_129 ?_
            refine V_iinc10_ _ (nI_inc _) rfl rfl dX6_belief_131 ?_
            refine V_goto 58 dX6_belief_134 (by decide) ?_
            first
            | (rw [if_neg h113] at h9; exact h9 _ _)
            | (rw [if_pos h113] at h9; exact h9 _ _)
          · skip
            refine V_bipush (nI 10) (by decide) dX6_belief_116 ?_
            refine V_iload rfl dX6_belief_118 ?_
            refine V_isubN (by omega) dX6_belief_120 ?_
            refine V_i2l dX6_belief_121 ?_
            rw [nI_toL (by omega)]
            refine V_goto 128 dX6_belief_122 (by decide) ?_
            refine V_lmul dX6_belief_128 ?_
            rw [lN_mul]
            refine V_lst8 rfl rfl dX6_belief_129 ?_
            refine V_iinc10_ _ (nI_inc _) rfl rfl dX6_belief_131 ?_
            refine V_goto 58 dX6_belief_134 (by decide) ?_
            first
            | (rw [if_neg h113] at h9; exact h9 _ _)
            | (rw [if_pos h113] at h9; exact h9 _ _)
      have i1 := inner 1
      have i0 := inner 0
      rw [Nat.one_mul] at i1
      refine V_iload rfl dX6_belief_30 ?_
      refine V_sipush (nI 256) (by decide) dX6_belief_32 ?_
      refine V_icmp_geN 169 dX6_belief_35 (by decide) (by omega) (by omega) (fun h35 => absurd h35 (by omega)) (fun h35 => ?_)
      refine V_aload_n rfl dX6_belief_38 ?_
      refine gf_X6_29 (by assumption) (by assumption) rfl dX6_belief_39 ?_
      refine V_iload rfl dX6_belief_42 ?_
      refine V_zald _ (by assumption) rfl (by omega) (by omega) dX6_belief_44 ?_
      refine V_topi (hwd) ?_
      refine V_if_eqB 52 dX6_belief_45 (by decide) (fun h45 => ?_) (fun h45 => ?_)
      · skip
        refine V_lconst (lN 0) rfl dX6_belief_52 ?_
        refine V_lst8 rfl rfl dX6_belief_53 ?_
        refine V_iconst (nI 0) (by decide) dX6_belief_55 ?_
        refine V_ist10 rfl rfl dX6_belief_56 ?_
        first
        | (have e1 : wt k = wtN tv W k (wM W).1 := by rw [hwt]; exact if_pos h45
           exact i1 e1.symm (wM W).1 0 _ _ rfl (Nat.zero_le _))
        | (have e1 : wt k = 0 := by rw [hwt]; exact if_neg h45
           rw [e1, Nat.zero_mul] at i0
           exact i0 rfl (wM W).1 0 _ _ rfl (Nat.zero_le _))
      · skip
        refine V_lconst (lN 1) rfl dX6_belief_48 ?_
        refine V_goto 53 dX6_belief_49 (by decide) ?_
        refine V_lst8 rfl rfl dX6_belief_53 ?_
        refine V_iconst (nI 0) (by decide) dX6_belief_55 ?_
        refine V_ist10 rfl rfl dX6_belief_56 ?_
        first
        | (have e1 : wt k = wtN tv W k (wM W).1 := by rw [hwt]; exact if_pos h45
           exact i1 e1.symm (wM W).1 0 _ _ rfl (Nat.zero_le _))
        | (have e1 : wt k = 0 := by rw [hwt]; exact if_neg h45
           rw [e1, Nat.zero_mul] at i0
           exact i0 rfl (wM W).1 0 _ _ rfl (Nat.zero_le _))
  refine V_aload_n rfl dX6_belief_0 ?_
  refine V_iload_n rfl dX6_belief_1 ?_
  refine cf_X6_152 (D_isFact hK0 hT0 hok) (by assumption) rfl rfl ft0 (Nat.le_of_ble_eq_true rfl) dX6_belief_2 ?_
  refine V_if_eqB 18 dX6_belief_5 (by decide) (fun h5 => ?_) (fun h5 => ?_)
  · skip
    refine V_ldc2 RX6 _ rfl wk_X6_208 dX6_belief_18 ?_
    refine V_lret rfl rfl rfl ?_ dX6_belief_21
    refine ⟨?_, rfl, rfl⟩
    unfold fBelief
    first
    | rw [ifb_neg h5]
    | rw [ifb_pos hf0 (by omega) rfl, ifb_neg h15]
  · skip
    obtain ⟨f0, hf0, rfl⟩ := bel_ex (by omega) h5
    refine V_iload_n rfl dX6_belief_8 ?_
    refine V_i2l dX6_belief_9 ?_
    refine V_lconst (lN 0) rfl dX6_belief_10 ?_
    refine V_lconst (lN 1) rfl dX6_belief_11 ?_
    refine cf_X6_52 (C_in0k (k := 1) (by decide)) rfl rfl ft0 (Nat.le_of_ble_eq_true rfl) dX6_belief_12 ?_
    refine V_if_neB 22 dX6_belief_15 (by decide) (fun h15 => ?_) (fun h15 => ?_)
    · skip
      refine V_lconst (lN 0) rfl dX6_belief_22 ?_
      refine V_lst3 rfl rfl dX6_belief_23 ?_
      refine V_lconst (lN 0) rfl dX6_belief_24 ?_
      refine V_lst5 rfl rfl dX6_belief_25 ?_
      refine V_iconst (nI 0) (by decide) dX6_belief_27 ?_
      refine V_ist7 rfl rfl dX6_belief_28 ?_
      obtain ⟨p0, hp0, rfl⟩ := bel_ex (by decide) h15
      exact loop f0 p0 hf0 (by omega) rfl rfl 256 0 _ _ _ _ _ rfl (by omega)
    · skip
      refine V_ldc2 RX6 _ rfl wk_X6_208 dX6_belief_18 ?_
      refine V_lret rfl rfl rfl ?_ dX6_belief_21
      refine ⟨?_, rfl, rfl⟩
      unfold fBelief
      first
      | rw [ifb_neg h5]
      | rw [ifb_pos hf0 (by omega) rfl, ifb_neg h15]
end MBELIEF
