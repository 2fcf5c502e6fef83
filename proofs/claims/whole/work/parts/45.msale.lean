/-! CarvedWeeksModel: sale -/
def svB (tv : TV) (c k j : Nat) : Bool := decide (c < (tB tv).2 j 2) || (decide ((tB tv).2 j 2 = c) && decide (j < k))
theorem sv_more {tv : TV} {c k : Nat} (h : (tB tv).2 k 2 = c) (j : Nat) : svB tv c (k + 1) j = andB (svB tv c k) k j := by
  apply Bool.eq_iff_iff.mpr
  unfold svB andB
  simp only [Bool.or_eq_true, Bool.and_eq_true, decide_eq_true_eq]
  by_cases e : j = k
  · subst e; omega
  · omega
theorem sv_same {tv : TV} {c k : Nat} (h : ¬ (tB tv).2 k 2 = c) (j : Nat) : svB tv c (k + 1) j = svB tv c k j := by
  apply Bool.eq_iff_iff.mpr
  unfold svB
  simp only [Bool.or_eq_true, Bool.and_eq_true, decide_eq_true_eq]
  by_cases e : j = k
  · subst e; omega
  · omega
theorem sv_end {tv : TV} {c n j : Nat} (h : j < n) : svB tv c n j = decide (c ≤ (tB tv).2 j 2) := by
  apply Bool.eq_iff_iff.mpr
  unfold svB
  simp only [Bool.or_eq_true, Bool.and_eq_true, decide_eq_true_eq]
  omega
theorem sv_zero {tv : TV} {c j : Nat} : svB tv c 0 j = decide (c + 1 ≤ (tB tv).2 j 2) := by
  apply Bool.eq_iff_iff.mpr
  unfold svB
  simp only [Bool.or_eq_true, Bool.and_eq_true, decide_eq_true_eq]
  omega
theorem le_pred {b : Int32} {n : Nat} (hn : n < 2147483648) : b ≤ nI n - nI 1 ↔ b < nI n := by
  rcases Nat.eq_zero_or_pos n with h | h
  · subst h
    rw [show nI 0 - nI 1 = -1 by decide, Int32.le_iff_toInt_le, Int32.lt_iff_toInt_lt]
    have e0 : (nI 0).toInt = 0 := by decide
    have e1 : (-1 : Int32).toInt = -1 := by decide
    omega
  · rw [nI_subN (by omega)]
    rcases int_cases b with hneg | ⟨q, hq, rfl⟩
    · have h1 := neg_lt hneg n hn
      have h2 := neg_lt hneg (n - 1) (by omega)
      rw [Int32.not_le] at h1 h2
      exact ⟨fun _ => h1, fun _ => Int32.le_of_lt h2⟩
    · rw [nI_leI hq (by omega), nI_ltI hq hn]; omega
section MSALE
variable {g : GC} {sg : SG} {I : IM} {x : XV} {tv : TV} {W : WV} {P K : SV} {np : Nat}
theorem D_sale {n b : Int32} (hM : MSt sg I x tv W P K) (hS : STok x tv W P K) : Ct m_X6_sale g [rf g 92, .int n, .int b] sg I (fun r0 s0 J => r0 = some (.int (fSale tv n b)) ∧ s0 = sg ∧ ∀ q, q ≠ 102 → J q = I q) := by
  obtain ⟨hX0, hok, hnp, hns, ⟨hWok, hwk⟩, hPok, hKok⟩ := hS
  obtain ⟨hK, ⟨mlen, mtx⟩, hT, hW, mkept, mKs, mdone, mPs⟩ := hM
  have hK0 := hK
  have hT0 := hT
  have hW0 := hW
  obtain ⟨m0, mR1, mR3, mR4, mR5, mR6, mR7, mR8, mR10, mR16, mR17, mA93, mA94, mA95, mA96, mA97, mA98, mA99, mA100, mA101, mA102⟩ := hK
  obtain ⟨mF, mnL, mnP, mnS, mnB, mL, mP, mS, mB, mWd, mnw⟩ := hT
  have hF1 := hok.1
  have hF8 := hok.2.1
  have h256 := p2_le8 hF8
  have h16 := p2_le16 hF8
  have nL10 := hok.2.2.2.2.2.2.2.1
  have nP5 := hok.2.2.2.2.2.2.2.2.1
  have nS5 := hok.2.2.2.2.2.2.2.2.2.1
  have nB6 := hok.2.2.2.2.2.2.2.2.2.2
  have hmk := hWok.2.2.2.1
  have hn12 := hmk.1
  have htr := hWok.1
  have hnw := nw_le hF8
  have hnw0 := nw_pos hWok
  obtain ⟨wT0, wK0, wM0, wH0, wC0⟩ := id hW
  have hbo := hok.2.2.2.2.2.2.1
  refine Ct.of rfl (Nat.le_of_ble_eq_true rfl) fun X => ?_
  show V X _ sg I 0 [some (rf g 92), some (.int n), some (.int b), none, none, none, none, none] []
  obtain ⟨QQ, hQQ⟩ : ∃ QQ : Option Value → SG → IM → Prop, QQ = (fun r0 s0 J => r0 = some (.int (fSale tv n b)) ∧ s0 = sg ∧ ∀ q, q ≠ 102 → J q = I q) := ⟨_, rfl⟩
  rw [← hQQ]
  have main : ∀ m, 1 ≤ m → m ≤ 12 → n = nI m → -1 ≤ b → b < nI (tB tv).1 → ∀ (c' : Nat) (J : IM) (z6 z7 : Option Value), c' ≤ 100 → (∀ q, q ≠ 102 → J q = I q) → (∀ j, j < (tB tv).1 → c' ≤ (tB tv).2 j 2 → J 102 j = nI (gotN tv m j)) →
      V X (ZQ X QQ) sg J 43 [some (rf g 92), some (.int (nI m)), some (.int b), some (.int (nI (lefN tv m (fun j => decide (c' ≤ (tB tv).2 j 2))))), some (.int (nI (priN tv m (fun j => decide (c' ≤ (tB tv).2 j 2))))), some (.int (nI c' - nI 1)), z6, z7] [] := by
    intro m hm1 hm12 em hb1 hb2 c'
    have hcond : (nI 1 ≤ n ∧ n ≤ nI 12) ∧ (-1 ≤ b ∧ b < nI (tB tv).1) := by
      subst em
      exact ⟨⟨(nI_leI (by decide) (by omega)).mpr hm1, (nI_leI (by omega) (by decide)).mpr hm12⟩, hb1, hb2⟩
    have hff : fSale tv n b = if b = -1 then nI (priN tv m (fun _ => true)) else nI (gotN tv m (ix b)) := by
      unfold fSale; rw [if_pos hcond, em, ix_nI (by omega)]
    induction c' with
    | zero =>
      intro J z6 z7 hc hf hgs
      have et : (fun j => decide (0 ≤ (tB tv).2 j 2)) = (fun _ => true) := funext fun j => decide_eq_true (Nat.zero_le _)
      rw [et]
      rcases int_cases b with hneg | ⟨q, hq, rfl⟩
      · have e1 : b = -1 := by
          rw [Int32.lt_iff_toInt_lt] at hneg
          rw [Int32.le_iff_toInt_le] at hb1
          apply Int32.toInt_inj.mp
          have e0 : (0 : Int32).toInt = 0 := by decide
          have e1 : (-1 : Int32).toInt = -1 := by decide
          omega
        subst e1
        refine V_iload rfl dX6_sale_43 ?_
        refine V_if_lt 160 dX6_sale_45 (by decide) (fun h45 => ?_) (fun h45 => absurd h45 (by decide))
        refine V_iload_n rfl dX6_sale_160 ?_
        refine V_if_ge 169 dX6_sale_161 (by decide) (fun h161 => absurd h161 (by decide)) (fun h161 => ?_)
        refine V_iload rfl dX6_sale_164 ?_
        refine V_goto 175 dX6_sale_166 (by decide) ?_
        refine V_iret rfl rfl rfl ?_ dX6_sale_175
        rw [hQQ]
        exact ⟨by rw [hff, if_pos rfl], rfl, hf⟩
      · have hq2 : q < (tB tv).1 := (nI_ltI hq (by omega)).mp hb2
        have hne : ¬ nI q = -1 := fun z => by
          have h0 := nI_ge0 hq
          rw [z] at h0; revert h0; decide
        have hgq : J 102 q = nI (gotN tv m q) := hgs q hq2 (Nat.zero_le _)
        refine V_iload rfl dX6_sale_43 ?_
        refine V_if_lt 160 dX6_sale_45 (by decide) (fun h45 => ?_) (fun h45 => absurd h45 (by decide))
        refine V_iload_n rfl dX6_sale_160 ?_
        refine V_if_geN 169 dX6_sale_161 (by decide) (by omega) ?_
        refine V_aload_n rfl dX6_sale_169 ?_
        refine gf_X6_39 (by assumption) (by assumption) rfl dX6_sale_170 ?_
        refine V_iload_n rfl dX6_sale_173 ?_
        refine V_iald _ (by assumption) rfl (by omega) (by omega) dX6_sale_174 ?_
        refine V_topi (hgq) ?_
        refine V_iret rfl rfl rfl ?_ dX6_sale_175
        rw [hQQ]
        exact ⟨by rw [hff, if_neg hne, ix_nI (by omega)], rfl, hf⟩
    | succ c ih =>
      intro J z6 z7 hc hf hgs
      have inner : ∀ (d k : Nat) (J : IM) (z7 : Option Value), (tB tv).1 - k = d → k ≤ (tB tv).1 → (∀ q, q ≠ 102 → J q = I q) → (∀ j, j < (tB tv).1 → svB tv c k j = true → J 102 j = nI (gotN tv m j)) →
          V X (ZQ X QQ) sg J 51 [some (rf g 92), some (.int (nI m)), some (.int b), some (.int (nI (lefN tv m (svB tv c k)))), some (.int (nI (priN tv m (svB tv c k)))), some (.int (nI c)), some (.int (nI k)), z7] [] := by
        intro d
        induction d with
        | zero =>
          intro k J z7 hd hk hf hgs
          have e : k = (tB tv).1 := by omega
          subst e
          have hnB : J 94 4 = nI (tB tv).1 := by rw [hf 94 (by decide)]; exact mnB
          have e1 : lefN tv m (svB tv c (tB tv).1) = lefN tv m (fun j => decide (c ≤ (tB tv).2 j 2)) := lef_congr (fun j hj => sv_end hj)
          have e2 : priN tv m (svB tv c (tB tv).1) = priN tv m (fun j => decide (c ≤ (tB tv).2 j 2)) := pri_congr (fun j hj => sv_end hj)
          rw [e1, e2]
          refine V_iload rfl dX6_sale_51 ?_
          refine V_aload_n rfl dX6_sale_53 ?_
          refine gf_X6_13 (by assumption) (by assumption) rfl dX6_sale_54 ?_
          refine V_iconst (nI 4) (by decide) dX6_sale_57 ?_
          refine V_iald _ (by assumption) rfl (by omega) (by omega) dX6_sale_58 ?_
          refine V_topi (hnB) ?_
          refine V_icmp_geN 154 dX6_sale_59 (by decide) (by omega) (by omega) (fun h59 => ?_) (fun h59 => absurd h59 (by omega))
          refine V_iinc5_ _ (dec_sub _) rfl rfl dX6_sale_154 ?_
          refine V_goto 43 dX6_sale_157 (by decide) ?_
          exact ih J _ _ (by omega) hf (fun j hj h => hgs j hj (by rw [sv_end hj, decide_eq_true h]))
        | succ d ihd =>
          intro k J z7 hd hk hf hgs
          have hkl : k < (tB tv).1 := by omega
          have hnB : J 94 4 = nI (tB tv).1 := by rw [hf 94 (by decide)]; exact mnB
          have hB1 : J 98 (3 * k + 1) = nI ((tB tv).2 k 1) := by rw [hf 98 (by decide)]; exact mB k hkl 1 (by decide)
          have hB2 : J 98 (3 * k + 2) = nI ((tB tv).2 k 2) := by rw [hf 98 (by decide)]; exact mB k hkl 2 (by decide)
          obtain ⟨b1, b2, b3, b4⟩ := hbo k hkl
          have hll : lefN tv m (svB tv c k) ≤ 12 := by unfold lefN; omega
          have hpl : priN tv m (svB tv c k) ≤ 99 := mx_le (fun j hj => by
            have := hbo j hj
            split <;> omega)
          have h8 := fun J z7 hf hgs => ihd (k + 1) J z7 (by omega) (by omega) hf hgs
          by_cases hpc : (tB tv).2 k 2 = c
          · have hsk : svB tv c k k = false := by
              unfold svB
              rw [decide_eq_false (by omega), decide_eq_false (Nat.lt_irrefl k), Bool.and_false]; rfl
            have e1 : lefN tv m (svB tv c (k + 1)) = lefN tv m (svB tv c k) - min ((tB tv).2 k 1) (lefN tv m (svB tv c k)) := by
              rw [lef_congr (fun j _ => sv_more hpc j)]; exact lef_add hkl hsk
            have e2 : priN tv m (svB tv c (k + 1)) = max (priN tv m (svB tv c k)) (if gotN tv m k < (tB tv).2 k 1 then (tB tv).2 k 2 else 0) := by
              rw [pri_congr (fun j _ => sv_more hpc j)]; exact pri_add hkl hsk
            have hgt : gotN tv m k = min ((tB tv).2 k 1) (lefN tv m (svB tv c k)) := by
              unfold gotN
              rw [lef_congr (p := fun j => befB tv j k) (q := svB tv c k) (fun j _ => by unfold befB svB; rw [hpc])]
            rw [← hgt] at e1
            have hgl : gotN tv m k ≤ (tB tv).2 k 1 := by rw [hgt]; exact Nat.min_le_left _ _
            have hgl2 : gotN tv m k ≤ lefN tv m (svB tv c k) := by rw [hgt]; exact Nat.min_le_right _ _
            have hfin : ∀ v, v = gotN tv m k → V X (ZQ X QQ) sg J 109 [some (rf g 92), some (.int (nI m)), some (.int b), some (.int (nI (lefN tv m (svB tv c k)))), some (.int (nI (priN tv m (svB tv c k)))), some (.int (nI c)), some (.int (nI k)), some (.int (nI ((tB tv).2 k 1)))] [.int (nI v), .int (nI k), rf g 102] := by
              intro v hv
              subst hv
              have hg1 : (upI J 102 k (nI (gotN tv m k))) 102 k = nI (gotN tv m k) := upI_eq
              have h9 := h8 (upI J 102 k (nI (gotN tv m k))) (some (.int (nI ((tB tv).2 k 1)))) (fun q hq => (funext fun j => upI_ne (Or.inl hq)).trans (hf q hq)) (fun j hj hs => by
                by_cases e : j = k
                · rw [e]; exact hg1
                · rw [upI_ne (Or.inr e)]
                  refine hgs j hj ?_
                  rw [sv_more hpc] at hs
                  unfold andB at hs
                  rw [decide_eq_false e, Bool.or_false] at hs; exact hs)
              rw [e1, e2] at h9
              refine V_iast _ (by assumption) rfl (by omega) (by omega) dX6_sale_109 ?_
              refine V_iload_n rfl dX6_sale_110 ?_
              refine V_aload_n rfl dX6_sale_111 ?_
              refine gf_X6_39 (by assumption) (by assumption) rfl dX6_sale_112 ?_
              refine V_iload rfl dX6_sale_115 ?_
              refine V_iald _ (by assumption) rfl (by omega) (by omega) dX6_sale_117 ?_
              refine V_topi (hg1) ?_
              refine V_isubN (by omega) dX6_sale_118 ?_
              refine V_ist3 rfl rfl dX6_sale_119 ?_
              refine V_aload_n rfl dX6_sale_120 ?_
              refine gf_X6_39 (by assumption) (by assumption) rfl dX6_sale_121 ?_
              refine V_iload rfl dX6_sale_124 ?_
              refine V_iald _ (by assumption) rfl (by omega) (by omega) dX6_sale_126 ?_
              refine V_topi (hg1) ?_
              refine V_iload rfl dX6_sale_127 ?_
              refine V_icmp_geN 144 dX6_sale_129 (by decide) (by omega) (by omega) (fun h129 => ?_) (fun h129 => ?_)
              · skip
                refine V_iload rfl dX6_sale_144 ?_
                refine V_ist4 rfl rfl dX6_sale_146 ?_
                refine V_iinc6_ _ (nI_inc _) rfl rfl dX6_sale_148 ?_
                refine V_goto 51 dX6_sale_151 (by decide) ?_
                first
                | (rw [if_neg (by omega), Nat.max_eq_left (Nat.zero_le _)] at h9; exact h9)
                | (rw [if_pos (by omega), Nat.max_eq_right (by omega), hpc] at h9; exact h9)
                | (rw [if_pos (by omega), Nat.max_eq_left (by omega)] at h9; exact h9)
              · skip
                refine V_iload rfl dX6_sale_132 ?_
                refine V_iload rfl dX6_sale_134 ?_
                refine V_icmp_leN 144 dX6_sale_136 (by decide) (by omega) (by omega) (fun h136 => ?_) (fun h136 => ?_)
                · skip
                  refine V_iload rfl dX6_sale_144 ?_
                  refine V_ist4 rfl rfl dX6_sale_146 ?_
                  refine V_iinc6_ _ (nI_inc _) rfl rfl dX6_sale_148 ?_
                  refine V_goto 51 dX6_sale_151 (by decide) ?_
                  first
                  | (rw [if_neg (by omega), Nat.max_eq_left (Nat.zero_le _)] at h9; exact h9)
                  | (rw [if_pos (by omega), Nat.max_eq_right (by omega), hpc] at h9; exact h9)
                  | (rw [if_pos (by omega), Nat.max_eq_left (by omega)] at h9; exact h9)
                · skip
                  refine V_iload rfl dX6_sale_139 ?_
                  refine V_goto 146 dX6_sale_141 (by decide) ?_
                  refine V_ist4 rfl rfl dX6_sale_146 ?_
                  refine V_iinc6_ _ (nI_inc _) rfl rfl dX6_sale_148 ?_
                  refine V_goto 51 dX6_sale_151 (by decide) ?_
                  first
                  | (rw [if_neg (by omega), Nat.max_eq_left (Nat.zero_le _)] at h9; exact h9)
                  | (rw [if_pos (by omega), Nat.max_eq_right (by omega), hpc] at h9; exact h9)
                  | (rw [if_pos (by omega), Nat.max_eq_left (by omega)] at h9; exact h9)
            refine V_iload rfl dX6_sale_51 ?_
            refine V_aload_n rfl dX6_sale_53 ?_
            refine gf_X6_13 (by assumption) (by assumption) rfl dX6_sale_54 ?_
            refine V_iconst (nI 4) (by decide) dX6_sale_57 ?_
            refine V_iald _ (by assumption) rfl (by omega) (by omega) dX6_sale_58 ?_
            refine V_topi (hnB) ?_
            refine V_icmp_geN 154 dX6_sale_59 (by decide) (by omega) (by omega) (fun h59 => absurd h59 (by omega)) (fun h59 => ?_)
            refine V_aload_n rfl dX6_sale_62 ?_
            refine gf_X6_26 (by assumption) (by assumption) rfl dX6_sale_63 ?_
            refine V_iconst (nI 3) (by decide) dX6_sale_66 ?_
            refine V_iload rfl dX6_sale_67 ?_
            refine V_imulN dX6_sale_69 ?_
            refine V_iconst (nI 2) (by decide) dX6_sale_70 ?_
            refine V_iaddN dX6_sale_71 ?_
            refine V_iald _ (by assumption) rfl (by omega) (by omega) dX6_sale_72 ?_
            refine V_topi (hB2) ?_
            refine V_iload rfl dX6_sale_73 ?_
            refine V_icmp_neN 148 dX6_sale_75 (by decide) (by omega) (by omega) (fun h75 => absurd h75 (by omega)) (fun h75 => ?_)
            refine V_aload_n rfl dX6_sale_78 ?_
            refine gf_X6_26 (by assumption) (by assumption) rfl dX6_sale_79 ?_
            refine V_iconst (nI 3) (by decide) dX6_sale_82 ?_
            refine V_iload rfl dX6_sale_83 ?_
            refine V_imulN dX6_sale_85 ?_
            refine V_iconst (nI 1) (by decide) dX6_sale_86 ?_
            refine V_iaddN dX6_sale_87 ?_
            refine V_iald _ (by assumption) rfl (by omega) (by omega) dX6_sale_88 ?_
            refine V_topi (hB1) ?_
            refine V_ist7 rfl rfl dX6_sale_89 ?_
            refine V_aload_n rfl dX6_sale_91 ?_
            refine gf_X6_39 (by assumption) (by assumption) rfl dX6_sale_92 ?_
            refine V_iload rfl dX6_sale_95 ?_
            refine V_iload rfl dX6_sale_97 ?_
            refine V_iload_n rfl dX6_sale_99 ?_
            refine V_icmp_geN 108 dX6_sale_100 (by decide) (by omega) (by omega) (fun h100 => ?_) (fun h100 => ?_)
            · skip
              refine V_iload_n rfl dX6_sale_108 ?_
              first
              | exact hfin _ (by rw [hgt]; omega)
            · skip
              refine V_iload rfl dX6_sale_103 ?_
              refine V_goto 109 dX6_sale_105 (by decide) ?_
              first
              | exact hfin _ (by rw [hgt]; omega)
          · have e1 : lefN tv m (svB tv c (k + 1)) = lefN tv m (svB tv c k) := lef_congr (fun j _ => sv_same hpc j)
            have e2 : priN tv m (svB tv c (k + 1)) = priN tv m (svB tv c k) := pri_congr (fun j _ => sv_same hpc j)
            rw [e1, e2] at h8
            refine V_iload rfl dX6_sale_51 ?_
            refine V_aload_n rfl dX6_sale_53 ?_
            refine gf_X6_13 (by assumption) (by assumption) rfl dX6_sale_54 ?_
            refine V_iconst (nI 4) (by decide) dX6_sale_57 ?_
            refine V_iald _ (by assumption) rfl (by omega) (by omega) dX6_sale_58 ?_
            refine V_topi (hnB) ?_
            refine V_icmp_geN 154 dX6_sale_59 (by decide) (by omega) (by omega) (fun h59 => absurd h59 (by omega)) (fun h59 => ?_)
            refine V_aload_n rfl dX6_sale_62 ?_
            refine gf_X6_26 (by assumption) (by assumption) rfl dX6_sale_63 ?_
            refine V_iconst (nI 3) (by decide) dX6_sale_66 ?_
            refine V_iload rfl dX6_sale_67 ?_
            refine V_imulN dX6_sale_69 ?_
            refine V_iconst (nI 2) (by decide) dX6_sale_70 ?_
            refine V_iaddN dX6_sale_71 ?_
            refine V_iald _ (by assumption) rfl (by omega) (by omega) dX6_sale_72 ?_
            refine V_topi (hB2) ?_
            refine V_iload rfl dX6_sale_73 ?_
            refine V_icmp_neN 148 dX6_sale_75 (by decide) (by omega) (by omega) (fun h75 => ?_) (fun h75 => absurd h75 (by omega))
            refine V_iinc6_ _ (nI_inc _) rfl rfl dX6_sale_148 ?_
            refine V_goto 51 dX6_sale_151 (by decide) ?_
            exact h8 J _ hf (fun j hj hs => hgs j hj (by rw [sv_same hpc] at hs; exact hs))
      have e1 : lefN tv m (fun j => decide (c + 1 ≤ (tB tv).2 j 2)) = lefN tv m (svB tv c 0) := lef_congr (fun j _ => sv_zero.symm)
      have e2 : priN tv m (fun j => decide (c + 1 ≤ (tB tv).2 j 2)) = priN tv m (svB tv c 0) := pri_congr (fun j _ => sv_zero.symm)
      rw [e1, e2]
      refine V_iload rfl dX6_sale_43 ?_
      rw [nI_pred1 c]
      refine V_if_ltN 160 dX6_sale_45 (by decide) (by omega) ?_
      refine V_iconst (nI 0) (by decide) dX6_sale_48 ?_
      refine V_ist6 rfl rfl dX6_sale_49 ?_
      exact inner (tB tv).1 0 J _ rfl (Nat.zero_le _) hf (fun j hj hs => hgs j hj (by rw [sv_zero, decide_eq_true_eq] at hs; exact hs))
  have hl0 : lefN tv (ix n) (fun j => decide (100 ≤ (tB tv).2 j 2)) = ix n := by
    unfold lefN
    rw [sm_congr (e := fun _ => 0) (fun j hj => by
      have := hbo j hj
      have e : decide (100 ≤ (tB tv).2 j 2) = false := decide_eq_false (by omega)
      show (if decide (100 ≤ (tB tv).2 j 2) = true then _ else _) = _
      rw [e]; rfl)]
    have : ∀ n, smN n (fun _ => 0) = 0 := fun n => by
      induction n with
      | zero => rfl
      | succ n ih => rw [smN_succ', ih]
    rw [this]; rfl
  have hp0 : priN tv (ix n) (fun j => decide (100 ≤ (tB tv).2 j 2)) = 0 := by
    unfold priN
    rw [mx_congr (e := fun _ => 0) (fun j hj => by
      have := hbo j hj
      have e : decide (100 ≤ (tB tv).2 j 2) = false := decide_eq_false (by omega)
      show (if (decide (100 ≤ (tB tv).2 j 2) && _) = true then _ else _) = _
      rw [e, Bool.false_and]; rfl)]
    have : ∀ n, mxN n (fun _ => 0) = 0 := fun n => by
      induction n with
      | zero => rfl
      | succ n ih => show max (mxN n (fun _ => 0)) 0 = 0; rw [ih]; rfl
    exact this _
  refine V_iload_n rfl dX6_sale_0 ?_
  refine V_i2l dX6_sale_1 ?_
  refine V_lconst (lN 1) rfl dX6_sale_2 ?_
  refine V_ldc2 RX6 _ rfl wk_X6_230 dX6_sale_3 ?_
  rw [show (12 : Int64) = lN 12 from by decide]
  refine cf_X6_52 (C_inNN (by decide) (by decide)) rfl rfl ft0 (Nat.le_of_ble_eq_true rfl) dX6_sale_6 ?_
  refine V_if_eqB 32 dX6_sale_9 (by decide) (fun h9 => ?_) (fun h9 => ?_)
  · skip
    refine V_iconst (-1) (by decide) dX6_sale_32 ?_
    refine V_iret rfl rfl rfl ?_ dX6_sale_33
    rw [hQQ]
    refine ⟨?_, rfl, fun _ _ => rfl⟩
    unfold fSale
    rw [if_neg]
    intro z
    first
    | exact h9 z.1
    | exact h29 ⟨z.2.1, (le_pred (by omega)).mpr z.2.2⟩
  · skip
    refine V_iload_n rfl dX6_sale_12 ?_
    refine V_i2l dX6_sale_13 ?_
    refine V_ldc2 RX6 _ rfl wk_X6_208 dX6_sale_14 ?_
    refine V_aload_n rfl dX6_sale_17 ?_
    refine gf_X6_13 (by assumption) (by assumption) rfl dX6_sale_18 ?_
    refine V_iconst (nI 4) (by decide) dX6_sale_21 ?_
    refine V_iald _ (by assumption) rfl (by omega) (by omega) dX6_sale_22 ?_
    refine V_topi (mnB) ?_
    refine V_iconst (nI 1) (by decide) dX6_sale_23 ?_
    refine V_isub dX6_sale_24 ?_
    refine V_i2l dX6_sale_25 ?_
    rw [show (-1 : Int64) = (-1 : Int32).toInt64 from by decide]
    refine cf_X6_52 (C_in) rfl rfl ft0 (Nat.le_of_ble_eq_true rfl) dX6_sale_26 ?_
    refine V_if_neB 34 dX6_sale_29 (by decide) (fun h29 => ?_) (fun h29 => ?_)
    · skip
      refine V_iload_n rfl dX6_sale_34 ?_
      refine V_ist3 rfl rfl dX6_sale_35 ?_
      refine V_iconst (nI 0) (by decide) dX6_sale_36 ?_
      refine V_ist4 rfl rfl dX6_sale_37 ?_
      refine V_bipush (nI 99) (by decide) dX6_sale_39 ?_
      refine V_ist5 rfl rfl dX6_sale_41 ?_
      have hl1 : ¬ n < 0 := fun z => absurd (Int32.lt_of_lt_of_le z (show (0 : Int32) ≤ nI 1 by decide)) (by rw [Int32.not_lt]; exact h9.1)
      obtain ⟨m, hm, rfl⟩ := nn_ex hl1
      rw [ix_nI hm] at hl0 hp0
      have h10 := main m ((nI_leI (by decide) hm).mp h9.1) ((nI_leI hm (by decide)).mp h9.2) rfl h29.1 ((le_pred (by omega)).mp h29.2) 100 I none none (Nat.le_refl _) (fun _ _ => rfl) (fun j hj h => by have := hbo j hj; omega)
      rw [hl0, hp0, show nI 100 - nI 1 = nI 99 by decide] at h10
      exact h10
    · skip
      refine V_iconst (-1) (by decide) dX6_sale_32 ?_
      refine V_iret rfl rfl rfl ?_ dX6_sale_33
      rw [hQQ]
      refine ⟨?_, rfl, fun _ _ => rfl⟩
      unfold fSale
      rw [if_neg]
      intro z
      first
      | exact h9 z.1
      | exact h29 ⟨z.2.1, (le_pred (by omega)).mpr z.2.2⟩
end MSALE
