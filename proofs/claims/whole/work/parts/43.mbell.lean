/-! CarvedWeeksModel: the bell, carve, chisel -/
theorem worn_iff {tv : TV} {s hd : Nat} : wornB tv s hd = true ↔ ((tS tv).2 s 2 = 1 ∧ (tS tv).2 s 1 ≤ hd) ∨ ((tS tv).2 s 2 = 2 ∧ 2 ≤ hd) := by
  unfold wornB; simp
theorem MTn.sl {I J : IM} {s : Nat} {tv : TV} (h : MTn I tv) (e : slF I J s) : MTn J tv := by
  unfold MTn at h ⊢
  rw [e.2 94 (by decide), e.2 95 (by decide), e.2 96 (by decide), e.2 97 (by decide), e.2 98 (by decide), e.2 99 (by decide), e.2 92 (by decide)]
  exact h
theorem MSt.slot0 {sg : SG} {I J : IM} {x : XV} {tv : TV} {W W' : WV} {P K : SV} (h : MSt sg I x tv W P K) (hP : ∀ i, i < P.1 → (wM (P.2 i)).1 ≤ 12) (hK : ∀ i, i < K.1 → (wM (K.2 i)).1 ≤ 12) (n5 : (tP tv).1 ≤ 5) (e : slF I J 0) (s0 : SlW J 0 W' (tP tv).1) : MSt sg J x tv W' P K := by
  obtain ⟨-, -, -, -, k1, k2, p1, p2⟩ := id h
  exact h.slots (fun q a _ => e.2 q a) (by rw [e.2 92 (by decide)]) (by rw [e.2 92 (by decide)]) s0 (by rw [e.2 92 (by decide)]; exact k1) (fun i hi => (k2 i hi).same (hK i hi) n5 (fun k hk => e.1 _ (by omega))) (by rw [e.2 92 (by decide)]; exact p1) (fun i hi => (p2 i hi).same (hP i hi) n5 (fun k hk => e.1 _ (by omega)))
section MBELL
variable {g : GC} {sg : SG} {I : IM} {x : XV} {tv : TV} {W : WV} {P K : SV} {np : Nat}
theorem SlW.hd {s m v : Nat} (h : SlW I s W np) (hm : m < (wM W).1) (h5 : np ≤ 5) : SlW (upI I 100 (56 * s + 8 + 4 * m + 3) (nI v)) s (wT W, wK W, setTB (wM W) m 3 v, wH W) np := by
  obtain ⟨h1, h2, h3, h4, h6⟩ := h
  refine ⟨(upI_ne (Or.inr (by omega))).trans h1, (upI_ne (Or.inr (by omega))).trans h2, (upI_ne (Or.inr (by omega))).trans h3, fun i hi => (upI_ne (Or.inr (by omega))).trans (h4 i hi), fun k hk c hc => ?_⟩
  have hk2 : k < (wM W).1 := hk
  show _ = nI (if k = m ∧ c = 3 then v else (wM W).2 k c)
  by_cases e : k = m ∧ c = 3
  · rw [if_pos e, e.1, e.2]; exact upI_eq
  · rw [if_neg e, upI_ne (Or.inr (by omega))]; exact h6 k hk2 c hc
theorem D_rings {s : Nat} (hK : MK sg) (hT : MTn I tv) (hok : TVok tv) (hW : SlW I s W (tP tv).1) (hs12 : s < 12) (hm : MKok tv (wM W) (wK W)) (hk5 : wK W + 1 < 100000) : Ct m_X6_rings g [rf g 92, .int (nI s)] sg I (fun r0 s0 J => r0 = none ∧ s0 = sg ∧ SlW J s (ringV tv W) (tP tv).1 ∧ slF I J s) := by
  have hK0 := hK
  have hT0 := hT
  have hW0 := hW
  obtain ⟨m0, mR1, mR3, mR4, mR5, mR6, mR7, mR8, mR10, mR16, mR17, mA93, mA94, mA95, mA96, mA97, mA98, mA99, mA100, mA101, mA102⟩ := hK
  obtain ⟨mF, mnL, mnP, mnS, mnB, mL, mP, mS, mB, mWd, mnw⟩ := hT
  have hF1 := hok.1
  have hF8 := hok.2.1
  have h256 := p2_le8 hF8
  have h16 := p2_le16 hF8
  have nL10 := hok.2.2.2.2.2.2.2.1
  have nP5 := hok.2.2.2.2.2.2.2.2.1
  have nS5 := hok.2.2.2.2.2.2.2.2.2.1
  have nB6 := hok.2.2.2.2.2.2.2.2.2.2
  obtain ⟨wT0, wK0, wM0, wH0, wC0⟩ := hW
  have hn := hm.1
  refine Ct.of rfl (Nat.le_of_ble_eq_true rfl) fun X => ?_
  show V X _ sg I 0 [some (rf g 92), some (.int (nI s)), none, none, none, none, none] []
  obtain ⟨QQ, hQQ⟩ : ∃ QQ : Option Value → SG → IM → Prop, QQ = (fun r0 s0 J => r0 = none ∧ s0 = sg ∧ SlW J s (ringV tv W) (tP tv).1 ∧ slF I J s) := ⟨_, rfl⟩
  rw [← hQQ]
  have loop : ∀ (k : Nat) (J : IM) (tb : TB) (z3 z4 z5 z6 : Option Value), SlW J s (wT W, wK W + 1, tb, fun i => (tP tv).2 i 0) (tP tv).1 → slF I J s → rgN tv k tb = rgN tv (wM W).1 (wM W) → k ≤ tb.1 → MKok tv tb (wK W + 1) → (∀ j, j < k → tb.2 j 3 + 1 ≤ wK W + 1) →
      V X (ZQ X QQ) sg J 34 [some (rf g 92), some (.int (nI s)), some (.int (nI k - nI 1)), z3, z4, z5, z6] [] := by
    intro k
    induction k with
    | zero =>
      intro J tb z3 z4 z5 z6 hJ hout hrg hkn hmk hh
      refine V_iload_n rfl dX6_rings_34 ?_
      refine V_if_lt 155 dX6_rings_35 (by decide) (fun h35 => ?_) (fun h35 => absurd h35 (by decide))
      refine V_vret rfl rfl rfl ?_ dX6_rings_155
      rw [hQQ]
      have e : ringV tv W = (wT W, wK W + 1, tb, fun i => (tP tv).2 i 0) := by unfold ringV; rw [← hrg]; rfl
      rw [e]
      exact ⟨rfl, rfl, hJ, hout⟩
    | succ m ih =>
      intro J tb z3 z4 z5 z6 hJ hout hrg hkn hmk hh
      have hml : m < tb.1 := by omega
      have n12 := hmk.1
      have em : J 100 (56 * s + 8 + 4 * m + 3) = nI (tb.2 m 3) := hJ.2.2.2.2 m hml 3 (by decide)
      have hst := (hmk.2.1 m hml).2.1
      have h3 := (hmk.2.1 m hml).2.2.2
      have hJ1w : SlW (upI J 100 (56 * s + 8 + 4 * m + 3) (nI (tb.2 m 3 + 1))) s (wT W, wK W + 1, setTB tb m 3 (tb.2 m 3 + 1), fun i => (tP tv).2 i 0) (tP tv).1 := hJ.hd hml nP5
      have hf1 : slF I (upI J 100 (56 * s + 8 + 4 * m + 3) (nI (tb.2 m 3 + 1))) s := hout.trans (slF.up (by omega) (by omega))
      have es : (upI J 100 (56 * s + 8 + 4 * m + 3) (nI (tb.2 m 3 + 1))) 100 (56 * s + 8 + 4 * m + 1) = nI (tb.2 m 1) := (upI_ne (Or.inr (by omega))).trans (hJ.2.2.2.2 m hml 1 (by decide))
      have e3 : (upI J 100 (56 * s + 8 + 4 * m + 3) (nI (tb.2 m 3 + 1))) 100 (56 * s + 8 + 4 * m + 3) = nI (tb.2 m 3 + 1) := upI_eq
      obtain ⟨J1, hJ1⟩ : ∃ J1, J1 = upI J 100 (56 * s + 8 + 4 * m + 3) (nI (tb.2 m 3 + 1)) := ⟨_, rfl⟩
      rw [← hJ1] at hJ1w hf1 es e3
      obtain ⟨s1', s2', s3', s4'⟩ := hmk.step (m := m) hml (hh m (by omega))
      have k1 : J1 97 (3 * tb.2 m 1 + 1) = nI ((tS tv).2 (tb.2 m 1) 1) := by rw [hf1.2 97 (by decide)]; exact mS _ hst 1 (by decide)
      have k2 : J1 97 (3 * tb.2 m 1 + 2) = nI ((tS tv).2 (tb.2 m 1) 2) := by rw [hf1.2 97 (by decide)]; exact mS _ hst 2 (by decide)
      obtain ⟨-, -, -, hh9, hk3⟩ := hok.2.2.2.2.2.1 _ hst
      have hwn := worn_iff (tv := tv) (s := tb.2 m 1) (hd := tb.2 m 3 + 1)
      have hrg2 : rgN tv m (rgS tv tb m) = rgN tv (wM W).1 (wM W) := hrg
      have hfin1 : wornB tv (tb.2 m 1) (tb.2 m 3 + 1) = true → V X (ZQ X QQ) sg J1 136 [some (rf g 92), some (.int (nI s)), some (.int (nI m)), some (.int (nI (56 * s + 8 + 4 * m))), some (.int (nI (tb.2 m 1))), some (.int (nI ((tS tv).2 (tb.2 m 1) 2))), z6] [.int (nI 1)] := by
        intro hw
        have e9 : rgS tv tb m = rmTB (setTB tb m 3 (tb.2 m 3 + 1)) m := if_pos hw
        rw [e9] at s1' s2' s3' s4' hrg2
        refine V_ist6 rfl rfl dX6_rings_136 ?_
        refine V_iload rfl dX6_rings_138 ?_
        refine V_if_eqN 149 dX6_rings_140 (by decide) (by omega) (fun h140 => absurd h140 (by decide)) (fun h140 => ?_)
        refine V_aload_n rfl dX6_rings_143 ?_
        refine V_iload_n rfl dX6_rings_144 ?_
        refine V_iload_n rfl dX6_rings_145 ?_
        refine cl_X6_165 (D_goes hK0 hJ1w hs12 n12 hml nP5) (by assumption) rfl rfl ft0 (Nat.le_of_ble_eq_true rfl) dX6_rings_146 (fun rr s9 J2 hq => ?_)
        obtain ⟨rfl, hs, q1, q2⟩ := hq
        have hs := hs.symm
        subst hs
        show V X _ sg J2 149 _ []
        refine V_iinc2_ _ (dec_sub _) rfl rfl dX6_rings_149 ?_
        refine V_goto 34 dX6_rings_152 (by decide) ?_
        exact ih J2 _ _ _ _ _ q1 (hf1.trans q2) hrg2 s3' s1' (fun j hj => by rw [s4' j hj]; exact hh j (by omega))
      have hfin0 : ¬ wornB tv (tb.2 m 1) (tb.2 m 3 + 1) = true → V X (ZQ X QQ) sg J1 136 [some (rf g 92), some (.int (nI s)), some (.int (nI m)), some (.int (nI (56 * s + 8 + 4 * m))), some (.int (nI (tb.2 m 1))), some (.int (nI ((tS tv).2 (tb.2 m 1) 2))), z6] [.int (nI 0)] := by
        intro hw
        have e9 : rgS tv tb m = setTB tb m 3 (tb.2 m 3 + 1) := if_neg hw
        rw [e9] at s1' s2' s3' s4' hrg2
        refine V_ist6 rfl rfl dX6_rings_136 ?_
        refine V_iload rfl dX6_rings_138 ?_
        refine V_if_eqN 149 dX6_rings_140 (by decide) (by omega) (fun h140 => ?_) (fun h140 => absurd h140 (by decide))
        refine V_iinc2_ _ (dec_sub _) rfl rfl dX6_rings_149 ?_
        refine V_goto 34 dX6_rings_152 (by decide) ?_
        exact ih J1 _ _ _ _ _ hJ1w hf1 hrg2 s3' s1' (fun j hj => by rw [s4' j hj]; exact hh j (by omega))
      refine V_iload_n rfl dX6_rings_34 ?_
      rw [nI_pred1 m]
      refine V_if_ltN 155 dX6_rings_35 (by decide) (by omega) ?_
      refine V_bipush (nI 56) (by decide) dX6_rings_38 ?_
      refine V_iload_n rfl dX6_rings_40 ?_
      refine V_imulN dX6_rings_41 ?_
      refine V_bipush (nI 8) (by decide) dX6_rings_42 ?_
      refine V_iaddN dX6_rings_44 ?_
      refine V_iconst (nI 4) (by decide) dX6_rings_45 ?_
      refine V_iload_n rfl dX6_rings_46 ?_
      refine V_imulN dX6_rings_47 ?_
      refine V_iaddN dX6_rings_48 ?_
      refine V_ist3 rfl rfl dX6_rings_49 ?_
      refine V_aload_n rfl dX6_rings_50 ?_
      refine gf_X6_33 (by assumption) (by assumption) rfl dX6_rings_51 ?_
      refine V_iload_n rfl dX6_rings_54 ?_
      refine V_iconst (nI 3) (by decide) dX6_rings_55 ?_
      refine V_iaddN dX6_rings_56 ?_
      refine V_dup2 rfl rfl dX6_rings_57 ?_
      refine V_iald _ (by assumption) rfl (by omega) (by omega) dX6_rings_58 ?_
      refine V_topi (em) ?_
      refine V_iconst (nI 1) (by decide) dX6_rings_59 ?_
      refine V_iaddN dX6_rings_60 ?_
      refine V_iast _ (by assumption) rfl (by omega) (by omega) dX6_rings_61 ?_
      rw [← hJ1]
      refine V_aload_n rfl dX6_rings_62 ?_
      refine gf_X6_33 (by assumption) (by assumption) rfl dX6_rings_63 ?_
      refine V_iload_n rfl dX6_rings_66 ?_
      refine V_iconst (nI 1) (by decide) dX6_rings_67 ?_
      refine V_iaddN dX6_rings_68 ?_
      refine V_iald _ (by assumption) rfl (by omega) (by omega) dX6_rings_69 ?_
      refine V_topi (es) ?_
      refine V_ist4 rfl rfl dX6_rings_70 ?_
      refine V_aload_n rfl dX6_rings_72 ?_
      refine gf_X6_23 (by assumption) (by assumption) rfl dX6_rings_73 ?_
      refine V_iconst (nI 3) (by decide) dX6_rings_76 ?_
      refine V_iload rfl dX6_rings_77 ?_
      refine V_imulN dX6_rings_79 ?_
      refine V_iconst (nI 2) (by decide) dX6_rings_80 ?_
      refine V_iaddN dX6_rings_81 ?_
      refine V_iald _ (by assumption) rfl (by omega) (by omega) dX6_rings_82 ?_
      refine V_topi (k2) ?_
      refine V_ist5 rfl rfl dX6_rings_83 ?_
      refine V_iload rfl dX6_rings_85 ?_
      refine V_iconst (nI 1) (by decide) dX6_rings_87 ?_
      refine V_icmp_neN 113 dX6_rings_88 (by decide) (by omega) (by omega) (fun h88 => ?_) (fun h88 => ?_)
      · skip
        refine V_iload rfl dX6_rings_113 ?_
        refine V_iconst (nI 2) (by decide) dX6_rings_115 ?_
        refine V_icmp_neN 135 dX6_rings_116 (by decide) (by omega) (by omega) (fun h116 => ?_) (fun h116 => ?_)
        · skip
          refine V_iconst (nI 0) (by decide) dX6_rings_135 ?_
          first
          | exact hfin1 (hwn.mpr (by omega))
          | exact hfin0 (fun z => by have := hwn.mp z; omega)
        · skip
          refine V_aload_n rfl dX6_rings_119 ?_
          refine gf_X6_33 (by assumption) (by assumption) rfl dX6_rings_120 ?_
          refine V_iload_n rfl dX6_rings_123 ?_
          refine V_iconst (nI 3) (by decide) dX6_rings_124 ?_
          refine V_iaddN dX6_rings_125 ?_
          refine V_iald _ (by assumption) rfl (by omega) (by omega) dX6_rings_126 ?_
          refine V_topi (e3) ?_
          refine V_iconst (nI 2) (by decide) dX6_rings_127 ?_
          refine V_icmp_ltN 135 dX6_rings_128 (by decide) (by omega) (by omega) (fun h128 => ?_) (fun h128 => ?_)
          · skip
            refine V_iconst (nI 0) (by decide) dX6_rings_135 ?_
            first
            | exact hfin1 (hwn.mpr (by omega))
            | exact hfin0 (fun z => by have := hwn.mp z; omega)
          · skip
            refine V_iconst (nI 1) (by decide) dX6_rings_131 ?_
            refine V_goto 136 dX6_rings_132 (by decide) ?_
            first
            | exact hfin1 (hwn.mpr (by omega))
            | exact hfin0 (fun z => by have := hwn.mp z; omega)
      · skip
        refine V_aload_n rfl dX6_rings_91 ?_
        refine gf_X6_33 (by assumption) (by assumption) rfl dX6_rings_92 ?_
        refine V_iload_n rfl dX6_rings_95 ?_
        refine V_iconst (nI 3) (by decide) dX6_rings_96 ?_
        refine V_iaddN dX6_rings_97 ?_
        refine V_iald _ (by assumption) rfl (by omega) (by omega) dX6_rings_98 ?_
        refine V_topi (e3) ?_
        refine V_aload_n rfl dX6_rings_99 ?_
        refine gf_X6_23 (by assumption) (by assumption) rfl dX6_rings_100 ?_
        refine V_iconst (nI 3) (by decide) dX6_rings_103 ?_
        refine V_iload rfl dX6_rings_104 ?_
        refine V_imulN dX6_rings_106 ?_
        refine V_iconst (nI 1) (by decide) dX6_rings_107 ?_
        refine V_iaddN dX6_rings_108 ?_
        refine V_iald _ (by assumption) rfl (by omega) (by omega) dX6_rings_109 ?_
        refine V_topi (k1) ?_
        refine V_icmp_geN 131 dX6_rings_110 (by decide) (by omega) (by omega) (fun h110 => ?_) (fun h110 => ?_)
        · skip
          refine V_iconst (nI 1) (by decide) dX6_rings_131 ?_
          refine V_goto 136 dX6_rings_132 (by decide) ?_
          first
          | exact hfin1 (hwn.mpr (by omega))
          | exact hfin0 (fun z => by have := hwn.mp z; omega)
        · skip
          refine V_iload rfl dX6_rings_113 ?_
          refine V_iconst (nI 2) (by decide) dX6_rings_115 ?_
          refine V_icmp_neN 135 dX6_rings_116 (by decide) (by omega) (by omega) (fun h116 => ?_) (fun h116 => ?_)
          · skip
            refine V_iconst (nI 0) (by decide) dX6_rings_135 ?_
            first
            | exact hfin1 (hwn.mpr (by omega))
            | exact hfin0 (fun z => by have := hwn.mp z; omega)
          · skip
            refine V_aload_n rfl dX6_rings_119 ?_
            refine gf_X6_33 (by assumption) (by assumption) rfl dX6_rings_120 ?_
            refine V_iload_n rfl dX6_rings_123 ?_
            refine V_iconst (nI 3) (by decide) dX6_rings_124 ?_
            refine V_iaddN dX6_rings_125 ?_
            refine V_iald _ (by assumption) rfl (by omega) (by omega) dX6_rings_126 ?_
            refine V_topi (e3) ?_
            refine V_iconst (nI 2) (by decide) dX6_rings_127 ?_
            refine V_icmp_ltN 135 dX6_rings_128 (by decide) (by omega) (by omega) (fun h128 => ?_) (fun h128 => ?_)
            · skip
              refine V_iconst (nI 0) (by decide) dX6_rings_135 ?_
              first
              | exact hfin1 (hwn.mpr (by omega))
              | exact hfin0 (fun z => by have := hwn.mp z; omega)
            · skip
              refine V_iconst (nI 1) (by decide) dX6_rings_131 ?_
              refine V_goto 136 dX6_rings_132 (by decide) ?_
              first
              | exact hfin1 (hwn.mpr (by omega))
              | exact hfin0 (fun z => by have := hwn.mp z; omega)
  have hJ1 : slF I (upI I 100 (56 * s + 1) (nI (wK W + 1))) s := slF.up (by omega) (by omega)
  have hW1 : SlW (upI I 100 (56 * s + 1) (nI (wK W + 1))) s (wT W, wK W + 1, wM W, wH W) (tP tv).1 := ⟨(upI_ne (Or.inr (by omega))).trans wT0, upI_eq, (upI_ne (Or.inr (by omega))).trans wM0, fun i hi => (upI_ne (Or.inr (by omega))).trans (wH0 i hi), fun m hm c hc => (upI_ne (Or.inr (by omega))).trans (wC0 m hm c hc)⟩
  refine V_aload_n rfl dX6_rings_0 ?_
  refine gf_X6_33 (by assumption) (by assumption) rfl dX6_rings_1 ?_
  refine V_bipush (nI 56) (by decide) dX6_rings_4 ?_
  refine V_iload_n rfl dX6_rings_6 ?_
  refine V_imulN dX6_rings_7 ?_
  refine V_iconst (nI 1) (by decide) dX6_rings_8 ?_
  refine V_iaddN dX6_rings_9 ?_
  refine V_dup2 rfl rfl dX6_rings_10 ?_
  refine V_iald _ (by assumption) rfl (by omega) (by omega) dX6_rings_11 ?_
  refine V_topi (wK0) ?_
  refine V_iconst (nI 1) (by decide) dX6_rings_12 ?_
  refine V_iaddN dX6_rings_13 ?_
  refine V_iast _ (by assumption) rfl (by omega) (by omega) dX6_rings_14 ?_
  refine V_aload_n rfl dX6_rings_15 ?_
  refine V_iload_n rfl dX6_rings_16 ?_
  refine cl_X6_102 (D_rests hK0 (hT0.sl hJ1) hok hW1 hs12) (by assumption) rfl rfl ft0 (Nat.le_of_ble_eq_true rfl) dX6_rings_17 (fun rr s9 J2 hq => ?_)
  obtain ⟨rfl, hs, q1, q2⟩ := hq
  have hs := hs.symm
  subst hs
  show V X _ sg J2 20 _ []
  refine V_aload_n rfl dX6_rings_20 ?_
  refine gf_X6_33 (by assumption) (by assumption) rfl dX6_rings_21 ?_
  refine V_bipush (nI 56) (by decide) dX6_rings_24 ?_
  refine V_iload_n rfl dX6_rings_26 ?_
  refine V_imulN dX6_rings_27 ?_
  refine V_iconst (nI 2) (by decide) dX6_rings_28 ?_
  refine V_iaddN dX6_rings_29 ?_
  refine V_iald _ (by assumption) rfl (by omega) (by omega) dX6_rings_30 ?_
  refine V_topi (q1.2.2.1) ?_
  refine V_iconst (nI 1) (by decide) dX6_rings_31 ?_
  refine V_isub dX6_rings_32 ?_
  refine V_ist2 rfl rfl dX6_rings_33 ?_
  exact loop (wM W).1 J2 (wM W) _ _ _ _ q1 (hJ1.trans q2) rfl (Nat.le_refl _) (hm.mono (Nat.le_succ _)) (fun j hj => by have := (hm.2.1 j hj).2.2.2; omega)
theorem D_bell (hM : MSt sg I x tv W P K) (hS : STok x tv W P K) : Ct m_X6_bell g [rf g 92] sg I (mstQ sg I tv (gBell x tv W P K)) := by
  have hM0 := hM
  have hS0 := hS
  obtain ⟨hX0, hok, hnp, hns, ⟨hWok, hwk⟩, hPok, hKok⟩ := hS
  obtain ⟨hK, ⟨mlen, mtx⟩, hT, hW, mkept, mKs, mdone, mPs⟩ := hM
  have hK0 := hK
  have hT0 := hT
  have hW0 := hW
  obtain ⟨m0, mR1, mR3, mR4, mR5, mR6, mR7, mR8, mR10, mR16, mR17, mA93, mA94, mA95, mA96, mA97, mA98, mA99, mA100, mA101, mA102⟩ := hK
  obtain ⟨mF, mnL, mnP, mnS, mnB, mL, mP, mS, mB, mWd, mnw⟩ := hT
  have hF1 := hok.1
  have hF8 := hok.2.1
  have h256 := p2_le8 hF8
  have h16 := p2_le16 hF8
  have nL10 := hok.2.2.2.2.2.2.2.1
  have nP5 := hok.2.2.2.2.2.2.2.2.1
  have nS5 := hok.2.2.2.2.2.2.2.2.2.1
  have nB6 := hok.2.2.2.2.2.2.2.2.2.2
  have hmk := hWok.2.2.2.1
  have hn12 := hmk.1
  have htr := hWok.1
  have hnw := nw_le hF8
  have hnw0 := nw_pos hWok
  obtain ⟨wT0, wK0, wM0, wH0, wC0⟩ := id hW
  have hpk := pushS_ok (M := 8) hPok (⟨hWok, hwk⟩ : WKok tv W)
  have hmr := (hWok.ring hok (by omega)).2.2.2.1.1
  refine Ct.of rfl (Nat.le_of_ble_eq_true rfl) fun X => ?_
  show V X _ sg I 0 [some (rf g 92)] []
  refine V_aload_n rfl dX6_bell_0 ?_
  refine gf_X6_33 (by assumption) (by assumption) rfl dX6_bell_1 ?_
  refine V_iconst (nI 1) (by decide) dX6_bell_4 ?_
  refine V_iald _ (by assumption) rfl (by omega) (by omega) dX6_bell_5 ?_
  refine V_topi (wK0) ?_
  refine V_sipush (nI 999) (by decide) dX6_bell_6 ?_
  refine V_icmp_neN 15 dX6_bell_9 (by decide) (by omega) (by omega) (fun h9 => ?_) (fun h9 => ?_)
  · skip
    refine V_aload_n rfl dX6_bell_15 ?_
    refine cl_X6_146 (D_push hM0 hS0) (by assumption) rfl rfl ft0 (Nat.le_of_ble_eq_true rfl) dX6_bell_16 (fun rr s9 J1 hq => ?_)
    obtain ⟨rfl, hs, hM1, hfr, -⟩ := hq
    have hs := hs.symm
    subst hs
    show V X _ sg J1 19 _ []
    obtain ⟨-, -, hT1, hW1, k1, k2, p1, p2⟩ := id hM1
    refine V_aload_n rfl dX6_bell_19 ?_
    refine V_iconst (nI 0) (by decide) dX6_bell_20 ?_
    refine cl_X6_168 (D_rings hK0 hT1 hok hW1 (by decide) hmk (by omega)) (by assumption) rfl rfl ft0 (Nat.le_of_ble_eq_true rfl) dX6_bell_21 (fun rr2 s8 J2 hq2 => ?_)
    obtain ⟨rfl, hs, q1, q2⟩ := hq2
    have hs := hs.symm
    subst hs
    show V X _ sg J2 24 _ []
    refine V_aload_n rfl dX6_bell_24 ?_
    refine gf_X6_33 (by assumption) (by assumption) rfl dX6_bell_25 ?_
    refine V_iconst (nI 2) (by decide) dX6_bell_28 ?_
    refine V_iald _ (by assumption) rfl (by omega) (by omega) dX6_bell_29 ?_
    refine V_topi (q1.2.2.1) ?_
    refine V_iret rfl rfl rfl ?_ dX6_bell_30
    unfold mstQ
    rw [show gBell x tv W P K = (x, ringV tv W, pushS 8 P W, K, nI (wM (ringV tv W)).1) from by unfold gBell; rw [if_pos (by omega)]]
    exact ⟨rfl, rfl, hM1.slot0 (fun i hi => (hpk.2 i hi).1.2.2.2.1.1) (fun i hi => (hKok.2 i hi).1.2.2.2.1.1) nP5 q2 q1, fun q hq => (q2.2 q (by omega)).trans (hfr q hq)⟩
  · skip
    refine V_bipush (-2) (by decide) dX6_bell_12 ?_
    refine V_iret rfl rfl rfl ?_ dX6_bell_14
    unfold mstQ
    rw [show gBell x tv W P K = (x, W, P, K, -2) from by unfold gBell; rw [if_neg (by omega)]]
    exact ⟨rfl, rfl, hM0, fun q _ => rfl⟩
end MBELL
