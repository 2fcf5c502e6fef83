/-! CarvedWeeksModel: a year -/
/-- what a year leaves as it was -/
def yF (I J : IM) : Prop := (∀ j, j < 616 → J 100 j = I 100 j) ∧ (∀ q, q ≠ 92 → q ≠ 100 → J q = I q) ∧ ∀ k, k ≠ 13 → k ≠ 14 → k ≠ 15 → k ≠ 18 → J 92 k = I 92 k
theorem yF.refl {I : IM} : yF I I := ⟨fun _ _ => rfl, fun _ _ _ => rfl, fun _ _ _ _ _ => rfl⟩
theorem yF.kn {I J H : IM} (a : yF I J) (b : knF J H) : yF I H := ⟨fun j h => by rw [b.1 100 (by decide)]; exact a.1 j h, fun q h1 h2 => (b.1 q h1).trans (a.2.1 q h1 h2), fun k h1 h2 h3 h4 => (b.2 k h1 h2 h3 h4).trans (a.2.2 k h1 h2 h3 h4)⟩
theorem yF.sl {I J H : IM} (a : yF I J) (b : slF J H 11) : yF I H := ⟨fun j h => (b.1 j (by omega)).trans (a.1 j h), fun q h1 h2 => (b.2 q h2).trans (a.2.1 q h1 h2), fun k h1 h2 h3 h4 => by rw [b.2 92 (by decide)]; exact a.2.2 k h1 h2 h3 h4⟩
theorem MTn.y {I J : IM} {tv : TV} (h : MTn I tv) (e : yF I J) : MTn J tv := by
  unfold MTn at h ⊢
  rw [e.2.1 94 (by decide) (by decide), e.2.1 95 (by decide) (by decide), e.2.1 96 (by decide) (by decide), e.2.1 97 (by decide) (by decide), e.2.1 98 (by decide) (by decide), e.2.1 99 (by decide) (by decide), e.2.2 9 (by decide) (by decide) (by decide) (by decide)]
  exact h
theorem MSt.y {sg : SG} {I J : IM} {x : XV} {tv : TV} {W : WV} {P K : SV} (h : MSt sg I x tv W P K) (hS : STok x tv W P K) (e : yF I J) : MSt sg J x tv W P K := by
  obtain ⟨-, -, -, hW, k1, k2, p1, p2⟩ := id h
  obtain ⟨-, hok, -, -, ⟨hWok, -⟩, hPok, hKok⟩ := hS
  have nP5 := hok.2.2.2.2.2.2.2.2.1
  have hP8 := hPok.1
  have hK2 := hKok.1
  exact h.slots (fun q a b => e.2.1 q b a) (e.2.2 0 (by decide) (by decide) (by decide) (by decide)) (e.2.2 9 (by decide) (by decide) (by decide) (by decide)) (hW.same hWok.2.2.2.1.1 nP5 (fun k hk => e.1 _ (by omega))) ((e.2.2 11 (by decide) (by decide) (by decide) (by decide)).trans k1) (fun i hi => (k2 i hi).same (hKok.2 i hi).1.2.2.2.1.1 nP5 (fun k hk => e.1 _ (by omega))) ((e.2.2 12 (by decide) (by decide) (by decide) (by decide)).trans p1) (fun i hi => (p2 i hi).same (hPok.2 i hi).1.2.2.2.1.1 nP5 (fun k hk => e.1 _ (by omega)))
section MYEAR
variable {g : GC} {sg : SG} {I : IM} {x : XV} {tv : TV} {W : WV} {P K : SV} {np : Nat}
theorem SlW.nm {s : Nat} {v : Int32} (h : SlW I s W np) (h5 : np ≤ 5) (hv : v = nI (wM W).1) : SlW (upI I 100 (56 * s + 2) v) s W np := by
  obtain ⟨h1, h2, h3, h4, h6⟩ := h
  exact ⟨(upI_ne (Or.inr (by omega))).trans h1, (upI_ne (Or.inr (by omega))).trans h2, upI_eq.trans hv, fun i hi => (upI_ne (Or.inr (by omega))).trans (h4 i hi), fun k hk c hc => (upI_ne (Or.inr (by omega))).trans (h6 k hk c hc)⟩
theorem SlW.tr {s v : Nat} (h : SlW I s W np) : SlW (upI I 100 (56 * s) (nI v)) s (v, wK W, wM W, wH W) np := by
  obtain ⟨h1, h2, h3, h4, h6⟩ := h
  exact ⟨upI_eq, (upI_ne (Or.inr (by omega))).trans h2, (upI_ne (Or.inr (by omega))).trans h3, fun i hi => (upI_ne (Or.inr (by omega))).trans (h4 i hi), fun k hk c hc => (upI_ne (Or.inr (by omega))).trans (h6 k hk c hc)⟩
theorem D_week {d : Nat} (hK : MK sg) (hT : MTn I tv) (hok : TVok tv) (hW : SlW I 11 W (tP tv).1) (hw0 : 0 < nw' tv) (hp0 : 0 < (tP tv).1) (hWok : WVok tv W) (hk5 : wK W + 1 < 100000) (hdd : d < 65536) : Ct m_X6_week g [rf g 92, .int (nI d)] sg I (fun r0 s0 J => r0 = none ∧ s0 = sg ∧ SlW J 11 (liveV tv W d) (tP tv).1 ∧ slF I J 11) := by
  have hK0 := hK
  have hT0 := hT
  have hW0 := hW
  obtain ⟨m0, mR1, mR3, mR4, mR5, mR6, mR7, mR8, mR10, mR16, mR17, mA93, mA94, mA95, mA96, mA97, mA98, mA99, mA100, mA101, mA102⟩ := hK
  obtain ⟨mF, mnL, mnP, mnS, mnB, mL, mP, mS, mB, mWd, mnw⟩ := hT
  have hF1 := hok.1
  have hF8 := hok.2.1
  have h256 := p2_le8 hF8
  have h16 := p2_le16 hF8
  have nL10 := hok.2.2.2.2.2.2.2.1
  have nP5 := hok.2.2.2.2.2.2.2.2.1
  have nS5 := hok.2.2.2.2.2.2.2.2.2.1
  have nB6 := hok.2.2.2.2.2.2.2.2.2.2
  have hn12 := hWok.2.2.2.1.1
  have hmk := hWok.2.2.2.1
  have hnw := nw_le hF8
  have hmod : d % nw' tv < nw' tv := Nat.mod_lt d hw0
  have hwl := (wl_mem hmod).1
  have hpok := preV_ok (d := d) hok hw0 hp0 hWok
  have hJf : slF I (upI I 100 616 (nI (wl tv (d % nw' tv)))) 11 := slF.up (by omega) (by omega)
  have hJW : SlW (upI I 100 616 (nI (wl tv (d % nw' tv)))) 11 (wl tv (d % nw' tv), wK W, wM W, wH W) (tP tv).1 := hW0.tr
  obtain ⟨J, hJ⟩ : ∃ J, J = upI I 100 616 (nI (wl tv (d % nw' tv))) := ⟨_, rfl⟩
  rw [← hJ] at hJf hJW
  have hTJ := hT0.sl hJf
  have jM : J 100 618 = nI (wM W).1 := hJW.2.2.1
  have hnS : J 94 3 = nI (tS tv).1 := by rw [hJf.2 94 (by decide)]; exact mnS
  have hnF : J 94 0 = nI (tF tv) := by rw [hJf.2 94 (by decide)]; exact mF
  have hnP : J 94 2 = nI (tP tv).1 := by rw [hJf.2 94 (by decide)]; exact mnP
  have hfre : ∀ k, freeN tv (wl tv (d % nw' tv), wK W, wM W, wH W) k = freeN tv W k := fun _ => rfl
  refine Ct.of rfl (Nat.le_of_ble_eq_true rfl) fun X => ?_
  show V X _ sg I 0 [some (rf g 92), some (.int (nI d)), none, none] []
  obtain ⟨QQ, hQQ⟩ : ∃ QQ : Option Value → SG → IM → Prop, QQ = (fun r0 s0 J => r0 = none ∧ s0 = sg ∧ SlW J 11 (liveV tv W d) (tP tv).1 ∧ slF I J 11) := ⟨_, rfl⟩
  rw [← hQQ]
  have fin : ∀ (J2 : IM) (tb : TB) (z2 z3 : Option Value), (preV tv W d).2.2.1 = tb → SlW J2 11 (wl tv (d % nw' tv), wK W, tb, wH W) (tP tv).1 → slF I J2 11 → V X (ZQ X QQ) sg J2 126 [some (rf g 92), some (.int (nI d)), z2, z3] [] := by
    intro J2 tb z2 z3 e9 hJ2 hout
    have e8 : preV tv W d = (wl tv (d % nw' tv), wK W, tb, wH W) := by rw [← e9]; rfl
    rw [e8] at hpok
    have hC := D_rings (g := g) hK0 (hT0.sl hout) hok hJ2 (by decide) hpok.2.2.2.1 hk5
    refine V_aload_n rfl dX6_week_126 ?_
    refine V_bipush (nI 11) (by decide) dX6_week_127 ?_
    refine cl_X6_168 (hC) (by assumption) rfl rfl ft0 (Nat.le_of_ble_eq_true rfl) dX6_week_129 (fun r1 s1 J3 hq => ?_)
    obtain ⟨rfl, hs, q1, q2⟩ := hq
    have hs := hs.symm
    subst hs
    show V X _ sg J3 132 _ []
    refine V_vret rfl rfl rfl ?_ dX6_week_132
    rw [hQQ]
    refine ⟨rfl, rfl, ?_, hout.trans q2⟩
    unfold liveV; rw [e8]; exact q1
  have scan : d / 8 % 2 = 0 → (wM W).1 < 12 → ∀ (e k : Nat) (z3 : Option Value), (tS tv).1 - k = e → k ≤ (tS tv).1 → (∀ i, i < k → freeN tv W i = 0) → V X (ZQ X QQ) sg J 42 [some (rf g 92), some (.int (nI d)), some (.int (nI k)), z3] [] := by
    intro hc1 hc2 e
    induction e with
    | zero =>
      intro k z3 he hk hz
      have ek : k = (tS tv).1 := by omega
      subst ek
      have hl : lowF tv W = none := fstB_none.mpr (fun i hi => by rw [hz i hi]; rfl)
      have e9 : (preV tv W d).2.2.1 = wM W := by
        show (if _ then _ else _) = _
        rw [hl]; split <;> rfl
      refine V_iload_n rfl dX6_week_42 ?_
      refine V_aload_n rfl dX6_week_43 ?_
      refine gf_X6_13 (by assumption) (by assumption) rfl dX6_week_44 ?_
      refine V_iconst (nI 3) (by decide) dX6_week_47 ?_
      refine V_iald _ (by assumption) rfl (by omega) (by omega) dX6_week_48 ?_
      refine V_topi (hnS) ?_
      refine V_icmp_geN 68 dX6_week_49 (by decide) (by omega) (by omega) (fun h49 => ?_) (fun h49 => absurd h49 (by omega))
      refine V_iload_n rfl dX6_week_68 ?_
      refine V_aload_n rfl dX6_week_69 ?_
      refine gf_X6_13 (by assumption) (by assumption) rfl dX6_week_70 ?_
      refine V_iconst (nI 3) (by decide) dX6_week_73 ?_
      refine V_iald _ (by assumption) rfl (by omega) (by omega) dX6_week_74 ?_
      refine V_topi (hnS) ?_
      refine V_icmp_geN 126 dX6_week_75 (by decide) (by omega) (by omega) (fun h75 => ?_) (fun h75 => absurd h75 (by omega))
      exact fin J (wM W) _ _ e9 hJW hJf
    | succ e ih =>
      intro k z3 he hk hz
      have hkl : k < (tS tv).1 := by omega
      have h8 := fun z3 => ih (k + 1) z3 (by omega) (by omega)
      have hfl : freeN tv W k ≤ 6 := Nat.le_trans (Nat.sub_le _ _) (hok.2.2.2.2.2.1 k hkl).2.1
      have hcut : ¬ freeN tv W k = 0 → V X (ZQ X QQ) sg J 68 [some (rf g 92), some (.int (nI d)), some (.int (nI k)), z3] [] := by
        intro hne
        have hl : lowF tv W = some k := fstB_at hkl (decide_eq_true (by omega)) (fun i hi => by rw [hz i hi]; rfl)
        have hf := Nat.mod_lt (d / 128) hF1
        have hpm := Nat.mod_lt (d / 16) hp0
        have e9 : (preV tv W d).2.2.1 = addTB (wM W) (tsy (d / 128 % tF tv) (wl tv (d % nw' tv))) k (d / 16 % (tP tv).1) := by
          show (if _ then _ else _) = _
          rw [if_pos ⟨hc1, hc2⟩, hl]
        refine V_iload_n rfl dX6_week_68 ?_
        refine V_aload_n rfl dX6_week_69 ?_
        refine gf_X6_13 (by assumption) (by assumption) rfl dX6_week_70 ?_
        refine V_iconst (nI 3) (by decide) dX6_week_73 ?_
        refine V_iald _ (by assumption) rfl (by omega) (by omega) dX6_week_74 ?_
        refine V_topi (hnS) ?_
        refine V_icmp_geN 126 dX6_week_75 (by decide) (by omega) (by omega) (fun h75 => absurd h75 (by omega)) (fun h75 => ?_)
        refine V_aload_n rfl dX6_week_78 ?_
        refine V_bipush (nI 11) (by decide) dX6_week_79 ?_
        refine V_aload_n rfl dX6_week_81 ?_
        refine V_bipush (nI 11) (by decide) dX6_week_82 ?_
        refine V_iload_n rfl dX6_week_84 ?_
        refine V_sipush (nI 128) (by decide) dX6_week_85 ?_
        refine V_idiv (nI_nz (by decide) (by decide)) dX6_week_88 ?_
        rw [nI_div (by omega) (by decide) (by decide)]
        refine V_aload_n rfl dX6_week_89 ?_
        refine gf_X6_13 (by assumption) (by assumption) rfl dX6_week_90 ?_
        refine V_iconst (nI 0) (by decide) dX6_week_93 ?_
        refine V_iald _ (by assumption) rfl (by omega) (by omega) dX6_week_94 ?_
        refine V_topi (hnF) ?_
        refine V_irem (nI_nz hF1 (by omega)) dX6_week_95 ?_
        rw [nI_rem (by omega) hF1 (by omega)]
        refine cf_X6_158 (D_trueOf hK0 hJW (by decide) (by omega) (show wl tv (d % nw' tv) < 2147483648 by omega)) (by assumption) rfl rfl ft0 (Nat.le_of_ble_eq_true rfl) dX6_week_96 ?_
        refine V_iload_n rfl dX6_week_99 ?_
        refine V_iload_n rfl dX6_week_100 ?_
        refine V_bipush (nI 16) (by decide) dX6_week_101 ?_
        refine V_idiv (nI_nz (by decide) (by decide)) dX6_week_103 ?_
        rw [nI_div (by omega) (by decide) (by decide)]
        refine V_aload_n rfl dX6_week_104 ?_
        refine gf_X6_13 (by assumption) (by assumption) rfl dX6_week_105 ?_
        refine V_iconst (nI 2) (by decide) dX6_week_108 ?_
        refine V_iald _ (by assumption) rfl (by omega) (by omega) dX6_week_109 ?_
        refine V_topi (hnP) ?_
        refine V_irem (nI_nz hp0 (by omega)) dX6_week_110 ?_
        rw [nI_rem (by omega) hp0 (by omega)]
        refine cl_X6_161 (D_cuts hK0 hJW (by decide) hc2 nP5) (by assumption) rfl rfl ft0 (Nat.le_of_ble_eq_true rfl) dX6_week_111 (fun rr s1 J3 hq => ?_)
        obtain ⟨rfl, hs, q1, q2⟩ := hq
        have hs := hs.symm
        subst hs
        show V X _ sg J3 114 _ [.int (nI (wM W).1)]
        refine V_ist3 rfl rfl dX6_week_114 ?_
        refine V_aload_n rfl dX6_week_115 ?_
        refine gf_X6_33 (by assumption) (by assumption) rfl dX6_week_116 ?_
        refine V_sipush (nI 618) (by decide) dX6_week_119 ?_
        refine V_iload_n rfl dX6_week_122 ?_
        refine V_iconst (nI 1) (by decide) dX6_week_123 ?_
        refine V_iaddN dX6_week_124 ?_
        refine V_iast _ (by assumption) rfl (by omega) (by omega) dX6_week_125 ?_
        exact fin _ _ _ _ e9 (q1.nm nP5 rfl) ((hJf.trans q2).trans (slF.up (by omega) (by omega)))
      refine V_iload_n rfl dX6_week_42 ?_
      refine V_aload_n rfl dX6_week_43 ?_
      refine gf_X6_13 (by assumption) (by assumption) rfl dX6_week_44 ?_
      refine V_iconst (nI 3) (by decide) dX6_week_47 ?_
      refine V_iald _ (by assumption) rfl (by omega) (by omega) dX6_week_48 ?_
      refine V_topi (hnS) ?_
      refine V_icmp_geN 68 dX6_week_49 (by decide) (by omega) (by omega) (fun h49 => absurd h49 (by omega)) (fun h49 => ?_)
      refine V_aload_n rfl dX6_week_52 ?_
      refine V_bipush (nI 11) (by decide) dX6_week_53 ?_
      refine V_iload_n rfl dX6_week_55 ?_
      refine cf_X6_127 (D_free hK0 hTJ hok hJW (by decide) hmk hkl) (by assumption) rfl rfl ft0 (Nat.le_of_ble_eq_true rfl) dX6_week_56 ?_
      rw [hfre]
      refine V_if_neN 68 dX6_week_59 (by decide) (by omega) (fun h59 => ?_) (fun h59 => ?_)
      · skip
        exact hcut h59
      · skip
        refine V_iinc2_ _ (nI_inc _) rfl rfl dX6_week_62 ?_
        refine V_goto 42 dX6_week_65 (by decide) ?_
        exact h8 _ (fun i hi => by
          by_cases c : i = k
          · rw [c]; exact h59
          · exact hz i (by omega))
  refine V_aload_n rfl dX6_week_0 ?_
  refine gf_X6_33 (by assumption) (by assumption) rfl dX6_week_1 ?_
  refine V_sipush (nI 616) (by decide) dX6_week_4 ?_
  refine V_aload_n rfl dX6_week_7 ?_
  refine V_iload_n rfl dX6_week_8 ?_
  refine V_aload_n rfl dX6_week_9 ?_
  refine gfe_X6_95 (by assumption) (by assumption) rfl dX6_week_10 ?_
  refine V_irem (nI_nz hw0 (by omega)) dX6_week_13 ?_
  rw [nI_rem (by omega) hw0 (by omega)]
  refine cf_X6_136 (D_worldOf hK0 hT0 hok (by omega)) (by assumption) rfl rfl ft0 (Nat.le_of_ble_eq_true rfl) dX6_week_14 ?_
  rw [if_pos hmod]
  refine V_iast _ (by assumption) rfl (by omega) (by omega) dX6_week_17 ?_
  rw [← hJ]
  refine V_iload_n rfl dX6_week_18 ?_
  refine V_bipush (nI 8) (by decide) dX6_week_19 ?_
  refine V_idiv (nI_nz (by decide) (by decide)) dX6_week_21 ?_
  rw [nI_div (by omega) (by decide) (by decide)]
  refine V_iconst (nI 2) (by decide) dX6_week_22 ?_
  refine V_irem (nI_nz (by decide) (by decide)) dX6_week_23 ?_
  rw [nI_rem (by omega) (by decide) (by decide)]
  refine V_if_neN 126 dX6_week_24 (by decide) (by omega) (fun h24 => ?_) (fun h24 => ?_)
  · skip
    refine fin J (wM W) _ _ ?_ hJW hJf
    show (if _ then _ else _) = _
    rw [if_neg (by omega)]
  · skip
    refine V_aload_n rfl dX6_week_27 ?_
    refine gf_X6_33 (by assumption) (by assumption) rfl dX6_week_28 ?_
    refine V_sipush (nI 618) (by decide) dX6_week_31 ?_
    refine V_iald _ (by assumption) rfl (by omega) (by omega) dX6_week_34 ?_
    refine V_topi (jM) ?_
    refine V_bipush (nI 12) (by decide) dX6_week_35 ?_
    refine V_icmp_geN 126 dX6_week_37 (by decide) (by omega) (by omega) (fun h37 => ?_) (fun h37 => ?_)
    · skip
      refine fin J (wM W) _ _ ?_ hJW hJf
      show (if _ then _ else _) = _
      rw [if_neg (by omega)]
    · skip
      refine V_iconst (nI 0) (by decide) dX6_week_40 ?_
      refine V_ist2 rfl rfl dX6_week_41 ?_
      exact scan h24 (by omega) (tS tv).1 0 _ rfl (Nat.zero_le _) (fun i hi => absurd hi (Nat.not_lt_zero i))
theorem D_year {z n w : Int32} (hM : MSt sg I x tv W P K) (hS : STok x tv W P K) : Ct m_X6_year g [rf g 92, .int z, .int n, .int w] sg I (fun r0 s0 J => r0 = some (.int (fYear tv W z n w)) ∧ s0 = sg ∧ yF I J) := by
  have hM0 := hM
  have hS0 := hS
  obtain ⟨hX0, hok, hnp, hns, ⟨hWok, hwk⟩, hPok, hKok⟩ := hS
  obtain ⟨hK, ⟨mlen, mtx⟩, hT, hW, mkept, mKs, mdone, mPs⟩ := hM
  have hK0 := hK
  have hT0 := hT
  have hW0 := hW
  obtain ⟨m0, mR1, mR3, mR4, mR5, mR6, mR7, mR8, mR10, mR16, mR17, mA93, mA94, mA95, mA96, mA97, mA98, mA99, mA100, mA101, mA102⟩ := hK
  obtain ⟨mF, mnL, mnP, mnS, mnB, mL, mP, mS, mB, mWd, mnw⟩ := hT
  have hF1 := hok.1
  have hF8 := hok.2.1
  have h256 := p2_le8 hF8
  have h16 := p2_le16 hF8
  have nL10 := hok.2.2.2.2.2.2.2.1
  have nP5 := hok.2.2.2.2.2.2.2.2.1
  have nS5 := hok.2.2.2.2.2.2.2.2.2.1
  have nB6 := hok.2.2.2.2.2.2.2.2.2.2
  have hmk := hWok.2.2.2.1
  have hn12 := hmk.1
  have htr := hWok.1
  have hnw := nw_le hF8
  have hnw0 := nw_pos hWok
  obtain ⟨wT0, wK0, wM0, wH0, wC0⟩ := id hW
  refine Ct.of rfl (Nat.le_of_ble_eq_true rfl) fun X => ?_
  show V X _ sg I 0 [some (rf g 92), some (.int z), some (.int n), some (.int w), none, none, none, none] []
  obtain ⟨QQ, hQQ⟩ : ∃ QQ : Option Value → SG → IM → Prop, QQ = (fun r0 s0 J => r0 = some (.int (fYear tv W z n w)) ∧ s0 = sg ∧ yF I J) := ⟨_, rfl⟩
  rw [← hQQ]
  have hfin : ∀ z1 n1 w1, z1 < 10000 → n1 < 61 → 0 < n1 → w1 < 2 → z = nI z1 → n = nI n1 → w = nI w1 → ∀ d k, n1 - k = d → k ≤ n1 → ∀ (J : IM) (z6 z7 : Option Value), SlW J 11 (yrF tv W z1 k).1 (tP tv).1 → yF I J → V X (ZQ X QQ) sg J 49 [some (rf g 92), some (.int (nI z1)), some (.int (nI n1)), some (.int (nI w1)), some (.int (nI (yrF tv W z1 k).2)), some (.int (nI k)), z6, z7] [] := by
    intro z1 n1 w1 hz1 hn1 hn0 hw1 ez en ew
    have hf : fYear tv W z n w = if w1 = 0 then nI (yrF tv W z1 n1).2 else nI (wM (yrF tv W z1 n1).1).1 := by
      unfold fYear
      rw [ifb_pos hz1 (by decide) ez, ifb_pos hn1 (by decide) en, if_neg (by omega), ifb_pos hw1 (by decide) ew]
    intro d
    induction d with
    | zero =>
      intro k hd hkn J z6 z7 hJ hout
      have e : k = n1 := by omega
      subst e
      have jM := hJ.2.2.1
      refine V_iload rfl dX6_year_49 ?_
      refine V_iload_n rfl dX6_year_51 ?_
      refine V_icmp_geN 124 dX6_year_52 (by decide) (by omega) (by omega) (fun h52 => ?_) (fun h52 => absurd h52 (by omega))
      refine V_iload_n rfl dX6_year_124 ?_
      refine V_if_neN 133 dX6_year_125 (by decide) (by omega) (fun h125 => ?_) (fun h125 => ?_)
      · skip
        refine V_aload_n rfl dX6_year_133 ?_
        refine gf_X6_33 (by assumption) (by assumption) rfl dX6_year_134 ?_
        refine V_sipush (nI 618) (by decide) dX6_year_137 ?_
        refine V_iald _ (by assumption) rfl (by omega) (by omega) dX6_year_140 ?_
        refine V_topi (jM) ?_
        refine V_iret rfl rfl rfl ?_ dX6_year_141
        rw [hQQ]
        refine ⟨?_, rfl, hout⟩
        rw [hf]
        first
        | rw [if_pos h125]
        | rw [if_neg h125]
      · skip
        refine V_iload rfl dX6_year_128 ?_
        refine V_goto 141 dX6_year_130 (by decide) ?_
        refine V_iret rfl rfl rfl ?_ dX6_year_141
        rw [hQQ]
        refine ⟨?_, rfl, hout⟩
        rw [hf]
        first
        | rw [if_pos h125]
        | rw [if_neg h125]
    | succ d ih =>
      intro k hd hkn J z6 z7 hJ hout
      have hyk := yr_ok (z := z1) hok hnw0 hnp hWok hwk k (by omega)
      have hyk1 := yr_ok (z := z1) hok hnw0 hnp hWok hwk (k + 1) (by omega)
      have h8 := fun J z6 z7 => ih (k + 1) (by omega) (by omega) J z6 z7
      have e1 : (yrF tv W z1 (k + 1)).1 = liveV tv (yrF tv W z1 k).1 (drawN z1 k) := rfl
      have e2 : (yrF tv W z1 (k + 1)).2 = (yrF tv W z1 k).2 + if wrgN tv (wT (liveV tv (yrF tv W z1 k).1 (drawN z1 k))) (rdN tv (liveV tv (yrF tv W z1 k).1 (drawN z1 k)) 1 99) = 0 then 1 else 0 := rfl
      have hcl := D_week (g := g) (d := drawN z1 k) hK0 (hT0.y hout) hok hJ hnw0 hnp hyk.1 (by omega) (by have := drawN_lt z1 k; omega)
      obtain ⟨U, hU⟩ : ∃ U, U = liveV tv (yrF tv W z1 k).1 (drawN z1 k) := ⟨_, rfl⟩
      rw [← hU] at e1 e2 hcl
      rw [e1] at hyk1
      rw [e1, e2] at h8
      have hUt := hyk1.1.1
      have hUm := hyk1.1.2.2.2.1
      have hwr : wrgN tv (wT U) (rdN tv U 1 99) ≤ 2 * tF tv := wrg_le
      have hrd : rdN tv U 1 99 < 65536 := Nat.lt_of_lt_of_le rd_lt h16
      have hm : 7919 * z1 + 6151 * k + 1 < 80000000 := by omega
      have hsq : (7919 * z1 + 6151 * k + 1) * (7919 * z1 + 6151 * k + 1) < 80000000 * 80000000 := Nat.mul_lt_mul'' hm hm
      have hdr : (7919 * z1 + 6151 * k + 1) * (7919 * z1 + 6151 * k + 1) % 65521 = drawN z1 k := rfl
      refine V_iload rfl dX6_year_49 ?_
      refine V_iload_n rfl dX6_year_51 ?_
      refine V_icmp_geN 124 dX6_year_52 (by decide) (by omega) (by omega) (fun h52 => absurd h52 (by omega)) (fun h52 => ?_)
      refine V_ldc2 RX6 _ rfl wk_X6_236 dX6_year_55 ?_
      rw [show (7919 : Int64) = lN 7919 from by decide]
      refine V_iload_n rfl dX6_year_58 ?_
      refine V_i2l dX6_year_59 ?_
      rw [nI_toL (by omega)]
      refine V_lmul dX6_year_60 ?_
      rw [lN_mul]
      refine V_ldc2 RX6 _ rfl wk_X6_238 dX6_year_61 ?_
      rw [show (6151 : Int64) = lN 6151 from by decide]
      refine V_iload rfl dX6_year_64 ?_
      refine V_i2l dX6_year_66 ?_
      rw [nI_toL (by omega)]
      refine V_lmul dX6_year_67 ?_
      rw [lN_mul]
      refine V_ladd dX6_year_68 ?_
      rw [lN_add]
      refine V_lconst (lN 1) rfl dX6_year_69 ?_
      refine V_ladd dX6_year_70 ?_
      rw [lN_add]
      refine V_lst6 rfl rfl dX6_year_71 ?_
      refine V_aload_n rfl dX6_year_73 ?_
      refine V_lload rfl dX6_year_74 ?_
      refine V_lload rfl dX6_year_76 ?_
      refine V_lmul dX6_year_78 ?_
      rw [lN_mul]
      refine V_ldc2 RX6 _ rfl wk_X6_240 dX6_year_79 ?_
      rw [show (65521 : Int64) = lN 65521 from by decide]
      refine V_lrem (lN_nz (by decide) (by decide)) dX6_year_82 ?_
      rw [pk_lRem (by omega) (by decide) (by decide), hdr]
      refine V_l2i dX6_year_83 ?_
      rw [lN_i]
      refine cl_X6_242 (hcl) (by assumption) rfl rfl ft0 (Nat.le_of_ble_eq_true rfl) dX6_year_84 (fun r1 s1 J1 hq => ?_)
      obtain ⟨rfl, hs, hq2, hq3⟩ := hq
      have hs := hs.symm
      subst hs
      show V X _ sg J1 87 _ []
      have hout1 := hout.sl hq3
      have hT1 := hT0.y hout1
      refine V_aload_n rfl dX6_year_87 ?_
      refine V_aload_n rfl dX6_year_88 ?_
      refine V_bipush (nI 11) (by decide) dX6_year_89 ?_
      refine V_iconst (nI 1) (by decide) dX6_year_91 ?_
      refine V_iconst (-1) (by decide) dX6_year_92 ?_
      refine cf_X6_192 (D_readBy hK0 hT1 hok hq2 (by decide) hUm (by decide) (Or.inl ⟨rfl, rfl⟩)) (by assumption) rfl rfl ft0 (Nat.le_of_ble_eq_true rfl) dX6_year_93 ?_
      refine cl_X6_196 (D_knows hK0 hT1 hok hrd) (by assumption) rfl rfl ft0 (Nat.le_of_ble_eq_true rfl) dX6_year_96 (fun rr s9 J2 hk => ?_)
      have hkn2 := kw_kn hk
      obtain ⟨rfl, hs, -⟩ := id hk
      have hs := hs.symm
      subst hs
      show V X _ sg J2 99 _ []
      have hq4 := hq2.kn hkn2
      have hout2 := hout1.kn hkn2
      have h9 := fun z6 z7 => h8 J2 z6 z7 hq4 hout2
      refine V_iload rfl dX6_year_99 ?_
      refine V_aload_n rfl dX6_year_101 ?_
      refine V_bipush (nI 11) (by decide) dX6_year_102 ?_
      refine cf_X6_202 (D_wrong hK0 hok hq4 (by decide) hUt hk.2.2.2.1 hk.2.2.2.2.1) (by assumption) rfl rfl ft0 (Nat.le_of_ble_eq_true rfl) dX6_year_104 ?_
      refine V_if_neN 114 dX6_year_107 (by decide) (by omega) (fun h107 => ?_) (fun h107 => ?_)
      · skip
        refine V_iconst (nI 0) (by decide) dX6_year_114 ?_
        refine V_iaddN dX6_year_115 ?_
        refine V_ist4 rfl rfl dX6_year_116 ?_
        refine V_iinc5_ _ (nI_inc _) rfl rfl dX6_year_118 ?_
        refine V_goto 49 dX6_year_121 (by decide) ?_
        first
        | (rw [if_neg (by omega)] at h9; exact h9 _ _)
        | (rw [if_pos (by omega)] at h9; exact h9 _ _)
      · skip
        refine V_iconst (nI 1) (by decide) dX6_year_110 ?_
        refine V_goto 115 dX6_year_111 (by decide) ?_
        refine V_iaddN dX6_year_115 ?_
        refine V_ist4 rfl rfl dX6_year_116 ?_
        refine V_iinc5_ _ (nI_inc _) rfl rfl dX6_year_118 ?_
        refine V_goto 49 dX6_year_121 (by decide) ?_
        first
        | (rw [if_neg (by omega)] at h9; exact h9 _ _)
        | (rw [if_pos (by omega)] at h9; exact h9 _ _)
  have hbadn : ∀ (A : Nat → Int32), ¬ (nI 1 ≤ n ∧ n ≤ nI 60) → ifb n 61 (fun n => if n = 0 then -1 else A n) (-1) = -1 := by
    intro A h
    by_cases c : bel n 61
    · obtain ⟨j, hj, rfl⟩ := bel_ex (by decide) c
      rw [ifb_pos hj (by decide) rfl]
      by_cases c0 : j = 0
      · rw [if_pos c0]
      · exact absurd ⟨(nI_leI (by decide) (by omega)).mpr (by omega), (nI_leI (by omega) (by decide)).mpr (by omega)⟩ h
    · rw [ifb_neg c]
  have hW12 := hWok.2.2.2.1.1
  refine V_iload_n rfl dX6_year_0 ?_
  refine V_i2l dX6_year_1 ?_
  refine V_lconst (lN 0) rfl dX6_year_2 ?_
  refine V_ldc2 RX6 _ rfl wk_X6_232 dX6_year_3 ?_
  rw [show (9999 : Int64) = lN 9999 from by decide]
  refine cf_X6_52 (C_in0k (k := 9999) (by decide)) rfl rfl ft0 (Nat.le_of_ble_eq_true rfl) dX6_year_6 ?_
  refine V_if_eqB 34 dX6_year_9 (by decide) (fun h9 => ?_) (fun h9 => ?_)
  · skip
    refine V_iconst (-1) (by decide) dX6_year_34 ?_
    refine V_iret rfl rfl rfl ?_ dX6_year_35
    rw [hQQ]
    refine ⟨?_, rfl, yF.refl⟩
    unfold fYear
    first
    | rw [ifb_neg h9]
    | (rw [ifb_pos (show z1 < 10000 by omega) (by decide) rfl, hbadn _ h21])
    | rw [ifb_pos (show z1 < 10000 by omega) (by decide) rfl, ifb_pos (show n1 < 61 by omega) (by decide) rfl, if_neg (by omega), ifb_neg h31]
  · skip
    obtain ⟨z1, hz1, rfl⟩ := bel_ex (by decide) h9
    refine V_iload_n rfl dX6_year_12 ?_
    refine V_i2l dX6_year_13 ?_
    refine V_lconst (lN 1) rfl dX6_year_14 ?_
    refine V_ldc2 RX6 _ rfl wk_X6_234 dX6_year_15 ?_
    rw [show (60 : Int64) = lN 60 from by decide]
    refine cf_X6_52 (C_inNN (by decide) (by decide)) rfl rfl ft0 (Nat.le_of_ble_eq_true rfl) dX6_year_18 ?_
    refine V_if_eqB 34 dX6_year_21 (by decide) (fun h21 => ?_) (fun h21 => ?_)
    · skip
      refine V_iconst (-1) (by decide) dX6_year_34 ?_
      refine V_iret rfl rfl rfl ?_ dX6_year_35
      rw [hQQ]
      refine ⟨?_, rfl, yF.refl⟩
      unfold fYear
      first
      | rw [ifb_neg h9]
      | (rw [ifb_pos (show z1 < 10000 by omega) (by decide) rfl, hbadn _ h21])
      | rw [ifb_pos (show z1 < 10000 by omega) (by decide) rfl, ifb_pos (show n1 < 61 by omega) (by decide) rfl, if_neg (by omega), ifb_neg h31]
    · skip
      have hl0 : ¬ n < 0 := fun z => absurd (Int32.lt_of_lt_of_le z (show (0 : Int32) ≤ nI 1 by decide)) (by rw [Int32.not_lt]; exact h21.1)
      obtain ⟨n1, hn1, rfl⟩ := nn_ex hl0
      have hn60 := (nI_leI hn1 (by decide)).mp h21.2
      have hn61 := (nI_leI (by decide) hn1).mp h21.1
      refine V_iload_n rfl dX6_year_24 ?_
      refine V_i2l dX6_year_25 ?_
      refine V_lconst (lN 0) rfl dX6_year_26 ?_
      refine V_lconst (lN 1) rfl dX6_year_27 ?_
      refine cf_X6_52 (C_in0k (k := 1) (by decide)) rfl rfl ft0 (Nat.le_of_ble_eq_true rfl) dX6_year_28 ?_
      refine V_if_neB 36 dX6_year_31 (by decide) (fun h31 => ?_) (fun h31 => ?_)
      · skip
        refine V_aload_n rfl dX6_year_36 ?_
        refine V_iconst (nI 0) (by decide) dX6_year_37 ?_
        refine V_bipush (nI 11) (by decide) dX6_year_38 ?_
        refine cl_X6_139 (D_copies (a := 0) (b := 11) hK0 (by decide) (by decide) (by decide)) (by assumption) rfl rfl ft0 (Nat.le_of_ble_eq_true rfl) dX6_year_40 (fun rr s9 J1 hq => ?_)
        obtain ⟨w1, hw1, rfl⟩ := bel_ex (by decide) h31
        obtain ⟨rfl, hs, q1, q2, q3⟩ := hq
        have hs := hs.symm
        subst hs
        show V X _ sg J1 43 _ []
        refine V_iconst (nI 0) (by decide) dX6_year_43 ?_
        refine V_ist4 rfl rfl dX6_year_44 ?_
        refine V_iconst (nI 0) (by decide) dX6_year_46 ?_
        refine V_ist5 rfl rfl dX6_year_47 ?_
        exact hfin z1 n1 w1 (by omega) (by omega) (by omega) (by omega) rfl rfl rfl n1 0 rfl (Nat.zero_le _) J1 _ _ (hW0.copied hn12 nP5 q1) ⟨fun j hj => q2 j (by omega), fun q _ h => q3 q h, fun k _ _ _ _ => by rw [q3 92 (by decide)]⟩
      · skip
        refine V_iconst (-1) (by decide) dX6_year_34 ?_
        refine V_iret rfl rfl rfl ?_ dX6_year_35
        rw [hQQ]
        refine ⟨?_, rfl, yF.refl⟩
        unfold fYear
        first
        | rw [ifb_neg h9]
        | (rw [ifb_pos (show z1 < 10000 by omega) (by decide) rfl, hbadn _ h21])
        | rw [ifb_pos (show z1 < 10000 by omega) (by decide) rfl, ifb_pos (show n1 < 61 by omega) (by decide) rfl, if_neg (by omega), ifb_neg h31]
end MYEAR
