/-! a new CarvedWeeks -/
def x0T : XV := (44, fun i => fsT.getD i 0)
def tv0 : TV := tolT x0T
theorem flt0 : flt x0T = none := by decide +kernel
theorem lay0 : layB x0T = true := by decide +kernel
def w0V : WV := begV tv0
def st0S : SV := (0, fun _ => w0V)
def xs0 : XV := (0, fun _ => 0)
theorem x0_ok : XVok x0T := ⟨by decide, fs_small⟩
theorem ok0 : STok xs0 tv0 w0V st0S st0S := by
  have h := layB_t lay0
  exact ⟨⟨Nat.zero_le _, fun i hi => absurd hi (Nat.not_lt_zero i)⟩, tol_ok, h.2.1, h.2.2.1, beg_ok tol_ok h.2.2.2, ⟨Nat.zero_le _, fun i hi => absurd hi (Nat.not_lt_zero i)⟩, ⟨Nat.zero_le _, fun i hi => absurd hi (Nat.not_lt_zero i)⟩⟩
theorem CShelf.new {sg : SG} {I : IM} {S M np : Nat} (h1 : ShelfK sg S M) (h2 : ∀ i, i < M → WeekSh sg I (S + 2 + 5 * i)) (h3 : I S 2 = 0) (h4 : I S 1 = 0) : CShelf sg I S M np st0S := ⟨h1, h2, Nat.zero_le _, h3, 0, h1.2.2.2.2.1, h4, fun i hi => absurd hi (Nat.not_lt_zero i)⟩
section CINIT
variable {g : GC} {sg : SG} {I : IM} {ak av : Nat}
def inQ (sg : SG) : Option Value → SG → IM → Prop := fun r0 s0 J => r0 = none ∧ s0.1 = 92 ∧ s0.2.1 = sg.2.1 + 2216 ∧ CSt s0 J 70 81 xs0 tv0 w0V st0S st0S
theorem init_tail {S : SG} {J0 : IM} (X : Cx (m_X5i 7 91 2216) g sg) (hSW : SW g ak av X.1.2.2.1) (n0 : sg.1 = 1) (n1 : S.1 = 92) (n2 : S.2.1 = sg.2.1 + 2216) (hC : ClsK S 70 81) (t2 : Tab S J0 2 3 200 1 0) (t4 : Tab S J0 4 5 3 1 0) (s6 : CShelf S J0 6 8 (tP tv0).1 st0S) (s48 : CShelf S J0 48 2 (tP tv0).1 st0S) (w60 : WeekSh S J0 60) (w65 : WeekSh S J0 65) (T70 : TownSh S J0 70) (T81 : TownSh S J0 81) :
    V X (ZQ X (inQ sg)) S J0 84 [some (rf g 0), none] [] := by
  have hC0 := hC
  obtain ⟨kc, c0, c1, c2, c3, c4, c5, c6, hAB, kt, u0, u1⟩ := hC
  have fitS : S.1 - sg.1 + 0 ≤ 91 ∧ S.2.1 - sg.2.1 + 0 ≤ 2216 := ⟨by omega, by omega⟩
  have hTx : TxK S := ⟨kt, u0, u1⟩
  have kk70 := T70.1.1
  have kk60 := w60.1.1
  have kk2 := t2.1
  have loop : ∀ (d i : Nat) (J : IM), 44 - i = d → i ≤ 44 → CTxt S J (i, fun i => fsT.getD i 0) → (∀ q, q ≠ 2 → q ≠ 3 → J q = J0 q) → V X (ZQ X (inQ sg)) S J 86 [some (rf g 0), some (.int (nI i))] [] := by
    intro d
    induction d with
    | zero =>
      intro i J hd hi hX hf
      have e : i = 44 := by omega
      subst e
      have hX : CTxt S J x0T := hX
      have hT1 : TownSh S J 70 := T70.other (fun q _ _ => hf q (by omega) (by omega))
      have hN1 : Tab S J 4 5 3 1 0 := t4.other (hf 4 (by decide) (by decide))
      refine V_iload_n rfl dX5_init_86 ?_
      refine V_ldcS hSW rfl dX5_init_87 ?_
      refine V_callVs (As := []) hSW S_length rfl wl_X5_50 ws_J0_length_8abf5 we_J0_length_8abf5 wi_J0 wc_J0_length_8abf5 wn_J0_length_8abf5 rfl fitS (Nat.le_of_ble_eq_true rfl) dX5_init_89 rfl (fun r s1 I1 h => ?_)
      obtain ⟨rfl, hs1, rfl⟩ := h
      have hs1 := hs1.symm
      subst hs1
      show V X _ S I1 92 _ [.int (nI 44), .int (nI _)]
      refine V_icmp_geN 120 dX5_init_92 (by decide) (by omega) (by omega) (fun h92 => ?_) (fun h92 => absurd h92 (by decide))
      refine V_aload_n rfl dX5_init_120 ?_
      refine gf_X5_10 (by assumption) (by assumption) rfl dX5_init_121 ?_
      refine V_aload_n rfl dX5_init_124 ?_
      refine gf_X5_41 (by assumption) (by assumption) rfl dX5_init_125 ?_
      refine cl_X5_70 (C_readInto hTx hX x0_ok hN1 hT1 (by decide)) (by assumption) rfl rfl fitS (Nat.le_of_ble_eq_true rfl) dX5_init_128 (fun rr s9 J1 hq => ?_)
      obtain ⟨hs, hf1, hm, rfl, -, hq5⟩ := hq
      have hs := hs.symm
      subst hs
      obtain ⟨hT2, hW2⟩ := hq5 flt0
      show V X _ S J1 131 _ [.int (o4 (flt x0T))]
      refine V_pop rfl dX5_init_131 ?_
      refine V_aload_n rfl dX5_init_132 ?_
      refine gf_X5_41 (by assumption) (by assumption) rfl dX5_init_133 ?_
      refine cl_X5_74 (C_findWorlds hT2 hW2 tol_ok) (by assumption) rfl rfl fitS (Nat.le_of_ble_eq_true rfl) dX5_init_136 (fun rr s8 J2 hq2 => ?_)
      obtain ⟨rfl, hs, q1, hf2⟩ := hq2
      have hs := hs.symm
      subst hs
      show V X _ S J2 139 _ []
      have hg2 : ∀ q, q ≠ 1 → q ≠ 2 → q ≠ 3 → q ≠ 4 → q ≠ 5 → (q < 70 ∨ 81 ≤ q) → J2 q = J0 q := fun q z1 z2 z3 z4 z5 z6 => (hf2 q (by omega) (by omega)).trans ((hf1 q z1 z4 z5 (by omega)).trans (hf q z2 z3))
      have hT3 := hT2.other (fun q a b => hf2 q (by omega) (by omega))
      have hw3 : WeekSh S J2 60 := w60.other (fun q a b => hg2 q (by omega) (by omega) (by omega) (by omega) (by omega) (by omega))
      refine V_aload_n rfl dX5_init_139 ?_
      refine gf_X5_31 (by assumption) (by assumption) rfl dX5_init_140 ?_
      refine V_aload_n rfl dX5_init_143 ?_
      refine gf_X5_41 (by assumption) (by assumption) rfl dX5_init_144 ?_
      refine cl_X5_77 (C_begin hT3 hw3 tol_ok (show aprt 70 60 by unfold aprt; omega)) (by assumption) rfl rfl fitS (Nat.le_of_ble_eq_true rfl) dX5_init_147 (fun rr2 s7 J3 hq3 => ?_)
      obtain ⟨rfl, hs, p1, hf3⟩ := hq3
      have hs := hs.symm
      subst hs
      unfold outW at hf3
      show V X _ S J3 150 _ []
      have hX4 : Tab S J3 2 3 200 1 44 := ((hX.1.other (hf1 2 (by decide) (by decide) (by decide) (by omega))).other (hf2 2 (by omega) (by omega))).other (hf3 2 (by omega))
      refine V_aload_n rfl dX5_init_150 ?_
      refine gf_X5_10 (by assumption) (by assumption) rfl dX5_init_151 ?_
      refine gf_X5_56 (by assumption) (by assumption) rfl dX5_init_154 ?_
      refine cf_X5_81 (C_clear hX4) (by assumption) rfl rfl fitS (Nat.le_of_ble_eq_true rfl) dX5_init_157 ?_
      refine V_vret rfl (by show S.1 = sg.1 + 91; omega) (by show S.2.1 = sg.2.1 + 2216; omega) ?_ dX5_init_160
      obtain ⟨U, hU⟩ : ∃ U, U = upI J3 2 3 (nI 0) := ⟨_, rfl⟩
      rw [← hU]
      have hfu : ∀ q, q ≠ 2 → U q = J3 q := fun q h => by rw [hU]; exact funext fun k => upI_ne (Or.inl h)
      have hg3 : ∀ q, q ≠ 1 → q ≠ 2 → q ≠ 3 → q ≠ 4 → q ≠ 5 → (q < 60 ∨ (65 ≤ q ∧ q < 70) ∨ 81 ≤ q) → U q = J0 q := fun q z1 z2 z3 z4 z5 z6 => (hfu q z2).trans ((hf3 q (by omega)).trans (hg2 q z1 z2 z3 z4 z5 (by omega)))
      obtain ⟨m, hm⟩ := hm
      refine ⟨rfl, n1, n2, ⟨hC0, ⟨by rw [hU]; exact hX4.resize (fun k hk => upI_ne (Or.inr hk)) upI_eq (Nat.zero_le _), fun i hi => absurd hi (Nat.not_lt_zero i)⟩, ⟨m, ((hm.other (hf2 4 (by omega) (by omega))).other (hf3 4 (by omega))).other (hfu 4 (by decide))⟩, s6.other (fun q _ _ => hg3 q (by omega) (by omega) (by omega) (by omega) (by omega) (by omega)), s48.other (fun q _ _ => hg3 q (by omega) (by omega) (by omega) (by omega) (by omega) (by omega)), p1.other (fun q _ _ => hfu q (by omega)), w65.other (fun q _ _ => hg3 q (by omega) (by omega) (by omega) (by omega) (by omega) (by omega)), ⟨(hT3.other (fun q _ _ => hf3 q (by omega))).other (fun q _ _ => hfu q (by omega)), (q1.other (fun q _ _ => hf3 q (by omega))).other (fun q _ _ => hfu q (by omega))⟩, T81.other (fun q _ _ => hg3 q (by omega) (by omega) (by omega) (by omega) (by omega) (by omega))⟩⟩
    | succ d ih =>
      intro i J hd hi hX hf
      have hil : i < 44 := by omega
      have hXt := hX.1
      refine V_iload_n rfl dX5_init_86 ?_
      refine V_ldcS hSW rfl dX5_init_87 ?_
      refine V_callVs (As := []) hSW S_length rfl wl_X5_50 ws_J0_length_8abf5 we_J0_length_8abf5 wi_J0 wc_J0_length_8abf5 wn_J0_length_8abf5 rfl fitS (Nat.le_of_ble_eq_true rfl) dX5_init_89 rfl (fun r s1 I1 h => ?_)
      obtain ⟨rfl, hs1, rfl⟩ := h
      have hs1 := hs1.symm
      subst hs1
      show V X _ S I1 92 _ [.int (nI 44), .int (nI _)]
      refine V_icmp_geN 120 dX5_init_92 (by decide) (by omega) (by omega) (fun h92 => absurd h92 (by omega)) (fun h92 => ?_)
      refine V_aload_n rfl dX5_init_95 ?_
      refine gf_X5_10 (by assumption) (by assumption) rfl dX5_init_96 ?_
      refine gf_X5_56 (by assumption) (by assumption) rfl dX5_init_99 ?_
      refine V_ldcS hSW rfl dX5_init_102 ?_
      refine V_iload_n rfl dX5_init_104 ?_
      refine V_callVs (As := [.int (nI i)]) hSW (S_charAt hil) rfl wl_X5_60 ws_J0_charAt_5068e we_J0_charAt_5068e wi_J0 wc_J0_charAt_5068e wn_J0_charAt_5068e rfl fitS (Nat.le_of_ble_eq_true rfl) dX5_init_105 rfl (fun r s1 I1 h => ?_)
      obtain ⟨rfl, hs1, rfl⟩ := h
      have hs1 := hs1.symm
      subst hs1
      show V X _ S I1 108 _ [.int (nI (fsT.getD i 0)), rf g 2]
      refine V_iconst (nI 0) (by decide) dX5_init_108 ?_
      refine V_iconst (nI 0) (by decide) dX5_init_109 ?_
      refine cl_X5_64 (C_add hXt) (by assumption) rfl rfl fitS (Nat.le_of_ble_eq_true rfl) dX5_init_110 (fun rr s9 J1 hq => ?_)
      obtain ⟨hs, hq⟩ := hq
      have hs := hs.symm
      subst hs
      rcases hq with ⟨a1, rfl, a2, a3, a4, a5⟩ | ⟨a1, rfl, rfl⟩
      · show V X _ S J1 113 _ [.int (nI 1)]
        refine V_pop rfl dX5_init_113 ?_
        refine V_iinc1_ _ (nI_inc _) rfl rfl dX5_init_114 ?_
        refine V_goto 86 dX5_init_117 (by decide) ?_
        refine ih (i + 1) J1 (by omega) (by omega) ⟨a2, fun k hk => ?_⟩ (fun q h1 h2 => (a5 q h1 h2).trans (hf q h1 h2))
        have hk2 : k < i + 1 := hk
        show _ = nI (fsT.getD k 0)
        by_cases c : k = i
        · rw [c, a4 0 (by decide)]; rfl
        · rw [a3 _ (by omega)]; exact hX.2 k (show k < i by omega)
      · exact absurd a1 (by show ¬ _; omega)
  refine V_iconst (nI 0) (by decide) dX5_init_84 ?_
  refine V_ist1 rfl rfl dX5_init_85 ?_
  exact loop 44 0 J0 rfl (Nat.zero_le _) ⟨t2, fun i hi => absurd hi (Nat.not_lt_zero i)⟩ (fun _ _ _ => rfl)
theorem N_weeks (hk : (sg.2.2.1 0).1 = 5) (hn : sg.1 = 1) : CtS (m_X5i 7 91 2216) g ak av [rf g 0] sg I (inQ sg) := by
  refine CtS.of rfl (Nat.le_of_ble_eq_true rfl) fun X hSW => ?_
  show V X _ sg I 0 [some (rf g 0), none] []
  have hkS0 := hk
  refine V_aload_n rfl dX5_init_0 ?_
  refine V_objInit wl_X5_1 ws_obj wc_obj (Nat.le_of_ble_eq_true rfl) (Nat.le_of_ble_eq_true rfl) dX5_init_1 ?_
  refine V_aload_n rfl dX5_init_4 ?_
  refine V_new 2 (by decide) wk_c_X5_7 wk_i_X2 wi_X2 hdf2 ⟨by show sg.1 - sg.1 + 1 ≤ 91; omega, by show sg.2.1 - sg.2.1 + 3 ≤ 2216; omega⟩ dX5_init_5 ?_
  refine V_dup rfl dX5_init_8 ?_
  refine ci_X5_9 3 4 211 (N_text freshk rfl) rfl rfl ⟨by show sg.1 + 1 - sg.1 + 4 ≤ 91; omega, by show sg.2.1 + 3 - sg.2.1 + 211 ≤ 2216; omega⟩ (Nat.le_of_ble_eq_true rfl) dX5_init_9 (fun r T1 J1 hq => ?_)
  obtain ⟨rfl, a0, b0, ⟨x1, x2, x3⟩, x4, x5, k0, j0⟩ := hq
  have a0 : T1.1 = 6 := by have h : T1.1 = sg.1 + 1 + 4 := a0; omega
  have b0 : T1.2.1 = sg.2.1 + 214 := by have h : T1.2.1 = sg.2.1 + 3 + 211 := b0; omega
  have hk0c : (T1.2.2.1 0).1 = 5 := by rw [(k0 0 (Nat.zero_le _) (by omega)).1, kind_ne (by omega)]; exact hkS0
  show V X _ T1 J1 12 _ [rf g sg.1, rf g 0]
  refine pf_X5_10 (by assumption) rfl rfl dX5_init_12 ?_
  obtain ⟨S1, hS1⟩ : ∃ S1, S1 = sgR T1 (upR T1.2.2.2 0 0 (some sg.1)) := ⟨_, rfl⟩
  rw [← hS1]
  have kr0 := kr_step (j := 0) (show 0 < sg.1 by omega) k0
  rw [← hS1] at kr0
  have nS1 : S1.1 = 6 := by rw [hS1]; exact a0
  have uS1 : S1.2.1 = sg.2.1 + 214 := by rw [hS1]; exact b0
  have r0 : S1.2.2.2 0 0 = some 1 := by rw [hS1, show sg.1 = 1 by omega]; exact upR_eq (R := T1.2.2.2) (q := 0) (k := 0)
  have kf0 : Keep T1 S1 J1 J1 1 6 := by rw [hS1]; exact keepR (Or.inl (by decide))
  have hkS1 : (S1.2.2.1 0).1 = 5 := by rw [kr0.1 0 (by omega)]; exact hkS0
  refine V_aload_n rfl dX5_init_15 ?_
  refine V_new 0 (by decide) wk_c_X5_16 wk_i_X0 wi_X0 hdf0 ⟨by show S1.1 - sg.1 + 1 ≤ 91; omega, by show S1.2.1 - sg.2.1 + 3 ≤ 2216; omega⟩ dX5_init_16 ?_
  refine V_dup rfl dX5_init_19 ?_
  refine V_bipush (nI 8) (by decide) dX5_init_20 ?_
  refine ci_X5_18 4 (1 + 5 * 8) (8 + 65 * 8) (N_shelf (M := 8) freshk rfl (by decide) (by decide)) rfl rfl ⟨by show S1.1 + 1 - sg.1 + 41 ≤ 91; omega, by show S1.2.1 + 3 - sg.2.1 + 528 ≤ 2216; omega⟩ (Nat.le_of_ble_eq_true rfl) dX5_init_22 (fun r T2 J2 hq => ?_)
  obtain ⟨rfl, a1, b1, t1, k1, j1⟩ := hq
  have a1 : T2.1 = 48 := by have h : T2.1 = S1.1 + 1 + 41 := a1; omega
  have b1 : T2.2.1 = sg.2.1 + 745 := by have h : T2.2.1 = S1.2.1 + 3 + 528 := b1; omega
  have hk1c : (T2.2.2.1 0).1 = 5 := by rw [(k1 0 (Nat.zero_le _) (by omega)).1, kind_ne (by omega)]; exact hkS1
  show V X _ T2 J2 25 _ [rf g S1.1, rf g 0]
  refine pf_X5_21 (by assumption) rfl rfl dX5_init_25 ?_
  obtain ⟨S2, hS2⟩ : ∃ S2, S2 = sgR T2 (upR T2.2.2.2 0 1 (some S1.1)) := ⟨_, rfl⟩
  rw [← hS2]
  have kr1 := kr_step (j := 1) (show 0 < S1.1 by omega) k1
  rw [← hS2] at kr1
  have nS2 : S2.1 = 48 := by rw [hS2]; exact a1
  have uS2 : S2.2.1 = sg.2.1 + 745 := by rw [hS2]; exact b1
  have r1 : S2.2.2.2 0 1 = some 6 := by rw [hS2, show S1.1 = 6 by omega]; exact upR_eq (R := T2.2.2.2) (q := 0) (k := 1)
  have kf1 : Keep T2 S2 J2 J2 1 48 := by rw [hS2]; exact keepR (Or.inl (by decide))
  have hkS2 : (S2.2.2.1 0).1 = 5 := by rw [kr1.1 0 (by omega)]; exact hkS1
  refine V_aload_n rfl dX5_init_28 ?_
  refine V_new 0 (by decide) wk_c_X5_16 wk_i_X0 wi_X0 hdf0 ⟨by show S2.1 - sg.1 + 1 ≤ 91; omega, by show S2.2.1 - sg.2.1 + 3 ≤ 2216; omega⟩ dX5_init_29 ?_
  refine V_dup rfl dX5_init_32 ?_
  refine V_iconst (nI 2) (by decide) dX5_init_33 ?_
  refine ci_X5_18 4 (1 + 5 * 2) (2 + 65 * 2) (N_shelf (M := 2) freshk rfl (by decide) (by decide)) rfl rfl ⟨by show S2.1 + 1 - sg.1 + 11 ≤ 91; omega, by show S2.2.1 + 3 - sg.2.1 + 132 ≤ 2216; omega⟩ (Nat.le_of_ble_eq_true rfl) dX5_init_34 (fun r T3 J3 hq => ?_)
  obtain ⟨rfl, a2, b2, t2, k2, j2⟩ := hq
  have a2 : T3.1 = 60 := by have h : T3.1 = S2.1 + 1 + 11 := a2; omega
  have b2 : T3.2.1 = sg.2.1 + 880 := by have h : T3.2.1 = S2.2.1 + 3 + 132 := b2; omega
  have hk2c : (T3.2.2.1 0).1 = 5 := by rw [(k2 0 (Nat.zero_le _) (by omega)).1, kind_ne (by omega)]; exact hkS2
  show V X _ T3 J3 37 _ [rf g S2.1, rf g 0]
  refine pf_X5_25 (by assumption) rfl rfl dX5_init_37 ?_
  obtain ⟨S3, hS3⟩ : ∃ S3, S3 = sgR T3 (upR T3.2.2.2 0 2 (some S2.1)) := ⟨_, rfl⟩
  rw [← hS3]
  have kr2 := kr_step (j := 2) (show 0 < S2.1 by omega) k2
  rw [← hS3] at kr2
  have nS3 : S3.1 = 60 := by rw [hS3]; exact a2
  have uS3 : S3.2.1 = sg.2.1 + 880 := by rw [hS3]; exact b2
  have r2 : S3.2.2.2 0 2 = some 48 := by rw [hS3, show S2.1 = 48 by omega]; exact upR_eq (R := T3.2.2.2) (q := 0) (k := 2)
  have kf2 : Keep T3 S3 J3 J3 1 60 := by rw [hS3]; exact keepR (Or.inl (by decide))
  have hkS3 : (S3.2.2.1 0).1 = 5 := by rw [kr2.1 0 (by omega)]; exact hkS2
  refine V_aload_n rfl dX5_init_40 ?_
  refine V_new 4 (by decide) wk_c_X5_28 wk_i_X4 wi_X4 hdf4 ⟨by show S3.1 - sg.1 + 1 ≤ 91; omega, by show S3.2.1 - sg.2.1 + 4 ≤ 2216; omega⟩ dX5_init_41 ?_
  refine V_dup rfl dX5_init_44 ?_
  refine ci_X5_30 3 4 61 (N_week freshk rfl) rfl rfl ⟨by show S3.1 + 1 - sg.1 + 4 ≤ 91; omega, by show S3.2.1 + 4 - sg.2.1 + 61 ≤ 2216; omega⟩ (Nat.le_of_ble_eq_true rfl) dX5_init_45 (fun r T4 J4 hq => ?_)
  obtain ⟨rfl, a3, b3, t3, k3, j3⟩ := hq
  have a3 : T4.1 = 65 := by have h : T4.1 = S3.1 + 1 + 4 := a3; omega
  have b3 : T4.2.1 = sg.2.1 + 945 := by have h : T4.2.1 = S3.2.1 + 4 + 61 := b3; omega
  have hk3c : (T4.2.2.1 0).1 = 5 := by rw [(k3 0 (Nat.zero_le _) (by omega)).1, kind_ne (by omega)]; exact hkS3
  show V X _ T4 J4 48 _ [rf g S3.1, rf g 0]
  refine pf_X5_31 (by assumption) rfl rfl dX5_init_48 ?_
  obtain ⟨S4, hS4⟩ : ∃ S4, S4 = sgR T4 (upR T4.2.2.2 0 3 (some S3.1)) := ⟨_, rfl⟩
  rw [← hS4]
  have kr3 := kr_step (j := 3) (show 0 < S3.1 by omega) k3
  rw [← hS4] at kr3
  have nS4 : S4.1 = 65 := by rw [hS4]; exact a3
  have uS4 : S4.2.1 = sg.2.1 + 945 := by rw [hS4]; exact b3
  have r3 : S4.2.2.2 0 3 = some 60 := by rw [hS4, show S3.1 = 60 by omega]; exact upR_eq (R := T4.2.2.2) (q := 0) (k := 3)
  have kf3 : Keep T4 S4 J4 J4 1 65 := by rw [hS4]; exact keepR (Or.inl (by decide))
  have hkS4 : (S4.2.2.1 0).1 = 5 := by rw [kr3.1 0 (by omega)]; exact hkS3
  refine V_aload_n rfl dX5_init_51 ?_
  refine V_new 4 (by decide) wk_c_X5_28 wk_i_X4 wi_X4 hdf4 ⟨by show S4.1 - sg.1 + 1 ≤ 91; omega, by show S4.2.1 - sg.2.1 + 4 ≤ 2216; omega⟩ dX5_init_52 ?_
  refine V_dup rfl dX5_init_55 ?_
  refine ci_X5_30 3 4 61 (N_week freshk rfl) rfl rfl ⟨by show S4.1 + 1 - sg.1 + 4 ≤ 91; omega, by show S4.2.1 + 4 - sg.2.1 + 61 ≤ 2216; omega⟩ (Nat.le_of_ble_eq_true rfl) dX5_init_56 (fun r T5 J5 hq => ?_)
  obtain ⟨rfl, a4, b4, t4, k4, j4⟩ := hq
  have a4 : T5.1 = 70 := by have h : T5.1 = S4.1 + 1 + 4 := a4; omega
  have b4 : T5.2.1 = sg.2.1 + 1010 := by have h : T5.2.1 = S4.2.1 + 4 + 61 := b4; omega
  have hk4c : (T5.2.2.1 0).1 = 5 := by rw [(k4 0 (Nat.zero_le _) (by omega)).1, kind_ne (by omega)]; exact hkS4
  show V X _ T5 J5 59 _ [rf g S4.1, rf g 0]
  refine pf_X5_35 (by assumption) rfl rfl dX5_init_59 ?_
  obtain ⟨S5, hS5⟩ : ∃ S5, S5 = sgR T5 (upR T5.2.2.2 0 4 (some S4.1)) := ⟨_, rfl⟩
  rw [← hS5]
  have kr4 := kr_step (j := 4) (show 0 < S4.1 by omega) k4
  rw [← hS5] at kr4
  have nS5 : S5.1 = 70 := by rw [hS5]; exact a4
  have uS5 : S5.2.1 = sg.2.1 + 1010 := by rw [hS5]; exact b4
  have r4 : S5.2.2.2 0 4 = some 65 := by rw [hS5, show S4.1 = 65 by omega]; exact upR_eq (R := T5.2.2.2) (q := 0) (k := 4)
  have kf4 : Keep T5 S5 J5 J5 1 70 := by rw [hS5]; exact keepR (Or.inl (by decide))
  have hkS5 : (S5.2.2.1 0).1 = 5 := by rw [kr4.1 0 (by omega)]; exact hkS4
  refine V_aload_n rfl dX5_init_62 ?_
  refine V_new 3 (by decide) wk_c_X5_38 wk_i_X3 wi_X3 hdf3 ⟨by show S5.1 - sg.1 + 1 ≤ 91; omega, by show S5.2.1 - sg.2.1 + 8 ≤ 2216; omega⟩ dX5_init_63 ?_
  refine V_dup rfl dX5_init_66 ?_
  refine ci_X5_40 3 10 595 (N_town freshk rfl) rfl rfl ⟨by show S5.1 + 1 - sg.1 + 10 ≤ 91; omega, by show S5.2.1 + 8 - sg.2.1 + 595 ≤ 2216; omega⟩ (Nat.le_of_ble_eq_true rfl) dX5_init_67 (fun r T6 J6 hq => ?_)
  obtain ⟨rfl, a5, b5, t5, k5, j5⟩ := hq
  have a5 : T6.1 = 81 := by have h : T6.1 = S5.1 + 1 + 10 := a5; omega
  have b5 : T6.2.1 = sg.2.1 + 1613 := by have h : T6.2.1 = S5.2.1 + 8 + 595 := b5; omega
  have hk5c : (T6.2.2.1 0).1 = 5 := by rw [(k5 0 (Nat.zero_le _) (by omega)).1, kind_ne (by omega)]; exact hkS5
  show V X _ T6 J6 70 _ [rf g S5.1, rf g 0]
  refine pf_X5_41 (by assumption) rfl dX5_init_70 ?_
  obtain ⟨S6, hS6⟩ : ∃ S6, S6 = sgR T6 (upR T6.2.2.2 0 5 (some S5.1)) := ⟨_, rfl⟩
  rw [← hS6]
  have kr5 := kr_step (j := 5) (show 0 < S5.1 by omega) k5
  rw [← hS6] at kr5
  have nS6 : S6.1 = 81 := by rw [hS6]; exact a5
  have uS6 : S6.2.1 = sg.2.1 + 1613 := by rw [hS6]; exact b5
  have r5 : S6.2.2.2 0 5 = some 70 := by rw [hS6, show S5.1 = 70 by omega]; exact upR_eq (R := T6.2.2.2) (q := 0) (k := 5)
  have kf5 : Keep T6 S6 J6 J6 1 81 := by rw [hS6]; exact keepR (Or.inl (by decide))
  have hkS6 : (S6.2.2.1 0).1 = 5 := by rw [kr5.1 0 (by omega)]; exact hkS5
  refine V_aload_n rfl dX5_init_73 ?_
  refine V_new 3 (by decide) wk_c_X5_38 wk_i_X3 wi_X3 hdf3 ⟨by show S6.1 - sg.1 + 1 ≤ 91; omega, by show S6.2.1 - sg.2.1 + 8 ≤ 2216; omega⟩ dX5_init_74 ?_
  refine V_dup rfl dX5_init_77 ?_
  refine ci_X5_40 3 10 595 (N_town freshk rfl) rfl rfl ⟨by show S6.1 + 1 - sg.1 + 10 ≤ 91; omega, by show S6.2.1 + 8 - sg.2.1 + 595 ≤ 2216; omega⟩ (Nat.le_of_ble_eq_true rfl) dX5_init_78 (fun r T7 J7 hq => ?_)
  obtain ⟨rfl, a6, b6, t6, k6, j6⟩ := hq
  have a6 : T7.1 = 92 := by have h : T7.1 = S6.1 + 1 + 10 := a6; omega
  have b6 : T7.2.1 = sg.2.1 + 2216 := by have h : T7.2.1 = S6.2.1 + 8 + 595 := b6; omega
  have hk6c : (T7.2.2.1 0).1 = 5 := by rw [(k6 0 (Nat.zero_le _) (by omega)).1, kind_ne (by omega)]; exact hkS6
  show V X _ T7 J7 81 _ [rf g S6.1, rf g 0]
  refine pf_X5_45 (by assumption) rfl dX5_init_81 ?_
  obtain ⟨S7, hS7⟩ : ∃ S7, S7 = sgR T7 (upR T7.2.2.2 0 6 (some S6.1)) := ⟨_, rfl⟩
  rw [← hS7]
  have kr6 := kr_step (j := 6) (show 0 < S6.1 by omega) k6
  rw [← hS7] at kr6
  have nS7 : S7.1 = 92 := by rw [hS7]; exact a6
  have uS7 : S7.2.1 = sg.2.1 + 2216 := by rw [hS7]; exact b6
  have r6 : S7.2.2.2 0 6 = some 81 := by rw [hS7, show S6.1 = 81 by omega]; exact upR_eq (R := T7.2.2.2) (q := 0) (k := 6)
  have kf6 : Keep T7 S7 J7 J7 1 92 := by rw [hS7]; exact keepR (Or.inl (by decide))
  have hkS7 : (S7.2.2.1 0).1 = 5 := by rw [kr6.1 0 (by omega)]; exact hkS6
  have KF0 : Keep T1 S7 J1 J7 1 6 := ((((((kf0).trans (kr1.kp2.sub (by decide) (by omega))).trans (kr2.kp2.sub (by decide) (by omega))).trans (kr3.kp2.sub (by decide) (by omega))).trans (kr4.kp2.sub (by decide) (by omega))).trans (kr5.kp2.sub (by decide) (by omega))).trans (kr6.kp2.sub (by decide) (by omega))
  have KF1 : Keep T2 S7 J2 J7 1 48 := (((((kf1).trans (kr2.kp2.sub (by decide) (by omega))).trans (kr3.kp2.sub (by decide) (by omega))).trans (kr4.kp2.sub (by decide) (by omega))).trans (kr5.kp2.sub (by decide) (by omega))).trans (kr6.kp2.sub (by decide) (by omega))
  have KF2 : Keep T3 S7 J3 J7 1 60 := ((((kf2).trans (kr3.kp2.sub (by decide) (by omega))).trans (kr4.kp2.sub (by decide) (by omega))).trans (kr5.kp2.sub (by decide) (by omega))).trans (kr6.kp2.sub (by decide) (by omega))
  have KF3 : Keep T4 S7 J4 J7 1 65 := (((kf3).trans (kr4.kp2.sub (by decide) (by omega))).trans (kr5.kp2.sub (by decide) (by omega))).trans (kr6.kp2.sub (by decide) (by omega))
  have KF4 : Keep T5 S7 J5 J7 1 70 := ((kf4).trans (kr5.kp2.sub (by decide) (by omega))).trans (kr6.kp2.sub (by decide) (by omega))
  have KF5 : Keep T6 S7 J6 J7 1 81 := (kf5).trans (kr6.kp2.sub (by decide) (by omega))
  have KF6 : Keep T7 S7 J7 J7 1 92 := kf6
  have R0 : S7.2.2.2 0 0 = some 1 := ((kr6.2.2.1 0 (by decide)).trans (((kr5.2.2.1 0 (by decide)).trans (((kr4.2.2.1 0 (by decide)).trans (((kr3.2.2.1 0 (by decide)).trans (((kr2.2.2.1 0 (by decide)).trans (((kr1.2.2.1 0 (by decide)).trans (r0))))))))))))
  have R1 : S7.2.2.2 0 1 = some 6 := ((kr6.2.2.1 1 (by decide)).trans (((kr5.2.2.1 1 (by decide)).trans (((kr4.2.2.1 1 (by decide)).trans (((kr3.2.2.1 1 (by decide)).trans (((kr2.2.2.1 1 (by decide)).trans (r1))))))))))
  have R2 : S7.2.2.2 0 2 = some 48 := ((kr6.2.2.1 2 (by decide)).trans (((kr5.2.2.1 2 (by decide)).trans (((kr4.2.2.1 2 (by decide)).trans (((kr3.2.2.1 2 (by decide)).trans (r2))))))))
  have R3 : S7.2.2.2 0 3 = some 60 := ((kr6.2.2.1 3 (by decide)).trans (((kr5.2.2.1 3 (by decide)).trans (((kr4.2.2.1 3 (by decide)).trans (r3))))))
  have R4 : S7.2.2.2 0 4 = some 65 := ((kr6.2.2.1 4 (by decide)).trans (((kr5.2.2.1 4 (by decide)).trans (r4))))
  have R5 : S7.2.2.2 0 5 = some 70 := ((kr6.2.2.1 5 (by decide)).trans (r5))
  have R6 : S7.2.2.2 0 6 = some 81 := r6
  have e0 : sg.1 = 1 := by omega
  have e1 : S1.1 = 6 := by omega
  have e2 : S2.1 = 48 := by omega
  have e3 : S3.1 = 60 := by omega
  have e4 : S4.1 = 65 := by omega
  have e5 : S5.1 = 70 := by omega
  have e6 : S6.1 = 81 := by omega
  rw [e0] at x1 x2 x3 x4 x5
  rw [e1] at t1 j1
  rw [e2] at t2 j2
  rw [e3] at t3
  rw [e4] at t4
  rw [e5] at t5
  rw [e6] at t6
  have K1 := KF0 1 (by decide) (by decide)
  have K6 := KF1 6 (by decide) (by decide)
  have K48 := KF2 48 (by decide) (by decide)
  have z6 : ∀ k, J7 6 k = 0 := fun k => by rw [K6.2.2, j1]; exact if_pos e1.symm
  have z48 : ∀ k, J7 48 k = 0 := fun k => by rw [K48.2.2, j2]; exact if_pos e2.symm
  exact init_tail X hSW hn nS7 uS7 ⟨hkS7, R0, R1, R2, R3, R4, R5, R6, Or.inl ⟨rfl, rfl⟩, by rw [K1.1]; exact x1, by rw [K1.2.1]; exact x2, by rw [K1.2.1]; exact x3⟩ (x4.kp KF0 (by decide) (by decide) (by decide) (by decide)) (x5.kp KF0 (by decide) (by decide) (by decide) (by decide)) (CShelf.new (t1.1.kp KF1 (by decide) (by decide)) (fun i hi => (t1.2 i hi).kp KF1 (by omega) (by omega)) (z6 2) (z6 1)) (CShelf.new (t2.1.kp KF2 (by decide) (by decide)) (fun i hi => (t2.2 i hi).kp KF2 (by omega) (by omega)) (z48 2) (z48 1)) (t3.kp KF3 (by decide) (by decide)) (t4.kp KF4 (by decide) (by decide)) (t5.kp KF5 (by decide) (by decide)) (t6.kp KF6 (by decide) (by decide))
end CINIT
