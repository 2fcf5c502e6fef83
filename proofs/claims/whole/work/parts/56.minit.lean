/-! a new model -/
theorem tv0_n : (tF tv0 = 3 ∧ tX tv0 = 3 ∧ (tL tv0).1 = 2) ∧ (tP tv0).1 = 2 ∧ (tS tv0).1 = 2 ∧ (tB tv0).1 = 0 := by decide +kernel
theorem tv0_l : (tL tv0).2 0 0 = 0 ∧ (tL tv0).2 0 1 = 2 ∧ (tL tv0).2 1 0 = 4 ∧ (tL tv0).2 1 1 = 1 := by decide +kernel
theorem tv0_p : (tP tv0).2 0 0 = 20 ∧ (tP tv0).2 0 1 = 1 ∧ (tP tv0).2 1 0 = 9 ∧ (tP tv0).2 1 1 = 5 := by decide +kernel
theorem tv0_s : ((tS tv0).2 0 0 = 3 ∧ (tS tv0).2 0 1 = 4 ∧ (tS tv0).2 0 2 = 0) ∧ (tS tv0).2 1 0 = 2 ∧ (tS tv0).2 1 1 = 2 ∧ (tS tv0).2 1 2 = 1 := by decide +kernel
theorem kr_arr {S : SG} {J : IM} {q j u : Nat} {s : Nat × Nat} (hq : q < S.1) : KR S (sgR (sgN S u s) (upR (sgN S u s).2.2.2 q j (some S.1))) J (imN S J) q j := by
  have hK := keepN (S := S) (J := J) (u := u) (s := s)
  refine ⟨fun p hp => (hK p (Nat.zero_le _) hp).1, fun p hp hne => ⟨?_, (hK p (Nat.zero_le _) hp).2.2⟩, fun i hi => ?_, (hK q (Nat.zero_le _) hq).2.2⟩
  · rw [← (hK p (Nat.zero_le _) hp).2.1]
    exact funext fun k => upR_ne (Or.inl hne)
  · rw [← (hK q (Nat.zero_le _) hq).2.1]
    exact upR_ne (Or.inr hi)
def AR (S : SG) (q n j c N : Nat) : Prop := S.2.2.2 q j = some n ∧ S.2.2.1 n = (c, N)
theorem ar_step {S : SG} {q j u c N : Nat} : AR (sgR (sgN S u (c, N)) (upR (sgN S u (c, N)).2.2.2 q j (some S.1))) q S.1 j c N := ⟨upR_eq, fresh1 (u := u)⟩
theorem AR.kr {S S2 : SG} {J J2 : IM} {q n j j2 c N : Nat} (h : AR S q n j c N) (k : KR S S2 J J2 q j2) (hj : j ≠ j2) (hn : n < S.1) : AR S2 q n j c N := ⟨(k.2.2.1 j hj).trans h.1, (k.1 n hn).trans h.2⟩
section MINIT
variable {g : GC} {sg : SG} {I : IM}
def mnQ (sg : SG) (I : IM) : Option Value → SG → IM → Prop := fun r0 s0 J => r0 = none ∧ s0.1 = 103 ∧ s0.2.1 = sg.2.1 + 1277 ∧ MSt s0 J xs0 tv0 w0V st0S st0S ∧ Keep sg s0 I J 0 92
theorem m_tail {S : SG} {J0 : IM} (X : Cx (m_X6i 4 10 1277) g sg) (n0 : sg.1 = 93) (n1 : S.1 = 103) (n2 : S.2.1 = sg.2.1 + 1277) (hK : MK S) (h0 : J0 92 0 = 0) (hKp : Keep sg S I J0 0 92) : V X (ZQ X (mnQ sg I)) S J0 86 [some (rf g 92)] [] := by
  have hK0 := hK
  obtain ⟨m0, mR1, mR3, mR4, mR5, mR6, mR7, mR8, mR10, mR16, mR17, mA93, mA94, mA95, mA96, mA97, mA98, mA99, mA100, mA101, mA102⟩ := hK
  have fitS : S.1 - sg.1 + 0 ≤ 10 ∧ S.2.1 - sg.2.1 + 0 ≤ 1277 := ⟨by omega, by omega⟩
  refine V_aload_n rfl dX6_init_86 ?_
  refine cl_X6_42 (D_begins hK0) (by assumption) rfl rfl fitS (Nat.le_of_ble_eq_true rfl) dX6_init_87 (fun rr s9 J9 hq => ?_)
  obtain ⟨rfl, hs, hB, hf, hfo⟩ := hq
  have hs := hs.symm
  subst hs
  obtain ⟨b7, b8, b9, b10, b11, b12, b13, -, -, -, -⟩ := hB
  show V X _ S J9 90 _ []
  refine V_aload_n rfl dX6_init_90 ?_
  refine gf_X6_13 (by assumption) (by assumption) rfl dX6_init_91 ?_
  refine V_bipush (nI 7) (by decide) dX6_init_94 ?_
  refine V_iconst (nI 3) (by decide) dX6_init_96 ?_
  refine V_iast _ (by assumption) rfl (by omega) (by omega) dX6_init_97 ?_
  refine V_aload_n rfl dX6_init_98 ?_
  refine gf_X6_13 (by assumption) (by assumption) rfl dX6_init_99 ?_
  refine V_bipush (nI 8) (by decide) dX6_init_102 ?_
  refine V_iconst (nI 2) (by decide) dX6_init_104 ?_
  refine V_iast _ (by assumption) rfl (by omega) (by omega) dX6_init_105 ?_
  refine V_aload_n rfl dX6_init_106 ?_
  refine gf_X6_17 (by assumption) (by assumption) rfl dX6_init_107 ?_
  refine V_bipush (nI 20) (by decide) dX6_init_110 ?_
  refine V_iconst (nI 0) (by decide) dX6_init_112 ?_
  refine V_iast _ (by assumption) rfl (by omega) (by omega) dX6_init_113 ?_
  refine V_aload_n rfl dX6_init_114 ?_
  refine gf_X6_17 (by assumption) (by assumption) rfl dX6_init_115 ?_
  refine V_bipush (nI 21) (by decide) dX6_init_118 ?_
  refine V_iconst (nI 2) (by decide) dX6_init_120 ?_
  refine V_iast _ (by assumption) rfl (by omega) (by omega) dX6_init_121 ?_
  refine V_aload_n rfl dX6_init_122 ?_
  refine gf_X6_17 (by assumption) (by assumption) rfl dX6_init_123 ?_
  refine V_bipush (nI 22) (by decide) dX6_init_126 ?_
  refine V_iconst (nI 4) (by decide) dX6_init_128 ?_
  refine V_iast _ (by assumption) rfl (by omega) (by omega) dX6_init_129 ?_
  refine V_aload_n rfl dX6_init_130 ?_
  refine gf_X6_17 (by assumption) (by assumption) rfl dX6_init_131 ?_
  refine V_bipush (nI 23) (by decide) dX6_init_134 ?_
  refine V_iconst (nI 1) (by decide) dX6_init_136 ?_
  refine V_iast _ (by assumption) rfl (by omega) (by omega) dX6_init_137 ?_
  refine V_aload_n rfl dX6_init_138 ?_
  refine gf_X6_13 (by assumption) (by assumption) rfl dX6_init_139 ?_
  refine V_bipush (nI 12) (by decide) dX6_init_142 ?_
  refine V_iconst (nI 3) (by decide) dX6_init_144 ?_
  refine V_iast _ (by assumption) rfl (by omega) (by omega) dX6_init_145 ?_
  refine V_aload_n rfl dX6_init_146 ?_
  refine gf_X6_13 (by assumption) (by assumption) rfl dX6_init_147 ?_
  refine V_bipush (nI 9) (by decide) dX6_init_150 ?_
  refine V_iconst (nI 2) (by decide) dX6_init_152 ?_
  refine V_iast _ (by assumption) rfl (by omega) (by omega) dX6_init_153 ?_
  refine V_aload_n rfl dX6_init_154 ?_
  refine gf_X6_20 (by assumption) (by assumption) rfl dX6_init_155 ?_
  refine V_bipush (nI 10) (by decide) dX6_init_158 ?_
  refine V_bipush (nI 20) (by decide) dX6_init_160 ?_
  refine V_iast _ (by assumption) rfl (by omega) (by omega) dX6_init_162 ?_
  refine V_aload_n rfl dX6_init_163 ?_
  refine gf_X6_20 (by assumption) (by assumption) rfl dX6_init_164 ?_
  refine V_bipush (nI 11) (by decide) dX6_init_167 ?_
  refine V_iconst (nI 1) (by decide) dX6_init_169 ?_
  refine V_iast _ (by assumption) rfl (by omega) (by omega) dX6_init_170 ?_
  refine V_aload_n rfl dX6_init_171 ?_
  refine gf_X6_20 (by assumption) (by assumption) rfl dX6_init_172 ?_
  refine V_bipush (nI 12) (by decide) dX6_init_175 ?_
  refine V_bipush (nI 9) (by decide) dX6_init_177 ?_
  refine V_iast _ (by assumption) rfl (by omega) (by omega) dX6_init_179 ?_
  refine V_aload_n rfl dX6_init_180 ?_
  refine gf_X6_20 (by assumption) (by assumption) rfl dX6_init_181 ?_
  refine V_bipush (nI 13) (by decide) dX6_init_184 ?_
  refine V_iconst (nI 5) (by decide) dX6_init_186 ?_
  refine V_iast _ (by assumption) rfl (by omega) (by omega) dX6_init_187 ?_
  refine V_aload_n rfl dX6_init_188 ?_
  refine gf_X6_13 (by assumption) (by assumption) rfl dX6_init_189 ?_
  refine V_bipush (nI 10) (by decide) dX6_init_192 ?_
  refine V_iconst (nI 2) (by decide) dX6_init_194 ?_
  refine V_iast _ (by assumption) rfl (by omega) (by omega) dX6_init_195 ?_
  refine V_aload_n rfl dX6_init_196 ?_
  refine gf_X6_23 (by assumption) (by assumption) rfl dX6_init_197 ?_
  refine V_bipush (nI 15) (by decide) dX6_init_200 ?_
  refine V_iconst (nI 3) (by decide) dX6_init_202 ?_
  refine V_iast _ (by assumption) rfl (by omega) (by omega) dX6_init_203 ?_
  refine V_aload_n rfl dX6_init_204 ?_
  refine gf_X6_23 (by assumption) (by assumption) rfl dX6_init_205 ?_
  refine V_bipush (nI 16) (by decide) dX6_init_208 ?_
  refine V_iconst (nI 4) (by decide) dX6_init_210 ?_
  refine V_iast _ (by assumption) rfl (by omega) (by omega) dX6_init_211 ?_
  refine V_aload_n rfl dX6_init_212 ?_
  refine gf_X6_23 (by assumption) (by assumption) rfl dX6_init_213 ?_
  refine V_bipush (nI 17) (by decide) dX6_init_216 ?_
  refine V_iconst (nI 0) (by decide) dX6_init_218 ?_
  refine V_iast _ (by assumption) rfl (by omega) (by omega) dX6_init_219 ?_
  refine V_aload_n rfl dX6_init_220 ?_
  refine gf_X6_23 (by assumption) (by assumption) rfl dX6_init_221 ?_
  refine V_bipush (nI 18) (by decide) dX6_init_224 ?_
  refine V_iconst (nI 2) (by decide) dX6_init_226 ?_
  refine V_iast _ (by assumption) rfl (by omega) (by omega) dX6_init_227 ?_
  refine V_aload_n rfl dX6_init_228 ?_
  refine gf_X6_23 (by assumption) (by assumption) rfl dX6_init_229 ?_
  refine V_bipush (nI 19) (by decide) dX6_init_232 ?_
  refine V_iconst (nI 2) (by decide) dX6_init_234 ?_
  refine V_iast _ (by assumption) rfl (by omega) (by omega) dX6_init_235 ?_
  refine V_aload_n rfl dX6_init_236 ?_
  refine gf_X6_23 (by assumption) (by assumption) rfl dX6_init_237 ?_
  refine V_bipush (nI 20) (by decide) dX6_init_240 ?_
  refine V_iconst (nI 1) (by decide) dX6_init_242 ?_
  refine V_iast _ (by assumption) rfl (by omega) (by omega) dX6_init_243 ?_
  obtain ⟨U, hU⟩ : ∃ U, U = (upI (upI (upI (upI (upI (upI (upI (upI (upI (upI (upI (upI (upI (upI (upI (upI (upI (upI (upI J9 94 7 (nI 3)) 94 8 (nI 2)) 95 20 (nI 0)) 95 21 (nI 2)) 95 22 (nI 4)) 95 23 (nI 1)) 94 12 (nI 3)) 94 9 (nI 2)) 96 10 (nI 20)) 96 11 (nI 1)) 96 12 (nI 9)) 96 13 (nI 5)) 94 10 (nI 2)) 97 15 (nI 3)) 97 16 (nI 4)) 97 17 (nI 0)) 97 18 (nI 2)) 97 19 (nI 2)) 97 20 (nI 1)) := ⟨_, rfl⟩
  rw [← hU]
  have ux : ∀ q k, (q < 94 ∨ 97 < q) → U q k = J9 q k := fun q k h => by
    rw [hU]
    iterate 19 rw [upI_ne (Or.inl (by omega))]
  have u920 : U 92 0 = nI 0 := by rw [ux 92 0 (by decide), hfo 92 (by decide)]; exact h0
  have hD : MDr U (tv0, false) := by
    obtain ⟨⟨v1, v2, v3⟩, v4, v5, v6⟩ := tv0_n
    obtain ⟨l1, l2, l3, l4⟩ := tv0_l
    obtain ⟨p1, p2, p3, p4⟩ := tv0_p
    obtain ⟨⟨s1, s2, s3⟩, s4, s5, s6⟩ := tv0_s
    unfold MDr
    show U 94 7 = nI (tF tv0) ∧ U 94 8 = nI (tL tv0).1 ∧ U 94 9 = nI (tP tv0).1 ∧ U 94 10 = nI (tS tv0).1 ∧ U 94 11 = nI (tB tv0).1 ∧ U 94 12 = nI (tX tv0) ∧ U 94 13 = bI (false = true) ∧ dT U 95 20 2 (tL tv0) ∧ dT U 96 10 2 (tP tv0) ∧ dT U 97 15 3 (tS tv0) ∧ dT U 98 18 3 (tB tv0)
    rw [v1, v2, v3, v4, v5, v6]
    refine ⟨?_, ?_, ?_, ?_, ?_, ?_, ?_, fun k hk c hc => ?_, fun k hk c hc => ?_, fun k hk c hc => ?_, fun k hk => ?_⟩
    · rw [hU]; simp [upI]
    · rw [hU]; simp [upI]
    · rw [hU]; simp [upI]
    · rw [hU]; simp [upI]
    · rw [hU]; simp [upI]; exact b11
    · rw [hU]; simp [upI]
    · rw [hU]; simp [upI]; exact b13
    · rw [v3] at hk
      rcases (show (k = 0 ∧ c = 0) ∨ (k = 0 ∧ c = 1) ∨ (k = 1 ∧ c = 0) ∨ (k = 1 ∧ c = 1) by omega) with ⟨rfl, rfl⟩ | ⟨rfl, rfl⟩ | ⟨rfl, rfl⟩ | ⟨rfl, rfl⟩
      · rw [l1, hU]; simp [upI]
      · rw [l2, hU]; simp [upI]
      · rw [l3, hU]; simp [upI]
      · rw [l4, hU]; simp [upI]
    · rw [v4] at hk
      rcases (show (k = 0 ∧ c = 0) ∨ (k = 0 ∧ c = 1) ∨ (k = 1 ∧ c = 0) ∨ (k = 1 ∧ c = 1) by omega) with ⟨rfl, rfl⟩ | ⟨rfl, rfl⟩ | ⟨rfl, rfl⟩ | ⟨rfl, rfl⟩
      · rw [p1, hU]; simp [upI]
      · rw [p2, hU]; simp [upI]
      · rw [p3, hU]; simp [upI]
      · rw [p4, hU]; simp [upI]
    · rw [v5] at hk
      rcases (show (k = 0 ∧ c = 0) ∨ (k = 0 ∧ c = 1) ∨ (k = 0 ∧ c = 2) ∨ (k = 1 ∧ c = 0) ∨ (k = 1 ∧ c = 1) ∨ (k = 1 ∧ c = 2) by omega) with ⟨rfl, rfl⟩ | ⟨rfl, rfl⟩ | ⟨rfl, rfl⟩ | ⟨rfl, rfl⟩ | ⟨rfl, rfl⟩ | ⟨rfl, rfl⟩
      · rw [s1, hU]; simp [upI]
      · rw [s2, hU]; simp [upI]
      · rw [s3, hU]; simp [upI]
      · rw [s4, hU]; simp [upI]
      · rw [s5, hU]; simp [upI]
      · rw [s6, hU]; simp [upI]
    · rw [v6] at hk; exact absurd hk (Nat.not_lt_zero k)
  refine V_aload_n rfl dX6_init_244 ?_
  refine cl_X6_45 (D_takes (x := xs0) (s := (tv0, false)) (P := st0S) (K := st0S) hK0 u920 (fun i hi => absurd hi (Nat.not_lt_zero i)) hD tol_ok) (by assumption) rfl rfl fitS (Nat.le_of_ble_eq_true rfl) dX6_init_245 (fun rr s8 J8 hq8 => ?_)
  obtain ⟨rfl, hs, q3, q4⟩ := hq8
  have hs := hs.symm
  subst hs
  show V X _ S J8 248 _ []
  refine V_vret rfl (by show S.1 = sg.1 + 10; omega) (by show S.2.1 = sg.2.1 + 1277; omega) ?_ dX6_init_248
  refine ⟨rfl, n1, n2, q3, fun p h1 h2 => ⟨(hKp p h1 h2).1, (hKp p h1 h2).2.1, ?_⟩⟩
  rw [q4 p h2]
  refine Eq.trans (funext fun k => ux p k (Or.inl (by omega))) ?_
  rw [hfo p (by omega)]; exact (hKp p h1 h2).2.2
theorem N_model (hk : (sg.2.2.1 92).1 = 6) (hn : sg.1 = 93) (h0 : I 92 0 = 0) : Ct (m_X6i 4 10 1277) g [rf g 92] sg I (mnQ sg I) := by
  refine Ct.of rfl (Nat.le_of_ble_eq_true rfl) fun X => ?_
  show V X _ sg I 0 [some (rf g 92)] []
  have hkS0 := hk
  refine V_aload_n rfl dX6_init_0 ?_
  refine V_objInit wl_X6_1 ws_obj wc_obj (Nat.le_of_ble_eq_true rfl) (Nat.le_of_ble_eq_true rfl) dX6_init_1 ?_
  refine V_aload_n rfl dX6_init_4 ?_
  refine V_sipush (nI 200) (by decide) dX6_init_5 ?_
  refine V_newa (atype := .byte) 8 200 (Or.inr (Or.inl rfl)) rfl wk_a_byte rfl (by decide) ⟨by show sg.1 - sg.1 + 1 ≤ 10; omega, by show sg.2.1 - sg.2.1 + 200 ≤ 1277; omega⟩ dX6_init_8 ?_
  have hkT0 : ((sgN sg 200 (8, 200)).2.2.1 92).1 = 6 := by rw [kind_ne (by omega)]; exact hkS0
  refine pf_X6_7 (by assumption) rfl rfl dX6_init_10 ?_
  obtain ⟨S1, hS1⟩ : ∃ S1, S1 = sgR (sgN sg 200 (8, 200)) (upR (sgN sg 200 (8, 200)).2.2.2 92 1 (some sg.1)) := ⟨_, rfl⟩
  rw [← hS1]
  obtain ⟨J1, hJ1⟩ : ∃ J1, J1 = imN sg I := ⟨_, rfl⟩
  rw [← hJ1]
  have kr0 := kr_arr (S := sg) (J := I) (q := 92) (j := 1) (u := 200) (s := (8, 200)) (by omega)
  have ar0 := ar_step (S := sg) (q := 92) (j := 1) (u := 200) (c := 8) (N := 200)
  rw [← hS1] at kr0 ar0
  rw [← hJ1] at kr0
  have nS1 : S1.1 = 94 := by rw [hS1]; show sg.1 + 1 = _; omega
  have uS1 : S1.2.1 = sg.2.1 + 200 := by rw [hS1]; show sg.2.1 + 200 = _; omega
  rw [show sg.1 = 93 by omega] at ar0
  have hkS1 : (S1.2.2.1 92).1 = 6 := by rw [kr0.1 92 (by omega)]; exact hkS0
  refine V_aload_n rfl dX6_init_13 ?_
  refine V_bipush (nI 14) (by decide) dX6_init_14 ?_
  refine V_newa (atype := .int) 7 14 (Or.inl rfl) rfl wk_a_int rfl (by decide) ⟨by show S1.1 - sg.1 + 1 ≤ 10; omega, by show S1.2.1 - sg.2.1 + 14 ≤ 1277; omega⟩ dX6_init_16 ?_
  have hkT1 : ((sgN S1 14 (7, 14)).2.2.1 92).1 = 6 := by rw [kind_ne (by omega)]; exact hkS1
  refine pf_X6_13 (by assumption) rfl rfl dX6_init_18 ?_
  obtain ⟨S2, hS2⟩ : ∃ S2, S2 = sgR (sgN S1 14 (7, 14)) (upR (sgN S1 14 (7, 14)).2.2.2 92 3 (some S1.1)) := ⟨_, rfl⟩
  rw [← hS2]
  obtain ⟨J2, hJ2⟩ : ∃ J2, J2 = imN S1 J1 := ⟨_, rfl⟩
  rw [← hJ2]
  have kr1 := kr_arr (S := S1) (J := J1) (q := 92) (j := 3) (u := 14) (s := (7, 14)) (by omega)
  have ar1 := ar_step (S := S1) (q := 92) (j := 3) (u := 14) (c := 7) (N := 14)
  rw [← hS2] at kr1 ar1
  rw [← hJ2] at kr1
  have nS2 : S2.1 = 95 := by rw [hS2]; show S1.1 + 1 = _; omega
  have uS2 : S2.2.1 = sg.2.1 + 214 := by rw [hS2]; show S1.2.1 + 14 = _; omega
  rw [show S1.1 = 94 by omega] at ar1
  have hkS2 : (S2.2.2.1 92).1 = 6 := by rw [kr1.1 92 (by omega)]; exact hkS1
  refine V_aload_n rfl dX6_init_21 ?_
  refine V_bipush (nI 40) (by decide) dX6_init_22 ?_
  refine V_newa (atype := .int) 7 40 (Or.inl rfl) rfl wk_a_int rfl (by decide) ⟨by show S2.1 - sg.1 + 1 ≤ 10; omega, by show S2.2.1 - sg.2.1 + 40 ≤ 1277; omega⟩ dX6_init_24 ?_
  have hkT2 : ((sgN S2 40 (7, 40)).2.2.1 92).1 = 6 := by rw [kind_ne (by omega)]; exact hkS2
  refine pf_X6_17 (by assumption) rfl rfl dX6_init_26 ?_
  obtain ⟨S3, hS3⟩ : ∃ S3, S3 = sgR (sgN S2 40 (7, 40)) (upR (sgN S2 40 (7, 40)).2.2.2 92 4 (some S2.1)) := ⟨_, rfl⟩
  rw [← hS3]
  obtain ⟨J3, hJ3⟩ : ∃ J3, J3 = imN S2 J2 := ⟨_, rfl⟩
  rw [← hJ3]
  have kr2 := kr_arr (S := S2) (J := J2) (q := 92) (j := 4) (u := 40) (s := (7, 40)) (by omega)
  have ar2 := ar_step (S := S2) (q := 92) (j := 4) (u := 40) (c := 7) (N := 40)
  rw [← hS3] at kr2 ar2
  rw [← hJ3] at kr2
  have nS3 : S3.1 = 96 := by rw [hS3]; show S2.1 + 1 = _; omega
  have uS3 : S3.2.1 = sg.2.1 + 254 := by rw [hS3]; show S2.2.1 + 40 = _; omega
  rw [show S2.1 = 95 by omega] at ar2
  have hkS3 : (S3.2.2.1 92).1 = 6 := by rw [kr2.1 92 (by omega)]; exact hkS2
  refine V_aload_n rfl dX6_init_29 ?_
  refine V_bipush (nI 20) (by decide) dX6_init_30 ?_
  refine V_newa (atype := .int) 7 20 (Or.inl rfl) rfl wk_a_int rfl (by decide) ⟨by show S3.1 - sg.1 + 1 ≤ 10; omega, by show S3.2.1 - sg.2.1 + 20 ≤ 1277; omega⟩ dX6_init_32 ?_
  have hkT3 : ((sgN S3 20 (7, 20)).2.2.1 92).1 = 6 := by rw [kind_ne (by omega)]; exact hkS3
  refine pf_X6_20 (by assumption) rfl rfl dX6_init_34 ?_
  obtain ⟨S4, hS4⟩ : ∃ S4, S4 = sgR (sgN S3 20 (7, 20)) (upR (sgN S3 20 (7, 20)).2.2.2 92 5 (some S3.1)) := ⟨_, rfl⟩
  rw [← hS4]
  obtain ⟨J4, hJ4⟩ : ∃ J4, J4 = imN S3 J3 := ⟨_, rfl⟩
  rw [← hJ4]
  have kr3 := kr_arr (S := S3) (J := J3) (q := 92) (j := 5) (u := 20) (s := (7, 20)) (by omega)
  have ar3 := ar_step (S := S3) (q := 92) (j := 5) (u := 20) (c := 7) (N := 20)
  rw [← hS4] at kr3 ar3
  rw [← hJ4] at kr3
  have nS4 : S4.1 = 97 := by rw [hS4]; show S3.1 + 1 = _; omega
  have uS4 : S4.2.1 = sg.2.1 + 274 := by rw [hS4]; show S3.2.1 + 20 = _; omega
  rw [show S3.1 = 96 by omega] at ar3
  have hkS4 : (S4.2.2.1 92).1 = 6 := by rw [kr3.1 92 (by omega)]; exact hkS3
  refine V_aload_n rfl dX6_init_37 ?_
  refine V_bipush (nI 30) (by decide) dX6_init_38 ?_
  refine V_newa (atype := .int) 7 30 (Or.inl rfl) rfl wk_a_int rfl (by decide) ⟨by show S4.1 - sg.1 + 1 ≤ 10; omega, by show S4.2.1 - sg.2.1 + 30 ≤ 1277; omega⟩ dX6_init_40 ?_
  have hkT4 : ((sgN S4 30 (7, 30)).2.2.1 92).1 = 6 := by rw [kind_ne (by omega)]; exact hkS4
  refine pf_X6_23 (by assumption) rfl rfl dX6_init_42 ?_
  obtain ⟨S5, hS5⟩ : ∃ S5, S5 = sgR (sgN S4 30 (7, 30)) (upR (sgN S4 30 (7, 30)).2.2.2 92 6 (some S4.1)) := ⟨_, rfl⟩
  rw [← hS5]
  obtain ⟨J5, hJ5⟩ : ∃ J5, J5 = imN S4 J4 := ⟨_, rfl⟩
  rw [← hJ5]
  have kr4 := kr_arr (S := S4) (J := J4) (q := 92) (j := 6) (u := 30) (s := (7, 30)) (by omega)
  have ar4 := ar_step (S := S4) (q := 92) (j := 6) (u := 30) (c := 7) (N := 30)
  rw [← hS5] at kr4 ar4
  rw [← hJ5] at kr4
  have nS5 : S5.1 = 98 := by rw [hS5]; show S4.1 + 1 = _; omega
  have uS5 : S5.2.1 = sg.2.1 + 304 := by rw [hS5]; show S4.2.1 + 30 = _; omega
  rw [show S4.1 = 97 by omega] at ar4
  have hkS5 : (S5.2.2.1 92).1 = 6 := by rw [kr4.1 92 (by omega)]; exact hkS4
  refine V_aload_n rfl dX6_init_45 ?_
  refine V_bipush (nI 36) (by decide) dX6_init_46 ?_
  refine V_newa (atype := .int) 7 36 (Or.inl rfl) rfl wk_a_int rfl (by decide) ⟨by show S5.1 - sg.1 + 1 ≤ 10; omega, by show S5.2.1 - sg.2.1 + 36 ≤ 1277; omega⟩ dX6_init_48 ?_
  have hkT5 : ((sgN S5 36 (7, 36)).2.2.1 92).1 = 6 := by rw [kind_ne (by omega)]; exact hkS5
  refine pf_X6_26 (by assumption) rfl rfl dX6_init_50 ?_
  obtain ⟨S6, hS6⟩ : ∃ S6, S6 = sgR (sgN S5 36 (7, 36)) (upR (sgN S5 36 (7, 36)).2.2.2 92 7 (some S5.1)) := ⟨_, rfl⟩
  rw [← hS6]
  obtain ⟨J6, hJ6⟩ : ∃ J6, J6 = imN S5 J5 := ⟨_, rfl⟩
  rw [← hJ6]
  have kr5 := kr_arr (S := S5) (J := J5) (q := 92) (j := 7) (u := 36) (s := (7, 36)) (by omega)
  have ar5 := ar_step (S := S5) (q := 92) (j := 7) (u := 36) (c := 7) (N := 36)
  rw [← hS6] at kr5 ar5
  rw [← hJ6] at kr5
  have nS6 : S6.1 = 99 := by rw [hS6]; show S5.1 + 1 = _; omega
  have uS6 : S6.2.1 = sg.2.1 + 340 := by rw [hS6]; show S5.2.1 + 36 = _; omega
  rw [show S5.1 = 98 by omega] at ar5
  have hkS6 : (S6.2.2.1 92).1 = 6 := by rw [kr5.1 92 (by omega)]; exact hkS5
  refine V_aload_n rfl dX6_init_53 ?_
  refine V_sipush (nI 256) (by decide) dX6_init_54 ?_
  refine V_newa (atype := .boolean) 9 256 (Or.inr (Or.inr rfl)) rfl wk_a_boolean rfl (by decide) ⟨by show S6.1 - sg.1 + 1 ≤ 10; omega, by show S6.2.1 - sg.2.1 + 256 ≤ 1277; omega⟩ dX6_init_57 ?_
  have hkT6 : ((sgN S6 256 (9, 256)).2.2.1 92).1 = 6 := by rw [kind_ne (by omega)]; exact hkS6
  refine pf_X6_29 (by assumption) rfl rfl dX6_init_59 ?_
  obtain ⟨S7, hS7⟩ : ∃ S7, S7 = sgR (sgN S6 256 (9, 256)) (upR (sgN S6 256 (9, 256)).2.2.2 92 8 (some S6.1)) := ⟨_, rfl⟩
  rw [← hS7]
  obtain ⟨J7, hJ7⟩ : ∃ J7, J7 = imN S6 J6 := ⟨_, rfl⟩
  rw [← hJ7]
  have kr6 := kr_arr (S := S6) (J := J6) (q := 92) (j := 8) (u := 256) (s := (9, 256)) (by omega)
  have ar6 := ar_step (S := S6) (q := 92) (j := 8) (u := 256) (c := 9) (N := 256)
  rw [← hS7] at kr6 ar6
  rw [← hJ7] at kr6
  have nS7 : S7.1 = 100 := by rw [hS7]; show S6.1 + 1 = _; omega
  have uS7 : S7.2.1 = sg.2.1 + 596 := by rw [hS7]; show S6.2.1 + 256 = _; omega
  rw [show S6.1 = 99 by omega] at ar6
  have hkS7 : (S7.2.2.1 92).1 = 6 := by rw [kr6.1 92 (by omega)]; exact hkS6
  refine V_aload_n rfl dX6_init_62 ?_
  refine V_sipush (nI 672) (by decide) dX6_init_63 ?_
  refine V_newa (atype := .int) 7 672 (Or.inl rfl) rfl wk_a_int rfl (by decide) ⟨by show S7.1 - sg.1 + 1 ≤ 10; omega, by show S7.2.1 - sg.2.1 + 672 ≤ 1277; omega⟩ dX6_init_66 ?_
  have hkT7 : ((sgN S7 672 (7, 672)).2.2.1 92).1 = 6 := by rw [kind_ne (by omega)]; exact hkS7
  refine pf_X6_33 (by assumption) rfl rfl dX6_init_68 ?_
  obtain ⟨S8, hS8⟩ : ∃ S8, S8 = sgR (sgN S7 672 (7, 672)) (upR (sgN S7 672 (7, 672)).2.2.2 92 10 (some S7.1)) := ⟨_, rfl⟩
  rw [← hS8]
  obtain ⟨J8, hJ8⟩ : ∃ J8, J8 = imN S7 J7 := ⟨_, rfl⟩
  rw [← hJ8]
  have kr7 := kr_arr (S := S7) (J := J7) (q := 92) (j := 10) (u := 672) (s := (7, 672)) (by omega)
  have ar7 := ar_step (S := S7) (q := 92) (j := 10) (u := 672) (c := 7) (N := 672)
  rw [← hS8] at kr7 ar7
  rw [← hJ8] at kr7
  have nS8 : S8.1 = 101 := by rw [hS8]; show S7.1 + 1 = _; omega
  have uS8 : S8.2.1 = sg.2.1 + 1268 := by rw [hS8]; show S7.2.1 + 672 = _; omega
  rw [show S7.1 = 100 by omega] at ar7
  have hkS8 : (S8.2.2.1 92).1 = 6 := by rw [kr7.1 92 (by omega)]; exact hkS7
  refine V_aload_n rfl dX6_init_71 ?_
  refine V_iconst (nI 3) (by decide) dX6_init_72 ?_
  refine V_newa (atype := .int) 7 3 (Or.inl rfl) rfl wk_a_int rfl (by decide) ⟨by show S8.1 - sg.1 + 1 ≤ 10; omega, by show S8.2.1 - sg.2.1 + 3 ≤ 1277; omega⟩ dX6_init_73 ?_
  have hkT8 : ((sgN S8 3 (7, 3)).2.2.1 92).1 = 6 := by rw [kind_ne (by omega)]; exact hkS8
  refine pf_X6_36 (by assumption) rfl rfl dX6_init_75 ?_
  obtain ⟨S9, hS9⟩ : ∃ S9, S9 = sgR (sgN S8 3 (7, 3)) (upR (sgN S8 3 (7, 3)).2.2.2 92 16 (some S8.1)) := ⟨_, rfl⟩
  rw [← hS9]
  obtain ⟨J9, hJ9⟩ : ∃ J9, J9 = imN S8 J8 := ⟨_, rfl⟩
  rw [← hJ9]
  have kr8 := kr_arr (S := S8) (J := J8) (q := 92) (j := 16) (u := 3) (s := (7, 3)) (by omega)
  have ar8 := ar_step (S := S8) (q := 92) (j := 16) (u := 3) (c := 7) (N := 3)
  rw [← hS9] at kr8 ar8
  rw [← hJ9] at kr8
  have nS9 : S9.1 = 102 := by rw [hS9]; show S8.1 + 1 = _; omega
  have uS9 : S9.2.1 = sg.2.1 + 1271 := by rw [hS9]; show S8.2.1 + 3 = _; omega
  rw [show S8.1 = 101 by omega] at ar8
  have hkS9 : (S9.2.2.1 92).1 = 6 := by rw [kr8.1 92 (by omega)]; exact hkS8
  refine V_aload_n rfl dX6_init_78 ?_
  refine V_bipush (nI 6) (by decide) dX6_init_79 ?_
  refine V_newa (atype := .int) 7 6 (Or.inl rfl) rfl wk_a_int rfl (by decide) ⟨by show S9.1 - sg.1 + 1 ≤ 10; omega, by show S9.2.1 - sg.2.1 + 6 ≤ 1277; omega⟩ dX6_init_81 ?_
  have hkT9 : ((sgN S9 6 (7, 6)).2.2.1 92).1 = 6 := by rw [kind_ne (by omega)]; exact hkS9
  refine pf_X6_39 (by assumption) rfl rfl dX6_init_83 ?_
  obtain ⟨S10, hS10⟩ : ∃ S10, S10 = sgR (sgN S9 6 (7, 6)) (upR (sgN S9 6 (7, 6)).2.2.2 92 17 (some S9.1)) := ⟨_, rfl⟩
  rw [← hS10]
  obtain ⟨J10, hJ10⟩ : ∃ J10, J10 = imN S9 J9 := ⟨_, rfl⟩
  rw [← hJ10]
  have kr9 := kr_arr (S := S9) (J := J9) (q := 92) (j := 17) (u := 6) (s := (7, 6)) (by omega)
  have ar9 := ar_step (S := S9) (q := 92) (j := 17) (u := 6) (c := 7) (N := 6)
  rw [← hS10] at kr9 ar9
  rw [← hJ10] at kr9
  have nS10 : S10.1 = 103 := by rw [hS10]; show S9.1 + 1 = _; omega
  have uS10 : S10.2.1 = sg.2.1 + 1277 := by rw [hS10]; show S9.2.1 + 6 = _; omega
  rw [show S9.1 = 102 by omega] at ar9
  have hkS10 : (S10.2.2.1 92).1 = 6 := by rw [kr9.1 92 (by omega)]; exact hkS9
  have A0 := (((((((((ar0.kr kr1 (by decide) (by omega)).kr kr2 (by decide) (by omega)).kr kr3 (by decide) (by omega)).kr kr4 (by decide) (by omega)).kr kr5 (by decide) (by omega)).kr kr6 (by decide) (by omega)).kr kr7 (by decide) (by omega)).kr kr8 (by decide) (by omega)).kr kr9 (by decide) (by omega))
  have A1 := ((((((((ar1.kr kr2 (by decide) (by omega)).kr kr3 (by decide) (by omega)).kr kr4 (by decide) (by omega)).kr kr5 (by decide) (by omega)).kr kr6 (by decide) (by omega)).kr kr7 (by decide) (by omega)).kr kr8 (by decide) (by omega)).kr kr9 (by decide) (by omega))
  have A2 := (((((((ar2.kr kr3 (by decide) (by omega)).kr kr4 (by decide) (by omega)).kr kr5 (by decide) (by omega)).kr kr6 (by decide) (by omega)).kr kr7 (by decide) (by omega)).kr kr8 (by decide) (by omega)).kr kr9 (by decide) (by omega))
  have A3 := ((((((ar3.kr kr4 (by decide) (by omega)).kr kr5 (by decide) (by omega)).kr kr6 (by decide) (by omega)).kr kr7 (by decide) (by omega)).kr kr8 (by decide) (by omega)).kr kr9 (by decide) (by omega))
  have A4 := (((((ar4.kr kr5 (by decide) (by omega)).kr kr6 (by decide) (by omega)).kr kr7 (by decide) (by omega)).kr kr8 (by decide) (by omega)).kr kr9 (by decide) (by omega))
  have A5 := ((((ar5.kr kr6 (by decide) (by omega)).kr kr7 (by decide) (by omega)).kr kr8 (by decide) (by omega)).kr kr9 (by decide) (by omega))
  have A6 := (((ar6.kr kr7 (by decide) (by omega)).kr kr8 (by decide) (by omega)).kr kr9 (by decide) (by omega))
  have A7 := ((ar7.kr kr8 (by decide) (by omega)).kr kr9 (by decide) (by omega))
  have A8 := (ar8.kr kr9 (by decide) (by omega))
  have A9 := ar9
  have hKp := ((((((((((kr0.kp (by omega)).trans (kr1.kp (by omega))).trans (kr2.kp (by omega))).trans (kr3.kp (by omega))).trans (kr4.kp (by omega))).trans (kr5.kp (by omega))).trans (kr6.kp (by omega))).trans (kr7.kp (by omega))).trans (kr8.kp (by omega))).trans (kr9.kp (by omega)))
  have hJq : J10 92 = I 92 := (kr9.2.2.2).trans ((kr8.2.2.2).trans ((kr7.2.2.2).trans ((kr6.2.2.2).trans ((kr5.2.2.2).trans ((kr4.2.2.2).trans ((kr3.2.2.2).trans ((kr2.2.2.2).trans ((kr1.2.2.2).trans (kr0.2.2.2)))))))))
  have hMK : MK S10 := ⟨hkS10, A0.1, A1.1, A2.1, A3.1, A4.1, A5.1, A6.1, A7.1, A8.1, A9.1, A0.2, A1.2, A2.2, A3.2, A4.2, A5.2, A6.2, A7.2, A8.2, A9.2⟩
  exact m_tail X hn nS10 uS10 hMK (by rw [hJq]; exact h0) hKp
end MINIT
