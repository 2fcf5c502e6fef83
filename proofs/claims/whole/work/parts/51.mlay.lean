/-! CarvedWeeksModel: lay -/
/-- the first k of a half that h takes from behind -/
def cpH (I J : IM) (q h k : Nat) : Prop := (∀ i, i < k → i < h → J q i = I q (h + i)) ∧ ∀ i, (k ≤ i ∨ h ≤ i) → J q i = I q i
theorem cpH.zero {I J : IM} {q h : Nat} (e : J q = I q) : cpH I J q h 0 := ⟨fun i hi => absurd hi (Nat.not_lt_zero i), fun i _ => by rw [e]⟩
theorem cpH.oth {I J : IM} {q h k q2 j : Nat} {v : Int32} (c : cpH I J q h k) (hne : q ≠ q2) : cpH I (upI J q2 j v) q h k := ⟨fun i h1 h2 => (upI_ne (Or.inl hne)).trans (c.1 i h1 h2), fun i h1 => (upI_ne (Or.inl hne)).trans (c.2 i h1)⟩
theorem cpH.me {I J : IM} {q h k : Nat} {v : Int32} (c : cpH I J q h k) (hk : k < h) (hv : v = I q (h + k)) : cpH I (upI J q k v) q h (k + 1) := ⟨fun i h1 h2 => by
    by_cases e : i = k
    · rw [e, upI_eq]; exact hv
    · rw [upI_ne (Or.inr e)]; exact c.1 i (by omega) h2, fun i h1 => (upI_ne (Or.inr (by omega))).trans (c.2 i (by omega))⟩
theorem cpH.stay {I J : IM} {q h k : Nat} (c : cpH I J q h k) (hk : h ≤ k) : cpH I J q h (k + 1) := ⟨fun i h1 h2 => c.1 i (by omega) h2, fun i h1 => c.2 i (by omega)⟩
def tkA (I J : IM) : Prop := (∀ i, i < 7 → J 94 i = I 94 (7 + i)) ∧ cpH I J 95 20 20 ∧ cpH I J 98 18 20 ∧ cpH I J 97 15 20 ∧ cpH I J 96 10 20 ∧ ∀ q, (q < 94 ∨ 98 < q) → J q = I q
section MLAY
variable {g : GC} {sg : SG} {I : IM} {x : XV} {tv : TV} {W : WV} {P K : SV} {np : Nat}
def tkQ (sg : SG) (I : IM) (x : XV) (s : PS) (P K : SV) : Option Value → SG → IM → Prop := fun r0 s0 J => r0 = none ∧ s0 = sg ∧ MSt sg J x s.1 (begV s.1) (0, P.2) (0, K.2) ∧ ∀ q, q < 92 → J q = I q
theorem D_takes {s : PS} (hK : MK sg) (hl : I 92 0 = nI x.1) (ht : ∀ i, i < x.1 → I 93 i = nI (x.2 i)) (hD : MDr I s) (hok : TVok s.1) : Ct m_X6_takes g [rf g 92] sg I (tkQ sg I x s P K) := by
  have hK0 := hK
  obtain ⟨m0, mR1, mR3, mR4, mR5, mR6, mR7, mR8, mR10, mR16, mR17, mA93, mA94, mA95, mA96, mA97, mA98, mA99, mA100, mA101, mA102⟩ := hK
  obtain ⟨d7, d8, d9, d10, d11, d12, d13, dL, dP, dS, dB⟩ := hD
  have hok0 := hok
  obtain ⟨o1, o2, o3, o4', o5, o6, o7, o8, o9, o10, o11⟩ := hok
  have h256 := p2_le8 o2
  refine Ct.of rfl (Nat.le_of_ble_eq_true rfl) fun X => ?_
  show V X _ sg I 0 [some (rf g 92), none] []
  -- behind the worlds: slot 0 is emptied
  have fin : ∀ (J : IM), (∀ q, q < 92 → J q = I q) → J 92 0 = nI x.1 → (∀ i, i < x.1 → J 93 i = nI (x.2 i)) → MTn J s.1 → J 94 5 = nI (tX s.1) → V X (ZQ X (tkQ sg I x s P K)) sg J 202 [some (rf g 92), some (.int (nI 256))] [] := by
    intro J hlow j0 jt hTJ j5
    have zl : ∀ (d k : Nat) (H : IM), 56 - k = d → k ≤ 56 → (∀ i, i < k → H 100 i = nI 0) → (∀ q, q ≠ 100 → H q = J q) → V X (ZQ X (tkQ sg I x s P K)) sg H 204 [some (rf g 92), some (.int (nI k))] [] := by
      intro d
      induction d with
      | zero =>
        intro k H hd hk h1 h2
        have e : k = 56 := by omega
        subst e
        have hH5 : H 94 5 = nI (tX s.1) := by rw [h2 94 (by decide)]; exact j5
        have hW : SlW (upI H 100 0 (nI (tX s.1))) 0 (tX s.1, 0, ((0, fun _ _ => 0) : TB), fun _ => 0) (tP s.1).1 := ⟨upI_eq, (upI_ne (Or.inr (by decide))).trans (h1 1 (by decide)), (upI_ne (Or.inr (by decide))).trans (h1 2 (by decide)), fun i hi => (upI_ne (Or.inr (by omega))).trans (h1 _ (by omega)), fun m hm => absurd hm (Nat.not_lt_zero m)⟩
        have hTH : MTn (upI H 100 0 (nI (tX s.1))) s.1 := by
          have e : ∀ q, q ≠ 100 → (upI H 100 0 (nI (tX s.1))) q = J q := fun q hq => (funext fun i => upI_ne (Or.inl hq)).trans (h2 q hq)
          unfold MTn at hTJ ⊢
          rw [e 94 (by decide), e 95 (by decide), e 96 (by decide), e 97 (by decide), e 98 (by decide), e 99 (by decide), e 92 (by decide)]
          exact hTJ
        refine V_iload_n rfl dX6_takes_204 ?_
        refine V_bipush (nI 56) (by decide) dX6_takes_205 ?_
        refine V_icmp_geN 223 dX6_takes_207 (by decide) (by omega) (by omega) (fun h207 => ?_) (fun h207 => absurd h207 (by decide))
        refine V_aload_n rfl dX6_takes_223 ?_
        refine gf_X6_33 (by assumption) (by assumption) rfl dX6_takes_224 ?_
        refine V_iconst (nI 0) (by decide) dX6_takes_227 ?_
        refine V_aload_n rfl dX6_takes_228 ?_
        refine gf_X6_13 (by assumption) (by assumption) rfl dX6_takes_229 ?_
        refine V_iconst (nI 5) (by decide) dX6_takes_232 ?_
        refine V_iald _ (by assumption) rfl (by omega) (by omega) dX6_takes_233 ?_
        refine V_topi (hH5) ?_
        refine V_iast _ (by assumption) rfl (by omega) (by omega) dX6_takes_234 ?_
        refine V_aload_n rfl dX6_takes_235 ?_
        refine V_iconst (nI 0) (by decide) dX6_takes_236 ?_
        refine cl_X6_102 (D_rests hK0 hTH hok0 hW (by decide)) (by assumption) rfl rfl ft0 (Nat.le_of_ble_eq_true rfl) dX6_takes_237 (fun rr s9 J9 hq => ?_)
        obtain ⟨rfl, hs, q1, q2⟩ := hq
        have hs := hs.symm
        subst hs
        show V X _ sg J9 240 _ []
        refine V_aload_n rfl dX6_takes_240 ?_
        refine V_iconst (nI 0) (by decide) dX6_takes_241 ?_
        refine pf_X6_106 (by assumption) rfl dX6_takes_242 ?_
        refine V_aload_n rfl dX6_takes_245 ?_
        refine V_iconst (nI 0) (by decide) dX6_takes_246 ?_
        refine pf_X6_109 (by assumption) rfl dX6_takes_247 ?_
        refine V_vret rfl rfl rfl ?_ dX6_takes_250
        obtain ⟨U, hU⟩ : ∃ U, U = upI (upI J9 92 12 (nI 0)) 92 11 (nI 0) := ⟨_, rfl⟩
        rw [← hU]
        have eq : ∀ q, q ≠ 92 → q ≠ 100 → U q = J q := fun q a b => by rw [hU]; exact (funext fun i => upI_ne (Or.inl a)).trans ((funext fun i => upI_ne (Or.inl a)).trans ((q2.2 q b).trans ((funext fun i => upI_ne (Or.inl b)).trans (h2 q b))))
        have e92 : ∀ k, k ≠ 11 → k ≠ 12 → U 92 k = J 92 k := fun k a b => by rw [hU, upI_ne (Or.inr a), upI_ne (Or.inr b), q2.2 92 (by decide), upI_ne (Or.inl (by decide)), h2 92 (by decide)]
        have e100 : U 100 = J9 100 := by rw [hU]; exact (funext fun i => upI_ne (Or.inl (by decide))).trans (funext fun i => upI_ne (Or.inl (by decide)))
        refine ⟨rfl, rfl, ⟨hK0, ⟨(e92 0 (by decide) (by decide)).trans j0, fun i hi => by rw [eq 93 (by decide) (by decide)]; exact jt i hi⟩, ?_, ?_, by rw [hU]; exact upI_eq, fun i hi => absurd hi (Nat.not_lt_zero i), by rw [hU, upI_ne (Or.inr (by decide))]; exact upI_eq, fun i hi => absurd hi (Nat.not_lt_zero i)⟩, fun q hq => (eq q (by omega) (by omega)).trans (hlow q hq)⟩
        · unfold MTn at hTJ ⊢
          rw [eq 94 (by decide) (by decide), eq 95 (by decide) (by decide), eq 96 (by decide) (by decide), eq 97 (by decide) (by decide), eq 98 (by decide) (by decide), eq 99 (by decide) (by decide), e92 9 (by decide) (by decide)]
          exact hTJ
        · unfold SlW at q1 ⊢
          rw [e100]; exact q1
      | succ d ih =>
        intro k H hd hk h1 h2
        refine V_iload_n rfl dX6_takes_204 ?_
        refine V_bipush (nI 56) (by decide) dX6_takes_205 ?_
        refine V_icmp_geN 223 dX6_takes_207 (by decide) (by omega) (by omega) (fun h207 => absurd h207 (by omega)) (fun h207 => ?_)
        refine V_aload_n rfl dX6_takes_210 ?_
        refine gf_X6_33 (by assumption) (by assumption) rfl dX6_takes_211 ?_
        refine V_iload_n rfl dX6_takes_214 ?_
        refine V_iconst (nI 0) (by decide) dX6_takes_215 ?_
        refine V_iast _ (by assumption) rfl (by omega) (by omega) dX6_takes_216 ?_
        refine V_iinc1_ _ (nI_inc _) rfl rfl dX6_takes_217 ?_
        refine V_goto 204 dX6_takes_220 (by decide) ?_
        refine ih (k + 1) _ (by omega) (by omega) (fun i hi => ?_) (fun q hq => (funext fun i => upI_ne (Or.inl hq)).trans (h2 q hq))
        by_cases c : i = k
        · rw [c]; exact upI_eq
        · rw [upI_ne (Or.inr c)]; exact h1 i (by omega)
    refine V_iconst (nI 0) (by decide) dX6_takes_202 ?_
    refine V_ist1 rfl rfl dX6_takes_203 ?_
    exact zl 56 0 J rfl (Nat.zero_le _) (fun i hi => absurd hi (Nat.not_lt_zero i)) (fun _ _ => rfl)
  -- the worlds
  have hb16 : ∀ k, k < (tL s.1).1 → (tL s.1).2 k 0 < 16 ∧ (tL s.1).2 k 1 < 16 := fun k hk => by have := o4' k hk; omega
  have wl2 : ∀ (J : IM), tkA I J → ∀ (d k : Nat) (H : IM), 256 - k = d → k ≤ 256 → (∀ w, w < k → H 99 w = bI (wB s.1 w = true)) → H 92 9 = nI (cnt k (wB s.1)) → (∀ q, q ≠ 99 → q ≠ 92 → H q = J q) → (∀ i, i ≠ 9 → H 92 i = J 92 i) → V X (ZQ X (tkQ sg I x s P K)) sg H 128 [some (rf g 92), some (.int (nI k))] [] := by
    intro J hA d
    obtain ⟨hA1, hA2, hA3, hA4, hA5, hA6⟩ := hA
    have t0 : J 94 0 = nI (tF s.1) := (hA1 0 (by decide)).trans d7
    have t1 : J 94 1 = nI (tL s.1).1 := (hA1 1 (by decide)).trans d8
    have t2 : J 94 2 = nI (tP s.1).1 := (hA1 2 (by decide)).trans d9
    have t3 : J 94 3 = nI (tS s.1).1 := (hA1 3 (by decide)).trans d10
    have t4 : J 94 4 = nI (tB s.1).1 := (hA1 4 (by decide)).trans d11
    have t5 : J 94 5 = nI (tX s.1) := (hA1 5 (by decide)).trans d12
    have u5 : ∀ k, k < (tL s.1).1 → ∀ c, c < 2 → J 95 (2 * k + c) = nI ((tL s.1).2 k c) := fun k hk c hc => (hA2.1 _ (by omega) (by omega)).trans ((congrArg (I 95) (by omega)).trans (dL k hk c hc))
    have u6 : ∀ k, k < (tP s.1).1 → ∀ c, c < 2 → J 96 (2 * k + c) = nI ((tP s.1).2 k c) := fun k hk c hc => (hA5.1 _ (by omega) (by omega)).trans ((congrArg (I 96) (by omega)).trans (dP k hk c hc))
    have u7 : ∀ k, k < (tS s.1).1 → ∀ c, c < 3 → J 97 (3 * k + c) = nI ((tS s.1).2 k c) := fun k hk c hc => (hA4.1 _ (by omega) (by omega)).trans ((congrArg (I 97) (by omega)).trans (dS k hk c hc))
    have u8 : ∀ k, k < (tB s.1).1 → ∀ c, c < 3 → J 98 (3 * k + c) = nI ((tB s.1).2 k c) := fun k hk c hc => (hA3.1 _ (by omega) (by omega)).trans ((congrArg (I 98) (by omega)).trans (dB k hk c hc))
    induction d with
    | zero =>
      intro k H hd hk h1 h2 h3 h4
      have e : k = 256 := by omega
      subst e
      have e94 := h3 94 (by decide) (by decide)
      refine V_iload_n rfl dX6_takes_128 ?_
      refine V_sipush (nI 256) (by decide) dX6_takes_129 ?_
      refine V_icmp_geN 202 dX6_takes_132 (by decide) (by omega) (by omega) (fun h132 => ?_) (fun h132 => absurd h132 (by decide))
      refine fin H (fun q hq => (h3 q (by omega) (by omega)).trans (hA6 q (by omega))) ?_ (fun i hi => ?_) ?_ (by rw [e94]; exact t5)
      · rw [h4 0 (by decide), hA6 92 (by decide)]; exact hl
      · rw [h3 93 (by decide) (by decide), hA6 93 (by decide)]; exact ht i hi
      · unfold MTn
        rw [e94, h3 95 (by decide) (by decide), h3 96 (by decide) (by decide), h3 97 (by decide) (by decide), h3 98 (by decide) (by decide), nw_cnt o2]
        exact ⟨t0, t1, t2, t3, t4, u5, u6, u7, u8, h1, h2⟩
    | succ d ih =>
      intro k H hd hk h1 h2 h3 h4
      have e94 : H 94 0 = nI (tF s.1) := by rw [h3 94 (by decide) (by decide)]; exact t0
      have e941 : H 94 1 = nI (tL s.1).1 := by rw [h3 94 (by decide) (by decide)]; exact t1
      have dH : dT H 95 0 2 (tL s.1) := fun i hi c hc => by rw [h3 95 (by decide) (by decide), show 0 + 2 * i + c = 2 * i + c by omega]; exact u5 i hi c hc
      have hset : ∀ v, v = bI (wB s.1 k = true) → V X (ZQ X (tkQ sg I x s P K)) sg H 172 [some (rf g 92), some (.int (nI k))] [.int v, .int (nI k), rf g 99] := by
        intro v hv
        subst hv
        have n9 : (upI H 99 k (bI (wB s.1 k = true))) 92 9 = nI (cnt k (wB s.1)) := (upI_ne (Or.inl (by decide))).trans h2
        have n99 : (upI H 99 k (bI (wB s.1 k = true))) 99 k = bI (wB s.1 k = true) := upI_eq
        refine V_zast _ (by assumption) rfl (by omega) (by omega) (bI_nar _) dX6_takes_172 ?_
        refine V_aload_n rfl dX6_takes_173 ?_
        refine V_dup rfl dX6_takes_174 ?_
        refine gfe_X6_95 (by assumption) (by assumption) rfl dX6_takes_175 ?_
        refine V_aload_n rfl dX6_takes_178 ?_
        refine gf_X6_29 (by assumption) (by assumption) rfl dX6_takes_179 ?_
        refine V_iload_n rfl dX6_takes_182 ?_
        refine V_zald _ (by assumption) rfl (by omega) (by omega) dX6_takes_183 ?_
        refine V_topi (n99) ?_
        refine V_if_eqB 191 dX6_takes_184 (by decide) (fun h184 => ?_) (fun h184 => ?_)
        · skip
          refine V_iconst (nI 0) (by decide) dX6_takes_191 ?_
          refine V_iaddN dX6_takes_192 ?_
          refine pf_X6_95 (by assumption) rfl dX6_takes_193 ?_
          refine V_iinc1_ _ (nI_inc _) rfl rfl dX6_takes_196 ?_
          refine V_goto 128 dX6_takes_199 (by decide) ?_
          refine ih (k + 1) _ (by omega) (by omega) (fun w hw => ?_) (upI_eq.trans ?_) (fun q a b => (funext fun i => upI_ne (Or.inl b)).trans ((funext fun i => upI_ne (Or.inl a)).trans (h3 q a b))) (fun i hi => (upI_ne (Or.inr hi)).trans ((upI_ne (Or.inl (by decide))).trans (h4 i hi)))
          · rw [upI_ne (Or.inl (by decide))]
            by_cases c : w = k
            · rw [c]; exact upI_eq
            · rw [upI_ne (Or.inr c)]; exact h1 w (by omega)
          · rw [cnt_succ]
            first
            | rw [if_pos h184]
            | rw [if_neg h184]
        · skip
          refine V_iconst (nI 1) (by decide) dX6_takes_187 ?_
          refine V_goto 192 dX6_takes_188 (by decide) ?_
          refine V_iaddN dX6_takes_192 ?_
          refine pf_X6_95 (by assumption) rfl dX6_takes_193 ?_
          refine V_iinc1_ _ (nI_inc _) rfl rfl dX6_takes_196 ?_
          refine V_goto 128 dX6_takes_199 (by decide) ?_
          refine ih (k + 1) _ (by omega) (by omega) (fun w hw => ?_) (upI_eq.trans ?_) (fun q a b => (funext fun i => upI_ne (Or.inl b)).trans ((funext fun i => upI_ne (Or.inl a)).trans (h3 q a b))) (fun i hi => (upI_ne (Or.inr hi)).trans ((upI_ne (Or.inl (by decide))).trans (h4 i hi)))
          · rw [upI_ne (Or.inl (by decide))]
            by_cases c : w = k
            · rw [c]; exact upI_eq
            · rw [upI_ne (Or.inr c)]; exact h1 w (by omega)
          · rw [cnt_succ]
            first
            | rw [if_pos h184]
            | rw [if_neg h184]
      by_cases hkf : k < 2 ^ tF s.1
      · have hwb : wB s.1 k = lawB s.1 k := by unfold wB; rw [decide_eq_true hkf, Bool.true_and]
        have hlw : allB (tL s.1).1 (fun i => !so ((tL s.1).2 i 0) k || so ((tL s.1).2 i 1) k) = lawB s.1 k := rfl
        refine V_iload_n rfl dX6_takes_128 ?_
        refine V_sipush (nI 256) (by decide) dX6_takes_129 ?_
        refine V_icmp_geN 202 dX6_takes_132 (by decide) (by omega) (by omega) (fun h132 => absurd h132 (by omega)) (fun h132 => ?_)
        refine V_aload_n rfl dX6_takes_135 ?_
        refine gf_X6_29 (by assumption) (by assumption) rfl dX6_takes_136 ?_
        refine V_iload_n rfl dX6_takes_139 ?_
        refine V_iload_n rfl dX6_takes_140 ?_
        refine V_iconst (nI 1) (by decide) dX6_takes_141 ?_
        refine V_aload_n rfl dX6_takes_142 ?_
        refine gf_X6_13 (by assumption) (by assumption) rfl dX6_takes_143 ?_
        refine V_iconst (nI 0) (by decide) dX6_takes_146 ?_
        refine V_iald _ (by assumption) rfl (by omega) (by omega) dX6_takes_147 ?_
        refine V_topi (e94) ?_
        refine V_ishl1N (by omega) dX6_takes_148 ?_
        refine V_icmp_geN 171 dX6_takes_149 (by decide) (by omega) (by omega) (fun h149 => absurd h149 (by omega)) (fun h149 => ?_)
        refine V_aload_n rfl dX6_takes_152 ?_
        refine V_iload_n rfl dX6_takes_153 ?_
        refine V_iconst (nI 0) (by decide) dX6_takes_154 ?_
        refine V_aload_n rfl dX6_takes_155 ?_
        refine gf_X6_13 (by assumption) (by assumption) rfl dX6_takes_156 ?_
        refine V_iconst (nI 1) (by decide) dX6_takes_159 ?_
        refine V_iald _ (by assumption) rfl (by omega) (by omega) dX6_takes_160 ?_
        refine V_topi (e941) ?_
        refine cf_X6_98 (D_isLawful hK0 dH o8 (by decide) hb16 (by omega)) (by assumption) rfl rfl ft0 (Nat.le_of_ble_eq_true rfl) dX6_takes_161 ?_
        refine V_if_eqB 171 dX6_takes_164 (by decide) (fun h164 => ?_) (fun h164 => ?_)
        · skip
          refine V_iconst (nI 0) (by decide) dX6_takes_171 ?_
          first
          | exact hset _ (by rw [hwb, ← hlw, bI_t h164])
          | exact hset _ (by rw [hwb, ← hlw, bI_f h164])
        · skip
          refine V_iconst (nI 1) (by decide) dX6_takes_167 ?_
          refine V_goto 172 dX6_takes_168 (by decide) ?_
          first
          | exact hset _ (by rw [hwb, ← hlw, bI_t h164])
          | exact hset _ (by rw [hwb, ← hlw, bI_f h164])
      · have hwb : wB s.1 k = false := by unfold wB; rw [decide_eq_false hkf, Bool.false_and]
        refine V_iload_n rfl dX6_takes_128 ?_
        refine V_sipush (nI 256) (by decide) dX6_takes_129 ?_
        refine V_icmp_geN 202 dX6_takes_132 (by decide) (by omega) (by omega) (fun h132 => absurd h132 (by omega)) (fun h132 => ?_)
        refine V_aload_n rfl dX6_takes_135 ?_
        refine gf_X6_29 (by assumption) (by assumption) rfl dX6_takes_136 ?_
        refine V_iload_n rfl dX6_takes_139 ?_
        refine V_iload_n rfl dX6_takes_140 ?_
        refine V_iconst (nI 1) (by decide) dX6_takes_141 ?_
        refine V_aload_n rfl dX6_takes_142 ?_
        refine gf_X6_13 (by assumption) (by assumption) rfl dX6_takes_143 ?_
        refine V_iconst (nI 0) (by decide) dX6_takes_146 ?_
        refine V_iald _ (by assumption) rfl (by omega) (by omega) dX6_takes_147 ?_
        refine V_topi (e94) ?_
        refine V_ishl1N (by omega) dX6_takes_148 ?_
        refine V_icmp_geN 171 dX6_takes_149 (by decide) (by omega) (by omega) (fun h149 => ?_) (fun h149 => absurd h149 (by omega))
        refine V_iconst (nI 0) (by decide) dX6_takes_171 ?_
        exact hset _ (by rw [hwb]; rfl)
  -- the arrays
  have arr : ∀ (d k : Nat) (J : IM), 20 - k = d → k ≤ 20 → (∀ i, i < 7 → J 94 i = I 94 (7 + i)) → cpH I J 95 20 k → cpH I J 98 18 k → cpH I J 97 15 k → cpH I J 96 10 k → (∀ q, (q < 94 ∨ 98 < q) → J q = I q) → V X (ZQ X (tkQ sg I x s P K)) sg J 31 [some (rf g 92), some (.int (nI k))] [] := by
    intro d
    induction d with
    | zero =>
      intro k J hd hk h1 c5 c8 c7 c6 h2
      have e : k = 20 := by omega
      subst e
      have hA : tkA I J := ⟨h1, c5, c8, c7, c6, h2⟩
      refine V_iload_n rfl dX6_takes_31 ?_
      refine V_bipush (nI 20) (by decide) dX6_takes_32 ?_
      refine V_icmp_geN 121 dX6_takes_34 (by decide) (by omega) (by omega) (fun h34 => ?_) (fun h34 => absurd h34 (by decide))
      refine V_aload_n rfl dX6_takes_121 ?_
      refine V_iconst (nI 0) (by decide) dX6_takes_122 ?_
      refine pf_X6_95 (by assumption) rfl dX6_takes_123 ?_
      refine V_iconst (nI 0) (by decide) dX6_takes_126 ?_
      refine V_ist1 rfl rfl dX6_takes_127 ?_
      exact wl2 J hA 256 0 _ rfl (Nat.zero_le _) (fun w hw => absurd hw (Nat.not_lt_zero w)) upI_eq (fun q a b => funext fun i => upI_ne (Or.inl b)) (fun i hi => upI_ne (Or.inr hi))
    | succ d ih =>
      intro k J hd hk h1 c5 c8 c7 c6 h2
      have v5 := c5.2 (20 + k) (Or.inr (by omega))
      have n5 := c5.me (by omega) (v := I 95 (20 + k)) rfl
      have n1 : ∀ i, i < 7 → (upI J 95 k (I 95 (20 + k))) 94 i = I 94 (7 + i) := fun i hi => (upI_ne (Or.inl (by decide))).trans (h1 i hi)
      have n2 : ∀ q, (q < 94 ∨ 98 < q) → (upI J 95 k (I 95 (20 + k))) q = I q := fun q hq => (funext fun i => upI_ne (Or.inl (by omega))).trans (h2 q hq)
      have n8 : cpH I (upI J 95 k (I 95 (20 + k))) 98 18 k := c8.oth (by decide)
      have n7 : cpH I (upI J 95 k (I 95 (20 + k))) 97 15 k := c7.oth (by decide)
      have n6 : cpH I (upI J 95 k (I 95 (20 + k))) 96 10 k := c6.oth (by decide)
      obtain ⟨Ja, hJa⟩ : ∃ Ja, Ja = upI J 95 k (I 95 (20 + k)) := ⟨_, rfl⟩
      rw [← hJa] at n5 n1 n2 n8 n7 n6
      have w8 := n8.2 (18 + k) (Or.inr (by omega))
      by_cases k18 : k < 18
      · have p8 := n8.me k18 (v := I 98 (18 + k)) rfl
        have p5 : cpH I (upI Ja 98 k (I 98 (18 + k))) 95 20 (k + 1) := n5.oth (by decide)
        have p7 : cpH I (upI Ja 98 k (I 98 (18 + k))) 97 15 k := n7.oth (by decide)
        have p6 : cpH I (upI Ja 98 k (I 98 (18 + k))) 96 10 k := n6.oth (by decide)
        have p1 : ∀ i, i < 7 → (upI Ja 98 k (I 98 (18 + k))) 94 i = I 94 (7 + i) := fun i hi => (upI_ne (Or.inl (by decide))).trans (n1 i hi)
        have p2 : ∀ q, (q < 94 ∨ 98 < q) → (upI Ja 98 k (I 98 (18 + k))) q = I q := fun q hq => (funext fun i => upI_ne (Or.inl (by omega))).trans (n2 q hq)
        obtain ⟨Jb, hJb⟩ : ∃ Jb, Jb = upI Ja 98 k (I 98 (18 + k)) := ⟨_, rfl⟩
        rw [← hJb] at p8 p5 p7 p6 p1 p2
        have w7 := p7.2 (15 + k) (Or.inr (by omega))
        by_cases k15 : k < 15
        · have r7 := p7.me k15 (v := I 97 (15 + k)) rfl
          have r5 : cpH I (upI Jb 97 k (I 97 (15 + k))) 95 20 (k + 1) := p5.oth (by decide)
          have r8 : cpH I (upI Jb 97 k (I 97 (15 + k))) 98 18 (k + 1) := p8.oth (by decide)
          have r6 : cpH I (upI Jb 97 k (I 97 (15 + k))) 96 10 k := p6.oth (by decide)
          have r1 : ∀ i, i < 7 → (upI Jb 97 k (I 97 (15 + k))) 94 i = I 94 (7 + i) := fun i hi => (upI_ne (Or.inl (by decide))).trans (p1 i hi)
          have r2 : ∀ q, (q < 94 ∨ 98 < q) → (upI Jb 97 k (I 97 (15 + k))) q = I q := fun q hq => (funext fun i => upI_ne (Or.inl (by omega))).trans (p2 q hq)
          obtain ⟨Jc, hJc⟩ : ∃ Jc, Jc = upI Jb 97 k (I 97 (15 + k)) := ⟨_, rfl⟩
          rw [← hJc] at r7 r5 r8 r6 r1 r2
          have w6 := r6.2 (10 + k) (Or.inr (by omega))
          by_cases k10 : k < 10
          · skip
            refine V_iload_n rfl dX6_takes_31 ?_
            refine V_bipush (nI 20) (by decide) dX6_takes_32 ?_
            refine V_icmp_geN 121 dX6_takes_34 (by decide) (by omega) (by omega) (fun h34 => absurd h34 (by omega)) (fun h34 => ?_)
            refine V_aload_n rfl dX6_takes_37 ?_
            refine gf_X6_17 (by assumption) (by assumption) rfl dX6_takes_38 ?_
            refine V_iload_n rfl dX6_takes_41 ?_
            refine V_aload_n rfl dX6_takes_42 ?_
            refine gf_X6_17 (by assumption) (by assumption) rfl dX6_takes_43 ?_
            refine V_bipush (nI 20) (by decide) dX6_takes_46 ?_
            refine V_iload_n rfl dX6_takes_48 ?_
            refine V_iaddN dX6_takes_49 ?_
            refine V_iald _ (by assumption) rfl (by omega) (by omega) dX6_takes_50 ?_
            refine V_topi (v5) ?_
            refine V_iast _ (by assumption) rfl (by omega) (by omega) dX6_takes_51 ?_
            rw [← hJa]
            refine V_iload_n rfl dX6_takes_52 ?_
            refine V_bipush (nI 18) (by decide) dX6_takes_53 ?_
            refine V_icmp_geN 73 dX6_takes_55 (by decide) (by omega) (by omega) (fun h55 => absurd h55 (by omega)) (fun h55 => ?_)
            refine V_aload_n rfl dX6_takes_58 ?_
            refine gf_X6_26 (by assumption) (by assumption) rfl dX6_takes_59 ?_
            refine V_iload_n rfl dX6_takes_62 ?_
            refine V_aload_n rfl dX6_takes_63 ?_
            refine gf_X6_26 (by assumption) (by assumption) rfl dX6_takes_64 ?_
            refine V_bipush (nI 18) (by decide) dX6_takes_67 ?_
            refine V_iload_n rfl dX6_takes_69 ?_
            refine V_iaddN dX6_takes_70 ?_
            refine V_iald _ (by assumption) rfl (by omega) (by omega) dX6_takes_71 ?_
            refine V_topi (w8) ?_
            refine V_iast _ (by assumption) rfl (by omega) (by omega) dX6_takes_72 ?_
            rw [← hJb]
            refine V_iload_n rfl dX6_takes_73 ?_
            refine V_bipush (nI 15) (by decide) dX6_takes_74 ?_
            refine V_icmp_geN 94 dX6_takes_76 (by decide) (by omega) (by omega) (fun h76 => absurd h76 (by omega)) (fun h76 => ?_)
            refine V_aload_n rfl dX6_takes_79 ?_
            refine gf_X6_23 (by assumption) (by assumption) rfl dX6_takes_80 ?_
            refine V_iload_n rfl dX6_takes_83 ?_
            refine V_aload_n rfl dX6_takes_84 ?_
            refine gf_X6_23 (by assumption) (by assumption) rfl dX6_takes_85 ?_
            refine V_bipush (nI 15) (by decide) dX6_takes_88 ?_
            refine V_iload_n rfl dX6_takes_90 ?_
            refine V_iaddN dX6_takes_91 ?_
            refine V_iald _ (by assumption) rfl (by omega) (by omega) dX6_takes_92 ?_
            refine V_topi (w7) ?_
            refine V_iast _ (by assumption) rfl (by omega) (by omega) dX6_takes_93 ?_
            rw [← hJc]
            refine V_iload_n rfl dX6_takes_94 ?_
            refine V_bipush (nI 10) (by decide) dX6_takes_95 ?_
            refine V_icmp_geN 115 dX6_takes_97 (by decide) (by omega) (by omega) (fun h97 => absurd h97 (by omega)) (fun h97 => ?_)
            refine V_aload_n rfl dX6_takes_100 ?_
            refine gf_X6_20 (by assumption) (by assumption) rfl dX6_takes_101 ?_
            refine V_iload_n rfl dX6_takes_104 ?_
            refine V_aload_n rfl dX6_takes_105 ?_
            refine gf_X6_20 (by assumption) (by assumption) rfl dX6_takes_106 ?_
            refine V_bipush (nI 10) (by decide) dX6_takes_109 ?_
            refine V_iload_n rfl dX6_takes_111 ?_
            refine V_iaddN dX6_takes_112 ?_
            refine V_iald _ (by assumption) rfl (by omega) (by omega) dX6_takes_113 ?_
            refine V_topi (w6) ?_
            refine V_iast _ (by assumption) rfl (by omega) (by omega) dX6_takes_114 ?_
            refine V_iinc1_ _ (nI_inc _) rfl rfl dX6_takes_115 ?_
            refine V_goto 31 dX6_takes_118 (by decide) ?_
            exact ih (k + 1) _ (by omega) (by omega) (fun i hi => (upI_ne (Or.inl (by decide))).trans (r1 i hi)) (r5.oth (by decide)) (r8.oth (by decide)) (r7.oth (by decide)) (r6.me k10 rfl) (fun q hq => (funext fun i => upI_ne (Or.inl (by omega))).trans (r2 q hq))
          · skip
            refine V_iload_n rfl dX6_takes_31 ?_
            refine V_bipush (nI 20) (by decide) dX6_takes_32 ?_
            refine V_icmp_geN 121 dX6_takes_34 (by decide) (by omega) (by omega) (fun h34 => absurd h34 (by omega)) (fun h34 => ?_)
            refine V_aload_n rfl dX6_takes_37 ?_
            refine gf_X6_17 (by assumption) (by assumption) rfl dX6_takes_38 ?_
            refine V_iload_n rfl dX6_takes_41 ?_
            refine V_aload_n rfl dX6_takes_42 ?_
            refine gf_X6_17 (by assumption) (by assumption) rfl dX6_takes_43 ?_
            refine V_bipush (nI 20) (by decide) dX6_takes_46 ?_
            refine V_iload_n rfl dX6_takes_48 ?_
            refine V_iaddN dX6_takes_49 ?_
            refine V_iald _ (by assumption) rfl (by omega) (by omega) dX6_takes_50 ?_
            refine V_topi (v5) ?_
            refine V_iast _ (by assumption) rfl (by omega) (by omega) dX6_takes_51 ?_
            rw [← hJa]
            refine V_iload_n rfl dX6_takes_52 ?_
            refine V_bipush (nI 18) (by decide) dX6_takes_53 ?_
            refine V_icmp_geN 73 dX6_takes_55 (by decide) (by omega) (by omega) (fun h55 => absurd h55 (by omega)) (fun h55 => ?_)
            refine V_aload_n rfl dX6_takes_58 ?_
            refine gf_X6_26 (by assumption) (by assumption) rfl dX6_takes_59 ?_
            refine V_iload_n rfl dX6_takes_62 ?_
            refine V_aload_n rfl dX6_takes_63 ?_
            refine gf_X6_26 (by assumption) (by assumption) rfl dX6_takes_64 ?_
            refine V_bipush (nI 18) (by decide) dX6_takes_67 ?_
            refine V_iload_n rfl dX6_takes_69 ?_
            refine V_iaddN dX6_takes_70 ?_
            refine V_iald _ (by assumption) rfl (by omega) (by omega) dX6_takes_71 ?_
            refine V_topi (w8) ?_
            refine V_iast _ (by assumption) rfl (by omega) (by omega) dX6_takes_72 ?_
            rw [← hJb]
            refine V_iload_n rfl dX6_takes_73 ?_
            refine V_bipush (nI 15) (by decide) dX6_takes_74 ?_
            refine V_icmp_geN 94 dX6_takes_76 (by decide) (by omega) (by omega) (fun h76 => absurd h76 (by omega)) (fun h76 => ?_)
            refine V_aload_n rfl dX6_takes_79 ?_
            refine gf_X6_23 (by assumption) (by assumption) rfl dX6_takes_80 ?_
            refine V_iload_n rfl dX6_takes_83 ?_
            refine V_aload_n rfl dX6_takes_84 ?_
            refine gf_X6_23 (by assumption) (by assumption) rfl dX6_takes_85 ?_
            refine V_bipush (nI 15) (by decide) dX6_takes_88 ?_
            refine V_iload_n rfl dX6_takes_90 ?_
            refine V_iaddN dX6_takes_91 ?_
            refine V_iald _ (by assumption) rfl (by omega) (by omega) dX6_takes_92 ?_
            refine V_topi (w7) ?_
            refine V_iast _ (by assumption) rfl (by omega) (by omega) dX6_takes_93 ?_
            rw [← hJc]
            refine V_iload_n rfl dX6_takes_94 ?_
            refine V_bipush (nI 10) (by decide) dX6_takes_95 ?_
            refine V_icmp_geN 115 dX6_takes_97 (by decide) (by omega) (by omega) (fun h97 => ?_) (fun h97 => absurd h97 (by omega))
            refine V_iinc1_ _ (nI_inc _) rfl rfl dX6_takes_115 ?_
            refine V_goto 31 dX6_takes_118 (by decide) ?_
            exact ih (k + 1) _ (by omega) (by omega) r1 r5 r8 r7 (r6.stay (by omega)) r2
        · skip
          refine V_iload_n rfl dX6_takes_31 ?_
          refine V_bipush (nI 20) (by decide) dX6_takes_32 ?_
          refine V_icmp_geN 121 dX6_takes_34 (by decide) (by omega) (by omega) (fun h34 => absurd h34 (by omega)) (fun h34 => ?_)
          refine V_aload_n rfl dX6_takes_37 ?_
          refine gf_X6_17 (by assumption) (by assumption) rfl dX6_takes_38 ?_
          refine V_iload_n rfl dX6_takes_41 ?_
          refine V_aload_n rfl dX6_takes_42 ?_
          refine gf_X6_17 (by assumption) (by assumption) rfl dX6_takes_43 ?_
          refine V_bipush (nI 20) (by decide) dX6_takes_46 ?_
          refine V_iload_n rfl dX6_takes_48 ?_
          refine V_iaddN dX6_takes_49 ?_
          refine V_iald _ (by assumption) rfl (by omega) (by omega) dX6_takes_50 ?_
          refine V_topi (v5) ?_
          refine V_iast _ (by assumption) rfl (by omega) (by omega) dX6_takes_51 ?_
          rw [← hJa]
          refine V_iload_n rfl dX6_takes_52 ?_
          refine V_bipush (nI 18) (by decide) dX6_takes_53 ?_
          refine V_icmp_geN 73 dX6_takes_55 (by decide) (by omega) (by omega) (fun h55 => absurd h55 (by omega)) (fun h55 => ?_)
          refine V_aload_n rfl dX6_takes_58 ?_
          refine gf_X6_26 (by assumption) (by assumption) rfl dX6_takes_59 ?_
          refine V_iload_n rfl dX6_takes_62 ?_
          refine V_aload_n rfl dX6_takes_63 ?_
          refine gf_X6_26 (by assumption) (by assumption) rfl dX6_takes_64 ?_
          refine V_bipush (nI 18) (by decide) dX6_takes_67 ?_
          refine V_iload_n rfl dX6_takes_69 ?_
          refine V_iaddN dX6_takes_70 ?_
          refine V_iald _ (by assumption) rfl (by omega) (by omega) dX6_takes_71 ?_
          refine V_topi (w8) ?_
          refine V_iast _ (by assumption) rfl (by omega) (by omega) dX6_takes_72 ?_
          rw [← hJb]
          refine V_iload_n rfl dX6_takes_73 ?_
          refine V_bipush (nI 15) (by decide) dX6_takes_74 ?_
          refine V_icmp_geN 94 dX6_takes_76 (by decide) (by omega) (by omega) (fun h76 => ?_) (fun h76 => absurd h76 (by omega))
          refine V_iload_n rfl dX6_takes_94 ?_
          refine V_bipush (nI 10) (by decide) dX6_takes_95 ?_
          refine V_icmp_geN 115 dX6_takes_97 (by decide) (by omega) (by omega) (fun h97 => ?_) (fun h97 => absurd h97 (by omega))
          refine V_iinc1_ _ (nI_inc _) rfl rfl dX6_takes_115 ?_
          refine V_goto 31 dX6_takes_118 (by decide) ?_
          exact ih (k + 1) _ (by omega) (by omega) p1 p5 p8 (p7.stay (by omega)) (p6.stay (by omega)) p2
      · skip
        refine V_iload_n rfl dX6_takes_31 ?_
        refine V_bipush (nI 20) (by decide) dX6_takes_32 ?_
        refine V_icmp_geN 121 dX6_takes_34 (by decide) (by omega) (by omega) (fun h34 => absurd h34 (by omega)) (fun h34 => ?_)
        refine V_aload_n rfl dX6_takes_37 ?_
        refine gf_X6_17 (by assumption) (by assumption) rfl dX6_takes_38 ?_
        refine V_iload_n rfl dX6_takes_41 ?_
        refine V_aload_n rfl dX6_takes_42 ?_
        refine gf_X6_17 (by assumption) (by assumption) rfl dX6_takes_43 ?_
        refine V_bipush (nI 20) (by decide) dX6_takes_46 ?_
        refine V_iload_n rfl dX6_takes_48 ?_
        refine V_iaddN dX6_takes_49 ?_
        refine V_iald _ (by assumption) rfl (by omega) (by omega) dX6_takes_50 ?_
        refine V_topi (v5) ?_
        refine V_iast _ (by assumption) rfl (by omega) (by omega) dX6_takes_51 ?_
        rw [← hJa]
        refine V_iload_n rfl dX6_takes_52 ?_
        refine V_bipush (nI 18) (by decide) dX6_takes_53 ?_
        refine V_icmp_geN 73 dX6_takes_55 (by decide) (by omega) (by omega) (fun h55 => ?_) (fun h55 => absurd h55 (by omega))
        refine V_iload_n rfl dX6_takes_73 ?_
        refine V_bipush (nI 15) (by decide) dX6_takes_74 ?_
        refine V_icmp_geN 94 dX6_takes_76 (by decide) (by omega) (by omega) (fun h76 => ?_) (fun h76 => absurd h76 (by omega))
        refine V_iload_n rfl dX6_takes_94 ?_
        refine V_bipush (nI 10) (by decide) dX6_takes_95 ?_
        refine V_icmp_geN 115 dX6_takes_97 (by decide) (by omega) (by omega) (fun h97 => ?_) (fun h97 => absurd h97 (by omega))
        refine V_iinc1_ _ (nI_inc _) rfl rfl dX6_takes_115 ?_
        refine V_goto 31 dX6_takes_118 (by decide) ?_
        exact ih (k + 1) _ (by omega) (by omega) n1 n5 (n8.stay (by omega)) (n7.stay (by omega)) (n6.stay (by omega)) n2
  have told : ∀ (d k : Nat) (J : IM), 7 - k = d → k ≤ 7 → (∀ i, i < k → J 94 i = I 94 (7 + i)) → (∀ i, k ≤ i → J 94 i = I 94 i) → (∀ q, q ≠ 94 → J q = I q) → V X (ZQ X (tkQ sg I x s P K)) sg J 2 [some (rf g 92), some (.int (nI k))] [] := by
    intro d
    induction d with
    | zero =>
      intro k J hd hk h1 h2 h3
      have e : k = 7 := by omega
      subst e
      refine V_iload_n rfl dX6_takes_2 ?_
      refine V_bipush (nI 7) (by decide) dX6_takes_3 ?_
      refine V_icmp_geN 29 dX6_takes_5 (by decide) (by omega) (by omega) (fun h5 => ?_) (fun h5 => absurd h5 (by decide))
      refine V_iconst (nI 0) (by decide) dX6_takes_29 ?_
      refine V_ist1 rfl rfl dX6_takes_30 ?_
      exact arr 20 0 J rfl (Nat.zero_le _) h1 (cpH.zero (h3 95 (by decide))) (cpH.zero (h3 98 (by decide))) (cpH.zero (h3 97 (by decide))) (cpH.zero (h3 96 (by decide))) (fun q hq => h3 q (by omega))
    | succ d ih =>
      intro k J hd hk h1 h2 h3
      have v := h2 (7 + k) (by omega)
      refine V_iload_n rfl dX6_takes_2 ?_
      refine V_bipush (nI 7) (by decide) dX6_takes_3 ?_
      refine V_icmp_geN 29 dX6_takes_5 (by decide) (by omega) (by omega) (fun h5 => absurd h5 (by omega)) (fun h5 => ?_)
      refine V_aload_n rfl dX6_takes_8 ?_
      refine gf_X6_13 (by assumption) (by assumption) rfl dX6_takes_9 ?_
      refine V_iload_n rfl dX6_takes_12 ?_
      refine V_aload_n rfl dX6_takes_13 ?_
      refine gf_X6_13 (by assumption) (by assumption) rfl dX6_takes_14 ?_
      refine V_bipush (nI 7) (by decide) dX6_takes_17 ?_
      refine V_iload_n rfl dX6_takes_19 ?_
      refine V_iaddN dX6_takes_20 ?_
      refine V_iald _ (by assumption) rfl (by omega) (by omega) dX6_takes_21 ?_
      refine V_topi (v) ?_
      refine V_iast _ (by assumption) rfl (by omega) (by omega) dX6_takes_22 ?_
      refine V_iinc1_ _ (nI_inc _) rfl rfl dX6_takes_23 ?_
      refine V_goto 2 dX6_takes_26 (by decide) ?_
      refine ih (k + 1) _ (by omega) (by omega) (fun i hi => ?_) (fun i hi => (upI_ne (Or.inr (by omega))).trans (h2 i (by omega))) (fun q hq => (funext fun i => upI_ne (Or.inl hq)).trans (h3 q hq))
      by_cases c : i = k
      · rw [c]; exact upI_eq
      · rw [upI_ne (Or.inr c)]; exact h1 i (by omega)
  refine V_iconst (nI 0) (by decide) dX6_takes_0 ?_
  refine V_ist1 rfl rfl dX6_takes_1 ?_
  exact told 7 0 I rfl (Nat.zero_le _) (fun i hi => absurd hi (Nat.not_lt_zero i)) (fun _ _ => rfl) (fun _ _ => rfl)
theorem D_lay (hM : MSt sg I x tv W P K) (hS : STok x tv W P K) : Ct m_X6_lay g [rf g 92] sg I (mstQ sg I (lTv x tv) (gLay x W P K)) := by
  have hM0 := hM
  obtain ⟨hX0, hok, -⟩ := hS
  obtain ⟨hK, ⟨mlen, mtx⟩, -⟩ := hM
  have hK0 := hK
  obtain ⟨m0, mR1, mR3, mR4, mR5, mR6, mR7, mR8, mR10, mR16, mR17, mA93, mA94, mA95, mA96, mA97, mA98, mA99, mA100, mA101, mA102⟩ := hK
  have hx200 := hX0.1
  have hok2 := tol_ok (x := x)
  refine Ct.of rfl (Nat.le_of_ble_eq_true rfl) fun X => ?_
  show V X _ sg I 0 [some (rf g 92)] []
  have hno : ∀ J, fF I J → ¬ layB x = true → mstQ sg I (lTv x tv) (gLay x W P K) (some (.int (-2))) sg J := by
    intro J hf hl
    unfold lTv gLay
    rw [if_neg hl, if_neg hl]
    exact ⟨rfl, rfl, hM0.ff hok hf, fun q hq => hf.1 q (Or.inl hq)⟩
  refine V_aload_n rfl dX6_lay_0 ?_
  refine cl_X6_116 (D_fault0 hK0 mlen mtx hX0) (by assumption) rfl rfl ft0 (Nat.le_of_ble_eq_true rfl) dX6_lay_1 (fun rr s9 J9 hq => ?_)
  obtain ⟨rfl, hs, hf, hq⟩ := hq
  have hs := hs.symm
  subst hs
  unfold fFault
  cases hfl : flt x with
  | some p =>
    have hnl : ¬ layB x = true := fun z => by rw [(layB_t z).1] at hfl; cases hfl
    have hpl : p < x.1 := rd_flt hfl
    have hn4 : ¬ nI p = -4 := fun e => absurd (nI_ge0 (show p < 2147483648 by omega)) (by rw [e]; decide)
    show V X _ sg J9 4 _ [.int (nI p)]
    refine V_bipush (-4) (by decide) dX6_lay_4 ?_
    refine V_icmp_ne 52 dX6_lay_6 (by decide) (fun h6 => ?_) (fun h6 => absurd h6 (by exact hn4))
    refine V_bipush (-2) (by decide) dX6_lay_52 ?_
    refine V_iret rfl rfl rfl ?_ dX6_lay_54
    exact hno J9 hf hnl
  | none =>
    have hD := hq hfl
    have hK9 := hK0
    obtain ⟨d7, d8, d9, d10, d11, d12, d13, dL, dP, dS, dB⟩ := id hD
    have jlen : J9 92 0 = nI x.1 := (hf.2.1 0 (by decide)).trans mlen
    have jtx : ∀ i, i < x.1 → J9 93 i = nI (x.2 i) := fun i hi => by rw [hf.1 93 (by omega)]; exact mtx i hi
    obtain ⟨S2, hS2⟩ : ∃ S2, S2 = (rdF x 200 0 (initT, false)).2 := ⟨_, rfl⟩
    have eT : tolT x = S2.1 := by rw [hS2]; rfl
    rw [← hS2] at hD d7 d8 d9 d10 d11 d12 d13 dL dP dS dB
    rw [eT] at hok2
    have hok3 := hok2
    obtain ⟨o1, o2, o3, o4', o5, o6, o7, o8, o9, o10, o11⟩ := hok2
    have h256 := p2_le8 o2
    have hb16 : ∀ k, k < (tL S2.1).1 → (tL S2.1).2 k 0 < 16 ∧ (tL S2.1).2 k 1 < 16 := fun k hk => by have := o4' k hk; omega
    have hlw : allB (tL S2.1).1 (fun i => !so ((tL S2.1).2 i 0) (tX S2.1) || so ((tL S2.1).2 i 1) (tX S2.1)) = lawB S2.1 (tX S2.1) := rfl
    show V X _ sg J9 4 _ [.int (-4)]
    refine V_bipush (-4) (by decide) dX6_lay_4 ?_
    refine V_icmp_ne 52 dX6_lay_6 (by decide) (fun h6 => absurd h6 (by exact fun z => z rfl)) (fun h6 => ?_)
    refine V_aload_n rfl dX6_lay_9 ?_
    refine gf_X6_13 (by assumption) (by assumption) rfl dX6_lay_10 ?_
    refine V_bipush (nI 9) (by decide) dX6_lay_13 ?_
    refine V_iald _ (by assumption) rfl (by omega) (by omega) dX6_lay_15 ?_
    refine V_topi (d9) ?_
    refine V_if_eqN 52 dX6_lay_16 (by decide) (by omega) (fun h16 => ?_) (fun h16 => ?_)
    · skip
      refine V_bipush (-2) (by decide) dX6_lay_52 ?_
      refine V_iret rfl rfl rfl ?_ dX6_lay_54
      refine hno J9 hf (fun z => ?_)
      obtain ⟨z1, z2, z3, z4⟩ := layB_t z
      rw [eT] at z2 z3 z4
      first
      | omega
      | (rw [← hlw] at z4; exact h49 z4)
    · skip
      refine V_aload_n rfl dX6_lay_19 ?_
      refine gf_X6_13 (by assumption) (by assumption) rfl dX6_lay_20 ?_
      refine V_bipush (nI 10) (by decide) dX6_lay_23 ?_
      refine V_iald _ (by assumption) rfl (by omega) (by omega) dX6_lay_25 ?_
      refine V_topi (d10) ?_
      refine V_if_eqN 52 dX6_lay_26 (by decide) (by omega) (fun h26 => ?_) (fun h26 => ?_)
      · skip
        refine V_bipush (-2) (by decide) dX6_lay_52 ?_
        refine V_iret rfl rfl rfl ?_ dX6_lay_54
        refine hno J9 hf (fun z => ?_)
        obtain ⟨z1, z2, z3, z4⟩ := layB_t z
        rw [eT] at z2 z3 z4
        first
        | omega
        | (rw [← hlw] at z4; exact h49 z4)
      · skip
        refine V_aload_n rfl dX6_lay_29 ?_
        refine V_aload_n rfl dX6_lay_30 ?_
        refine gf_X6_13 (by assumption) (by assumption) rfl dX6_lay_31 ?_
        refine V_bipush (nI 12) (by decide) dX6_lay_34 ?_
        refine V_iald _ (by assumption) rfl (by omega) (by omega) dX6_lay_36 ?_
        refine V_topi (d12) ?_
        refine V_bipush (nI 20) (by decide) dX6_lay_37 ?_
        refine V_aload_n rfl dX6_lay_39 ?_
        refine gf_X6_13 (by assumption) (by assumption) rfl dX6_lay_40 ?_
        refine V_bipush (nI 8) (by decide) dX6_lay_43 ?_
        refine V_iald _ (by assumption) rfl (by omega) (by omega) dX6_lay_45 ?_
        refine V_topi (d8) ?_
        refine cf_X6_98 (D_isLawful hK0 dL o8 (by decide) hb16 (by omega)) (by assumption) rfl rfl ft0 (Nat.le_of_ble_eq_true rfl) dX6_lay_46 ?_
        refine V_if_neB 55 dX6_lay_49 (by decide) (fun h49 => ?_) (fun h49 => ?_)
        · skip
          refine V_aload_n rfl dX6_lay_55 ?_
          refine cl_X6_45 (D_takes (P := P) (K := K) hK0 jlen jtx hD hok3) (by assumption) rfl rfl ft0 (Nat.le_of_ble_eq_true rfl) dX6_lay_56 (fun rr s9 J2 hq2 => ?_)
          obtain ⟨rfl, hs, hq3, hq4⟩ := hq2
          have hs := hs.symm
          subst hs
          show V X _ sg J2 59 _ []
          have jw : J2 92 9 = nI (nw' S2.1) := hq3.2.2.1.2.2.2.2.2.2.2.2.2.2
          have hlB : layB x = true := layB_of ⟨hfl, by rw [eT]; omega, by rw [eT]; omega, by rw [eT, ← hlw]; exact h49⟩
          refine V_aload_n rfl dX6_lay_59 ?_
          refine gfe_X6_95 (by assumption) (by assumption) rfl dX6_lay_60 ?_
          refine V_iret rfl rfl rfl ?_ dX6_lay_63
          unfold lTv gLay
          rw [if_pos hlB, if_pos hlB, eT]
          exact ⟨rfl, rfl, hq3, fun q hq => (hq4 q hq).trans (hf.1 q (Or.inl hq))⟩
        · skip
          refine V_bipush (-2) (by decide) dX6_lay_52 ?_
          refine V_iret rfl rfl rfl ?_ dX6_lay_54
          refine hno J9 hf (fun z => ?_)
          obtain ⟨z1, z2, z3, z4⟩ := layB_t z
          rw [eT] at z2 z3 z4
          first
          | omega
          | (rw [← hlw] at z4; exact h49 z4)
end MLAY
