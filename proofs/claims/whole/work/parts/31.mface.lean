/-! CarvedWeeksModel: the reads that change nothing, or but what is known -/
def MSt (sg : SG) (I : IM) (x : XV) (tv : TV) (W : WV) (P K : SV) : Prop := MK sg ∧ (I 92 0 = nI x.1 ∧ ∀ i, i < x.1 → I 93 i = nI (x.2 i)) ∧ MTn I tv ∧ SlW I 0 W (tP tv).1 ∧ I 92 11 = nI K.1 ∧ (∀ i, i < K.1 → SlW I (1 + i) (K.2 i) (tP tv).1) ∧ I 92 12 = nI P.1 ∧ ∀ i, i < P.1 → SlW I (3 + i) (P.2 i) (tP tv).1
def knF (I J : IM) : Prop := (∀ q, q ≠ 92 → J q = I q) ∧ ∀ k, k ≠ 13 → k ≠ 14 → k ≠ 15 → k ≠ 18 → J 92 k = I 92 k
theorem knF.refl {I : IM} : knF I I := ⟨fun _ _ => rfl, fun _ _ _ _ _ => rfl⟩
theorem knF.trans {I J H : IM} (a : knF I J) (b : knF J H) : knF I H := ⟨fun q h => (b.1 q h).trans (a.1 q h), fun k h1 h2 h3 h4 => (b.2 k h1 h2 h3 h4).trans (a.2 k h1 h2 h3 h4)⟩
theorem MTn.kn {I J : IM} {tv : TV} (h : MTn I tv) (e : knF I J) : MTn J tv := by
  unfold MTn at h ⊢
  rw [e.1 94 (by decide), e.1 95 (by decide), e.1 96 (by decide), e.1 97 (by decide), e.1 98 (by decide), e.1 99 (by decide), e.2 9 (by decide) (by decide) (by decide) (by decide)]
  exact h
theorem SlW.kn {I J : IM} {s np : Nat} {W : WV} (h : SlW I s W np) (e : knF I J) : SlW J s W np := by
  unfold SlW at h ⊢
  rw [e.1 100 (by decide)]; exact h
theorem MSt.kn {sg : SG} {I J : IM} {x : XV} {tv : TV} {W : WV} {P K : SV} (h : MSt sg I x tv W P K) (e : knF I J) : MSt sg J x tv W P K := by
  obtain ⟨a, ⟨b1, b2⟩, c, d, f, k, l, m⟩ := h
  exact ⟨a, ⟨by rw [e.2 0 (by decide) (by decide) (by decide) (by decide)]; exact b1, fun i hi => by rw [e.1 93 (by decide)]; exact b2 i hi⟩, c.kn e, d.kn e, by rw [e.2 11 (by decide) (by decide) (by decide) (by decide)]; exact f, fun i hi => (k i hi).kn e, by rw [e.2 12 (by decide) (by decide) (by decide) (by decide)]; exact l, fun i hi => (m i hi).kn e⟩
theorem kw_kn {sg : SG} {I J : IM} {tv : TV} {rd : Nat} {r0 : Option Value} {s0 : SG} (h : kwQ sg I tv rd r0 s0 J) : knF I J := ⟨h.2.2.2.2.2.1, fun k h1 h2 h3 _ => h.2.2.2.2.2.2 k h1 h2 h3⟩
/-- an answer, with no more changed than what is known -/
def knQ (sg : SG) (I : IM) (a : Int32) : Option Value → SG → IM → Prop := fun r0 s0 J => r0 = some (.int a) ∧ s0 = sg ∧ knF I J
theorem rgt_pc {tv : TV} {tr rd : Nat} (h8 : tF tv ≤ 8) (ht : tr < 2 ^ tF tv) : pc16 (bm (tF tv) (fun f => knw tv rd (2 * f)) &&& tr) + pc16 (bm (tF tv) (fun f => knw tv rd (2 * f + 1)) ^^^ (bm (tF tv) (fun f => knw tv rd (2 * f + 1)) &&& tr)) = rgtN tv tr rd := by
  have e : tr = bm (tF tv) (fun i => tr.testBit i) := bm_ext ht (fun i _ => rfl)
  have e1 : pc16 (bm (tF tv) (fun f => knw tv rd (2 * f)) &&& tr) = cnt (tF tv) (fun f => knw tv rd (2 * f) && so (2 * f) tr) := by
    conv => lhs; rw [e]
    rw [bm_and, show pc16 = pcN 16 from rfl, pc_bm (by omega)]
    exact cnt_congr (fun i _ => by rw [so_even])
  have e2 : pc16 (bm (tF tv) (fun f => knw tv rd (2 * f + 1)) ^^^ (bm (tF tv) (fun f => knw tv rd (2 * f + 1)) &&& tr)) = cnt (tF tv) (fun f => knw tv rd (2 * f + 1) && so (2 * f + 1) tr) := by
    conv => lhs; rw [e]
    rw [bm_andn, show pc16 = pcN 16 from rfl, pc_bm (by omega)]
    exact cnt_congr (fun i _ => by rw [so_odd])
  rw [e1, e2]; unfold rgtN; rw [cnt_pair]
theorem wrg_pc {tv : TV} {tr rd : Nat} (h8 : tF tv ≤ 8) (ht : tr < 2 ^ tF tv) : pc16 (bm (tF tv) (fun f => knw tv rd (2 * f)) ^^^ (bm (tF tv) (fun f => knw tv rd (2 * f)) &&& tr)) + pc16 (bm (tF tv) (fun f => knw tv rd (2 * f + 1)) &&& tr) = wrgN tv tr rd := by
  have e : tr = bm (tF tv) (fun i => tr.testBit i) := bm_ext ht (fun i _ => rfl)
  have e1 : pc16 (bm (tF tv) (fun f => knw tv rd (2 * f + 1)) &&& tr) = cnt (tF tv) (fun f => knw tv rd (2 * f + 1) && !so (2 * f + 1) tr) := by
    conv => lhs; rw [e]
    rw [bm_and, show pc16 = pcN 16 from rfl, pc_bm (by omega)]
    exact cnt_congr (fun i _ => by rw [so_odd, Bool.not_not])
  have e2 : pc16 (bm (tF tv) (fun f => knw tv rd (2 * f)) ^^^ (bm (tF tv) (fun f => knw tv rd (2 * f)) &&& tr)) = cnt (tF tv) (fun f => knw tv rd (2 * f) && !so (2 * f) tr) := by
    conv => lhs; rw [e]
    rw [bm_andn, show pc16 = pcN 16 from rfl, pc_bm (by omega)]
    exact cnt_congr (fun i _ => by rw [so_even])
  rw [e1, e2]; unfold wrgN; rw [cnt_pair]
section MFACE
variable {g : GC} {sg : SG} {I : IM} {x : XV} {tv : TV} {W : WV} {P K : SV} {np : Nat}
theorem D_right {s rd : Nat} (hK : MK sg) (hok : TVok tv) (hW : SlW I s W np) (hs12 : s < 12) (ht : wT W < 2 ^ tF tv) (hA : I 92 14 = nI (bm (tF tv) (fun f => knw tv rd (2 * f)))) (hN : I 92 15 = nI (bm (tF tv) (fun f => knw tv rd (2 * f + 1)))) : Fn m_X6_right g [rf g 92, .int (nI s)] sg I (some (.int (nI (rgtN tv (wT W) rd)))) sg I := by
  obtain ⟨m0, mR1, mR3, mR4, mR5, mR6, mR7, mR8, mR10, mR16, mR17, mA93, mA94, mA95, mA96, mA97, mA98, mA99, mA100, mA101, mA102⟩ := hK
  have hF8 := hok.2.1
  have h256 := p2_le8 hF8
  have b1 : bm (tF tv) (fun f => knw tv rd (2 * f)) < 65536 := bm_16 (by omega)
  have b2 : bm (tF tv) (fun f => knw tv rd (2 * f + 1)) < 65536 := bm_16 (by omega)
  rw [← rgt_pc hF8 ht]
  refine Ct.of rfl (Nat.le_of_ble_eq_true rfl) fun X => ?_
  show V X _ sg I 0 [some (rf g 92), some (.int (nI s))] []
  refine V_aload_n rfl dX6_right_0 ?_
  refine gfe_X6_178 (by assumption) (by assumption) rfl dX6_right_1 ?_
  refine V_aload_n rfl dX6_right_4 ?_
  refine gf_X6_33 (by assumption) (by assumption) rfl dX6_right_5 ?_
  refine V_bipush (nI 56) (by decide) dX6_right_8 ?_
  refine V_iload_n rfl dX6_right_10 ?_
  refine V_imulN dX6_right_11 ?_
  refine V_iald _ (by assumption) rfl (by omega) (by omega) dX6_right_12 ?_
  refine V_topi (hW.1) ?_
  refine V_iandN dX6_right_13 ?_
  refine cf_X6_149 (D_many (Nat.lt_of_le_of_lt Nat.and_le_left b1)) rfl rfl ft0 (Nat.le_of_ble_eq_true rfl) dX6_right_14 ?_
  refine V_aload_n rfl dX6_right_17 ?_
  refine gfe_X6_181 (by assumption) (by assumption) rfl dX6_right_18 ?_
  refine V_aload_n rfl dX6_right_21 ?_
  refine gf_X6_33 (by assumption) (by assumption) rfl dX6_right_22 ?_
  refine V_bipush (nI 56) (by decide) dX6_right_25 ?_
  refine V_iload_n rfl dX6_right_27 ?_
  refine V_imulN dX6_right_28 ?_
  refine V_iald _ (by assumption) rfl (by omega) (by omega) dX6_right_29 ?_
  refine V_topi (hW.1) ?_
  refine V_iconst (-1) (by decide) dX6_right_30 ?_
  skip
  refine V_ixor dX6_right_31 ?_
  refine V_iand dX6_right_32 ?_
  refine V_topi (nI_andn _ _ (by omega)) ?_
  refine cf_X6_149 (D_many (Nat.xor_lt_two_pow (n := 16) b2 (Nat.lt_of_le_of_lt Nat.and_le_left b2))) rfl rfl ft0 (Nat.le_of_ble_eq_true rfl) dX6_right_33 ?_
  refine V_iaddN dX6_right_36 ?_
  refine V_iret rfl rfl rfl ?_ dX6_right_37
  exact ⟨rfl, rfl, rfl⟩
theorem D_wrong {s rd : Nat} (hK : MK sg) (hok : TVok tv) (hW : SlW I s W np) (hs12 : s < 12) (ht : wT W < 2 ^ tF tv) (hA : I 92 14 = nI (bm (tF tv) (fun f => knw tv rd (2 * f)))) (hN : I 92 15 = nI (bm (tF tv) (fun f => knw tv rd (2 * f + 1)))) : Fn m_X6_wrong g [rf g 92, .int (nI s)] sg I (some (.int (nI (wrgN tv (wT W) rd)))) sg I := by
  obtain ⟨m0, mR1, mR3, mR4, mR5, mR6, mR7, mR8, mR10, mR16, mR17, mA93, mA94, mA95, mA96, mA97, mA98, mA99, mA100, mA101, mA102⟩ := hK
  have hF8 := hok.2.1
  have h256 := p2_le8 hF8
  have b1 : bm (tF tv) (fun f => knw tv rd (2 * f)) < 65536 := bm_16 (by omega)
  have b2 : bm (tF tv) (fun f => knw tv rd (2 * f + 1)) < 65536 := bm_16 (by omega)
  rw [← wrg_pc hF8 ht]
  refine Ct.of rfl (Nat.le_of_ble_eq_true rfl) fun X => ?_
  show V X _ sg I 0 [some (rf g 92), some (.int (nI s))] []
  refine V_aload_n rfl dX6_wrong_0 ?_
  refine gfe_X6_178 (by assumption) (by assumption) rfl dX6_wrong_1 ?_
  refine V_aload_n rfl dX6_wrong_4 ?_
  refine gf_X6_33 (by assumption) (by assumption) rfl dX6_wrong_5 ?_
  refine V_bipush (nI 56) (by decide) dX6_wrong_8 ?_
  refine V_iload_n rfl dX6_wrong_10 ?_
  refine V_imulN dX6_wrong_11 ?_
  refine V_iald _ (by assumption) rfl (by omega) (by omega) dX6_wrong_12 ?_
  refine V_topi (hW.1) ?_
  refine V_iconst (-1) (by decide) dX6_wrong_13 ?_
  skip
  refine V_ixor dX6_wrong_14 ?_
  refine V_iand dX6_wrong_15 ?_
  refine V_topi (nI_andn _ _ (by omega)) ?_
  refine cf_X6_149 (D_many (Nat.xor_lt_two_pow (n := 16) b1 (Nat.lt_of_le_of_lt Nat.and_le_left b1))) rfl rfl ft0 (Nat.le_of_ble_eq_true rfl) dX6_wrong_16 ?_
  refine V_aload_n rfl dX6_wrong_19 ?_
  refine gfe_X6_181 (by assumption) (by assumption) rfl dX6_wrong_20 ?_
  refine V_aload_n rfl dX6_wrong_23 ?_
  refine gf_X6_33 (by assumption) (by assumption) rfl dX6_wrong_24 ?_
  refine V_bipush (nI 56) (by decide) dX6_wrong_27 ?_
  refine V_iload_n rfl dX6_wrong_29 ?_
  refine V_imulN dX6_wrong_30 ?_
  refine V_iald _ (by assumption) rfl (by omega) (by omega) dX6_wrong_31 ?_
  refine V_topi (hW.1) ?_
  refine V_iandN dX6_wrong_32 ?_
  refine cf_X6_149 (D_many (Nat.lt_of_le_of_lt Nat.and_le_left b2)) rfl rfl ft0 (Nat.le_of_ble_eq_true rfl) dX6_wrong_33 ?_
  refine V_iaddN dX6_wrong_36 ?_
  refine V_iret rfl rfl rfl ?_ dX6_wrong_37
  exact ⟨rfl, rfl, rfl⟩
theorem D_law {k w : Int32} (hM : MSt sg I x tv W P K) (hS : STok x tv W P K) : Fn m_X6_law g [rf g 92, .int k, .int w] sg I (some (.int (fLaw tv k w))) sg I := by
  obtain ⟨hX0, hok, hnp, hns, ⟨hWok, hwk⟩, hPok, hKok⟩ := hS
  obtain ⟨hK, ⟨mlen, mtx⟩, hT, hW, mkept, mKs, mdone, mPs⟩ := hM
  have hK0 := hK
  have hT0 := hT
  have hW0 := hW
  obtain ⟨m0, mR1, mR3, mR4, mR5, mR6, mR7, mR8, mR10, mR16, mR17, mA93, mA94, mA95, mA96, mA97, mA98, mA99, mA100, mA101, mA102⟩ := hK
  obtain ⟨mF, mnL, mnP, mnS, mnB, mL, mP, mS, mB, mWd, mnw⟩ := hT
  have hF1 := hok.1
  have hF8 := hok.2.1
  have h256 := p2_le8 hF8
  have h16 := p2_le16 hF8
  have nL10 := hok.2.2.2.2.2.2.2.1
  have nP5 := hok.2.2.2.2.2.2.2.2.1
  have nS5 := hok.2.2.2.2.2.2.2.2.2.1
  have nB6 := hok.2.2.2.2.2.2.2.2.2.2
  have hmk := hWok.2.2.2.1
  have hn12 := hmk.1
  have htr := hWok.1
  have hnw := nw_le hF8
  have hnw0 := nw_pos hWok
  obtain ⟨wT0, wK0, wM0, wH0, wC0⟩ := id hW
  refine Ct.of rfl (Nat.le_of_ble_eq_true rfl) fun X => ?_
  show V X _ sg I 0 [some (rf g 92), some (.int k), some (.int w)] []
  refine V_iload_n rfl dX6_law_0 ?_
  refine V_i2l dX6_law_1 ?_
  refine V_lconst (lN 0) rfl dX6_law_2 ?_
  refine V_aload_n rfl dX6_law_3 ?_
  refine gf_X6_13 (by assumption) (by assumption) rfl dX6_law_4 ?_
  refine V_iconst (nI 1) (by decide) dX6_law_7 ?_
  refine V_iald _ (by assumption) rfl (by omega) (by omega) dX6_law_8 ?_
  refine V_topi (mnL) ?_
  refine V_iconst (nI 1) (by decide) dX6_law_9 ?_
  refine V_isub dX6_law_10 ?_
  refine V_i2l dX6_law_11 ?_
  refine cf_X6_52 (C_in0 (by omega)) rfl rfl ft0 (Nat.le_of_ble_eq_true rfl) dX6_law_12 ?_
  refine V_if_eqB 41 dX6_law_15 (by decide) (fun h15 => ?_) (fun h15 => ?_)
  · skip
    refine V_iconst (-1) (by decide) dX6_law_41 ?_
    refine V_iret rfl rfl rfl ?_ dX6_law_42
    refine ⟨?_, rfl, rfl⟩
    unfold fLaw
    first
    | rw [ifb_neg h15]
    | rw [ifb_pos hk (by omega) rfl, ifb_neg h25]
    | rw [ifb_pos hk (by omega) rfl, ifb_pos hw (by decide) rfl]
  · skip
    obtain ⟨k, hk, rfl⟩ := bel_ex (by omega) h15
    refine V_iload_n rfl dX6_law_18 ?_
    refine V_i2l dX6_law_19 ?_
    refine V_lconst (lN 0) rfl dX6_law_20 ?_
    refine V_lconst (lN 1) rfl dX6_law_21 ?_
    refine cf_X6_52 (C_in0k (k := 1) (by decide)) rfl rfl ft0 (Nat.le_of_ble_eq_true rfl) dX6_law_22 ?_
    refine V_if_eqB 41 dX6_law_25 (by decide) (fun h25 => ?_) (fun h25 => ?_)
    · skip
      refine V_iconst (-1) (by decide) dX6_law_41 ?_
      refine V_iret rfl rfl rfl ?_ dX6_law_42
      refine ⟨?_, rfl, rfl⟩
      unfold fLaw
      first
      | rw [ifb_neg h15]
      | rw [ifb_pos hk (by omega) rfl, ifb_neg h25]
      | rw [ifb_pos hk (by omega) rfl, ifb_pos hw (by decide) rfl]
    · skip
      obtain ⟨w, hw, rfl⟩ := bel_ex (by decide) h25
      refine V_aload_n rfl dX6_law_28 ?_
      refine gf_X6_17 (by assumption) (by assumption) rfl dX6_law_29 ?_
      refine V_iconst (nI 2) (by decide) dX6_law_32 ?_
      refine V_iload_n rfl dX6_law_33 ?_
      refine V_imulN dX6_law_34 ?_
      refine V_iload_n rfl dX6_law_35 ?_
      refine V_iaddN dX6_law_36 ?_
      refine V_iald _ (by assumption) rfl (by omega) (by omega) dX6_law_37 ?_
      refine V_topi (mL k hk w hw) ?_
      refine V_goto 42 dX6_law_38 (by decide) ?_
      refine V_iret rfl rfl rfl ?_ dX6_law_42
      refine ⟨?_, rfl, rfl⟩
      unfold fLaw
      first
      | rw [ifb_neg h15]
      | rw [ifb_pos hk (by omega) rfl, ifb_neg h25]
      | rw [ifb_pos hk (by omega) rfl, ifb_pos hw (by decide) rfl]
theorem D_person {k w : Int32} (hM : MSt sg I x tv W P K) (hS : STok x tv W P K) : Fn m_X6_person g [rf g 92, .int k, .int w] sg I (some (.int (fPerson tv W k w))) sg I := by
  obtain ⟨hX0, hok, hnp, hns, ⟨hWok, hwk⟩, hPok, hKok⟩ := hS
  obtain ⟨hK, ⟨mlen, mtx⟩, hT, hW, mkept, mKs, mdone, mPs⟩ := hM
  have hK0 := hK
  have hT0 := hT
  have hW0 := hW
  obtain ⟨m0, mR1, mR3, mR4, mR5, mR6, mR7, mR8, mR10, mR16, mR17, mA93, mA94, mA95, mA96, mA97, mA98, mA99, mA100, mA101, mA102⟩ := hK
  obtain ⟨mF, mnL, mnP, mnS, mnB, mL, mP, mS, mB, mWd, mnw⟩ := hT
  have hF1 := hok.1
  have hF8 := hok.2.1
  have h256 := p2_le8 hF8
  have h16 := p2_le16 hF8
  have nL10 := hok.2.2.2.2.2.2.2.1
  have nP5 := hok.2.2.2.2.2.2.2.2.1
  have nS5 := hok.2.2.2.2.2.2.2.2.2.1
  have nB6 := hok.2.2.2.2.2.2.2.2.2.2
  have hmk := hWok.2.2.2.1
  have hn12 := hmk.1
  have htr := hWok.1
  have hnw := nw_le hF8
  have hnw0 := nw_pos hWok
  obtain ⟨wT0, wK0, wM0, wH0, wC0⟩ := id hW
  refine Ct.of rfl (Nat.le_of_ble_eq_true rfl) fun X => ?_
  show V X _ sg I 0 [some (rf g 92), some (.int k), some (.int w)] []
  refine V_aload_n rfl dX6_person_0 ?_
  refine V_iload_n rfl dX6_person_1 ?_
  refine cf_X6_119 (D_isPerson hK0 hT0 hok) (by assumption) rfl rfl ft0 (Nat.le_of_ble_eq_true rfl) dX6_person_2 ?_
  refine V_if_eqB 20 dX6_person_5 (by decide) (fun h5 => ?_) (fun h5 => ?_)
  · skip
    refine V_iconst (-1) (by decide) dX6_person_20 ?_
    refine V_iret rfl rfl rfl ?_ dX6_person_21
    refine ⟨?_, rfl, rfl⟩
    unfold fPerson
    first
    | rw [ifb_neg h5]
    | rw [ifb_pos hk (by omega) rfl, ifb_neg h17]
    | rw [ifb_pos hk (by omega) rfl, ifb_pos hw (by decide) rfl, if_neg (by omega)]
    | rw [ifb_pos hk (by omega) rfl, ifb_pos hw (by decide) rfl, if_pos (by omega)]
  · skip
    obtain ⟨k, hk, rfl⟩ := bel_ex (by omega) h5
    refine V_iload_n rfl dX6_person_8 ?_
    refine V_i2l dX6_person_9 ?_
    refine V_lconst (lN 0) rfl dX6_person_10 ?_
    refine V_ldc2 RX6 _ rfl wk_X6_67 dX6_person_11 ?_
    rw [show (2 : Int64) = lN 2 from by decide]
    refine cf_X6_52 (C_in0k (k := 2) (by decide)) rfl rfl ft0 (Nat.le_of_ble_eq_true rfl) dX6_person_14 ?_
    refine V_if_neB 22 dX6_person_17 (by decide) (fun h17 => ?_) (fun h17 => ?_)
    · skip
      obtain ⟨w, hw, rfl⟩ := bel_ex (by decide) h17
      refine V_iload_n rfl dX6_person_22 ?_
      refine V_iconst (nI 2) (by decide) dX6_person_23 ?_
      refine V_icmp_geN 40 dX6_person_24 (by decide) (by omega) (by omega) (fun h24 => ?_) (fun h24 => ?_)
      · skip
        refine V_aload_n rfl dX6_person_40 ?_
        refine gf_X6_33 (by assumption) (by assumption) rfl dX6_person_41 ?_
        refine V_iconst (nI 3) (by decide) dX6_person_44 ?_
        refine V_iload_n rfl dX6_person_45 ?_
        refine V_iaddN dX6_person_46 ?_
        refine V_iald _ (by assumption) rfl (by omega) (by omega) dX6_person_47 ?_
        refine V_topi (wH0 k hk) ?_
        refine V_iret rfl rfl rfl ?_ dX6_person_48
        refine ⟨?_, rfl, rfl⟩
        unfold fPerson
        first
        | rw [ifb_neg h5]
        | rw [ifb_pos hk (by omega) rfl, ifb_neg h17]
        | rw [ifb_pos hk (by omega) rfl, ifb_pos hw (by decide) rfl, if_neg (by omega)]
        | rw [ifb_pos hk (by omega) rfl, ifb_pos hw (by decide) rfl, if_pos (by omega)]
      · skip
        refine V_aload_n rfl dX6_person_27 ?_
        refine gf_X6_20 (by assumption) (by assumption) rfl dX6_person_28 ?_
        refine V_iconst (nI 2) (by decide) dX6_person_31 ?_
        refine V_iload_n rfl dX6_person_32 ?_
        refine V_imulN dX6_person_33 ?_
        refine V_iload_n rfl dX6_person_34 ?_
        refine V_iaddN dX6_person_35 ?_
        refine V_iald _ (by assumption) rfl (by omega) (by omega) dX6_person_36 ?_
        refine V_topi (mP k hk w (by omega)) ?_
        refine V_goto 48 dX6_person_37 (by decide) ?_
        refine V_iret rfl rfl rfl ?_ dX6_person_48
        refine ⟨?_, rfl, rfl⟩
        unfold fPerson
        first
        | rw [ifb_neg h5]
        | rw [ifb_pos hk (by omega) rfl, ifb_neg h17]
        | rw [ifb_pos hk (by omega) rfl, ifb_pos hw (by decide) rfl, if_neg (by omega)]
        | rw [ifb_pos hk (by omega) rfl, ifb_pos hw (by decide) rfl, if_pos (by omega)]
    · skip
      refine V_iconst (-1) (by decide) dX6_person_20 ?_
      refine V_iret rfl rfl rfl ?_ dX6_person_21
      refine ⟨?_, rfl, rfl⟩
      unfold fPerson
      first
      | rw [ifb_neg h5]
      | rw [ifb_pos hk (by omega) rfl, ifb_neg h17]
      | rw [ifb_pos hk (by omega) rfl, ifb_pos hw (by decide) rfl, if_neg (by omega)]
      | rw [ifb_pos hk (by omega) rfl, ifb_pos hw (by decide) rfl, if_pos (by omega)]
theorem D_stone {k w : Int32} (hM : MSt sg I x tv W P K) (hS : STok x tv W P K) : Fn m_X6_stone g [rf g 92, .int k, .int w] sg I (some (.int (fStone tv W k w))) sg I := by
  obtain ⟨hX0, hok, hnp, hns, ⟨hWok, hwk⟩, hPok, hKok⟩ := hS
  obtain ⟨hK, ⟨mlen, mtx⟩, hT, hW, mkept, mKs, mdone, mPs⟩ := hM
  have hK0 := hK
  have hT0 := hT
  have hW0 := hW
  obtain ⟨m0, mR1, mR3, mR4, mR5, mR6, mR7, mR8, mR10, mR16, mR17, mA93, mA94, mA95, mA96, mA97, mA98, mA99, mA100, mA101, mA102⟩ := hK
  obtain ⟨mF, mnL, mnP, mnS, mnB, mL, mP, mS, mB, mWd, mnw⟩ := hT
  have hF1 := hok.1
  have hF8 := hok.2.1
  have h256 := p2_le8 hF8
  have h16 := p2_le16 hF8
  have nL10 := hok.2.2.2.2.2.2.2.1
  have nP5 := hok.2.2.2.2.2.2.2.2.1
  have nS5 := hok.2.2.2.2.2.2.2.2.2.1
  have nB6 := hok.2.2.2.2.2.2.2.2.2.2
  have hmk := hWok.2.2.2.1
  have hn12 := hmk.1
  have htr := hWok.1
  have hnw := nw_le hF8
  have hnw0 := nw_pos hWok
  obtain ⟨wT0, wK0, wM0, wH0, wC0⟩ := id hW
  refine Ct.of rfl (Nat.le_of_ble_eq_true rfl) fun X => ?_
  show V X _ sg I 0 [some (rf g 92), some (.int k), some (.int w)] []
  refine V_aload_n rfl dX6_stone_0 ?_
  refine V_iload_n rfl dX6_stone_1 ?_
  refine cf_X6_122 (D_isStone hK0 hT0 hok) (by assumption) rfl rfl ft0 (Nat.le_of_ble_eq_true rfl) dX6_stone_2 ?_
  refine V_if_eqB 20 dX6_stone_5 (by decide) (fun h5 => ?_) (fun h5 => ?_)
  · skip
    refine V_iconst (-1) (by decide) dX6_stone_20 ?_
    refine V_iret rfl rfl rfl ?_ dX6_stone_21
    refine ⟨?_, rfl, rfl⟩
    unfold fStone
    first
    | rw [ifb_neg h5]
    | rw [ifb_pos hk (by omega) rfl, ifb_neg h17]
    | rw [ifb_pos hk (by omega) rfl, ifb_pos hw (by decide) rfl, if_neg (by omega)]
    | rw [ifb_pos hk (by omega) rfl, ifb_pos hw (by decide) rfl, if_pos (by omega)]
  · skip
    obtain ⟨k, hk, rfl⟩ := bel_ex (by omega) h5
    refine V_iload_n rfl dX6_stone_8 ?_
    refine V_i2l dX6_stone_9 ?_
    refine V_lconst (lN 0) rfl dX6_stone_10 ?_
    refine V_ldc2 RX6 _ rfl wk_X6_125 dX6_stone_11 ?_
    rw [show (3 : Int64) = lN 3 from by decide]
    refine cf_X6_52 (C_in0k (k := 3) (by decide)) rfl rfl ft0 (Nat.le_of_ble_eq_true rfl) dX6_stone_14 ?_
    refine V_if_neB 22 dX6_stone_17 (by decide) (fun h17 => ?_) (fun h17 => ?_)
    · skip
      obtain ⟨w, hw, rfl⟩ := bel_ex (by decide) h17
      refine V_iload_n rfl dX6_stone_22 ?_
      refine V_iconst (nI 3) (by decide) dX6_stone_23 ?_
      refine V_icmp_geN 40 dX6_stone_24 (by decide) (by omega) (by omega) (fun h24 => ?_) (fun h24 => ?_)
      · skip
        refine V_aload_n rfl dX6_stone_40 ?_
        refine V_iconst (nI 0) (by decide) dX6_stone_41 ?_
        refine V_iload_n rfl dX6_stone_42 ?_
        refine cf_X6_127 (D_free hK0 hT0 hok hW0 (by decide) hmk hk) (by assumption) rfl rfl ft0 (Nat.le_of_ble_eq_true rfl) dX6_stone_43 ?_
        refine V_iret rfl rfl rfl ?_ dX6_stone_46
        refine ⟨?_, rfl, rfl⟩
        unfold fStone
        first
        | rw [ifb_neg h5]
        | rw [ifb_pos hk (by omega) rfl, ifb_neg h17]
        | rw [ifb_pos hk (by omega) rfl, ifb_pos hw (by decide) rfl, if_neg (by omega)]
        | rw [ifb_pos hk (by omega) rfl, ifb_pos hw (by decide) rfl, if_pos (by omega)]
      · skip
        refine V_aload_n rfl dX6_stone_27 ?_
        refine gf_X6_23 (by assumption) (by assumption) rfl dX6_stone_28 ?_
        refine V_iconst (nI 3) (by decide) dX6_stone_31 ?_
        refine V_iload_n rfl dX6_stone_32 ?_
        refine V_imulN dX6_stone_33 ?_
        refine V_iload_n rfl dX6_stone_34 ?_
        refine V_iaddN dX6_stone_35 ?_
        refine V_iald _ (by assumption) rfl (by omega) (by omega) dX6_stone_36 ?_
        refine V_topi (mS k hk w (by omega)) ?_
        refine V_goto 46 dX6_stone_37 (by decide) ?_
        refine V_iret rfl rfl rfl ?_ dX6_stone_46
        refine ⟨?_, rfl, rfl⟩
        unfold fStone
        first
        | rw [ifb_neg h5]
        | rw [ifb_pos hk (by omega) rfl, ifb_neg h17]
        | rw [ifb_pos hk (by omega) rfl, ifb_pos hw (by decide) rfl, if_neg (by omega)]
        | rw [ifb_pos hk (by omega) rfl, ifb_pos hw (by decide) rfl, if_pos (by omega)]
    · skip
      refine V_iconst (-1) (by decide) dX6_stone_20 ?_
      refine V_iret rfl rfl rfl ?_ dX6_stone_21
      refine ⟨?_, rfl, rfl⟩
      unfold fStone
      first
      | rw [ifb_neg h5]
      | rw [ifb_pos hk (by omega) rfl, ifb_neg h17]
      | rw [ifb_pos hk (by omega) rfl, ifb_pos hw (by decide) rfl, if_neg (by omega)]
      | rw [ifb_pos hk (by omega) rfl, ifb_pos hw (by decide) rfl, if_pos (by omega)]
theorem D_mark {k w : Int32} (hM : MSt sg I x tv W P K) (hS : STok x tv W P K) : Fn m_X6_mark g [rf g 92, .int k, .int w] sg I (some (.int (fMark W k w))) sg I := by
  obtain ⟨hX0, hok, hnp, hns, ⟨hWok, hwk⟩, hPok, hKok⟩ := hS
  obtain ⟨hK, ⟨mlen, mtx⟩, hT, hW, mkept, mKs, mdone, mPs⟩ := hM
  have hK0 := hK
  have hT0 := hT
  have hW0 := hW
  obtain ⟨m0, mR1, mR3, mR4, mR5, mR6, mR7, mR8, mR10, mR16, mR17, mA93, mA94, mA95, mA96, mA97, mA98, mA99, mA100, mA101, mA102⟩ := hK
  obtain ⟨mF, mnL, mnP, mnS, mnB, mL, mP, mS, mB, mWd, mnw⟩ := hT
  have hF1 := hok.1
  have hF8 := hok.2.1
  have h256 := p2_le8 hF8
  have h16 := p2_le16 hF8
  have nL10 := hok.2.2.2.2.2.2.2.1
  have nP5 := hok.2.2.2.2.2.2.2.2.1
  have nS5 := hok.2.2.2.2.2.2.2.2.2.1
  have nB6 := hok.2.2.2.2.2.2.2.2.2.2
  have hmk := hWok.2.2.2.1
  have hn12 := hmk.1
  have htr := hWok.1
  have hnw := nw_le hF8
  have hnw0 := nw_pos hWok
  obtain ⟨wT0, wK0, wM0, wH0, wC0⟩ := id hW
  refine Ct.of rfl (Nat.le_of_ble_eq_true rfl) fun X => ?_
  show V X _ sg I 0 [some (rf g 92), some (.int k), some (.int w)] []
  refine V_aload_n rfl dX6_mark_0 ?_
  refine V_iload_n rfl dX6_mark_1 ?_
  refine cf_X6_131 (D_isMark hK0 hW0 hn12) (by assumption) rfl rfl ft0 (Nat.le_of_ble_eq_true rfl) dX6_mark_2 ?_
  refine V_if_eqB 20 dX6_mark_5 (by decide) (fun h5 => ?_) (fun h5 => ?_)
  · skip
    refine V_iconst (-1) (by decide) dX6_mark_20 ?_
    refine V_iret rfl rfl rfl ?_ dX6_mark_21
    refine ⟨?_, rfl, rfl⟩
    unfold fMark
    first
    | rw [ifb_neg h5]
    | rw [ifb_pos hk (by omega) rfl, ifb_neg h17]
    | rw [ifb_pos hk (by omega) rfl, ifb_pos hw (by decide) rfl, if_neg (by omega)]
    | rw [ifb_pos hk (by omega) rfl, ifb_pos hw (by decide) rfl, if_pos (by omega), bI_t h63]
    | rw [ifb_pos hk (by omega) rfl, ifb_pos hw (by decide) rfl, if_pos (by omega), bI_f h63]
  · skip
    obtain ⟨k, hk, rfl⟩ := bel_ex (by omega) h5
    refine V_iload_n rfl dX6_mark_8 ?_
    refine V_i2l dX6_mark_9 ?_
    refine V_lconst (lN 0) rfl dX6_mark_10 ?_
    refine V_ldc2 RX6 _ rfl wk_X6_134 dX6_mark_11 ?_
    rw [show (4 : Int64) = lN 4 from by decide]
    refine cf_X6_52 (C_in0k (k := 4) (by decide)) rfl rfl ft0 (Nat.le_of_ble_eq_true rfl) dX6_mark_14 ?_
    refine V_if_neB 22 dX6_mark_17 (by decide) (fun h17 => ?_) (fun h17 => ?_)
    · skip
      obtain ⟨w, hw, rfl⟩ := bel_ex (by decide) h17
      refine V_iload_n rfl dX6_mark_22 ?_
      refine V_iconst (nI 4) (by decide) dX6_mark_23 ?_
      refine V_icmp_geN 43 dX6_mark_24 (by decide) (by omega) (by omega) (fun h24 => ?_) (fun h24 => ?_)
      · skip
        refine V_aload_n rfl dX6_mark_43 ?_
        refine gf_X6_33 (by assumption) (by assumption) rfl dX6_mark_44 ?_
        refine V_bipush (nI 8) (by decide) dX6_mark_47 ?_
        refine V_iconst (nI 4) (by decide) dX6_mark_49 ?_
        refine V_iload_n rfl dX6_mark_50 ?_
        refine V_imulN dX6_mark_51 ?_
        refine V_iaddN dX6_mark_52 ?_
        refine V_iald _ (by assumption) rfl (by omega) (by omega) dX6_mark_53 ?_
        refine V_topi ((congrArg (I 100) (by omega)).trans (wC0 k hk 0 (by decide))) ?_
        refine V_aload_n rfl dX6_mark_54 ?_
        refine gf_X6_33 (by assumption) (by assumption) rfl dX6_mark_55 ?_
        refine V_iconst (nI 0) (by decide) dX6_mark_58 ?_
        refine V_iald _ (by assumption) rfl (by omega) (by omega) dX6_mark_59 ?_
        refine V_topi (wT0) ?_
        refine cf_X6_91 (D_isSo (by have := (hmk.2.1 k hk).1; omega) (by omega)) rfl rfl ft0 (Nat.le_of_ble_eq_true rfl) dX6_mark_60 ?_
        refine V_if_eqB 70 dX6_mark_63 (by decide) (fun h63 => ?_) (fun h63 => ?_)
        · skip
          refine V_iconst (nI 0) (by decide) dX6_mark_70 ?_
          refine V_iret rfl rfl rfl ?_ dX6_mark_71
          refine ⟨?_, rfl, rfl⟩
          unfold fMark
          first
          | rw [ifb_neg h5]
          | rw [ifb_pos hk (by omega) rfl, ifb_neg h17]
          | rw [ifb_pos hk (by omega) rfl, ifb_pos hw (by decide) rfl, if_neg (by omega)]
          | rw [ifb_pos hk (by omega) rfl, ifb_pos hw (by decide) rfl, if_pos (by omega), bI_t h63]
          | rw [ifb_pos hk (by omega) rfl, ifb_pos hw (by decide) rfl, if_pos (by omega), bI_f h63]
        · skip
          refine V_iconst (nI 1) (by decide) dX6_mark_66 ?_
          refine V_goto 71 dX6_mark_67 (by decide) ?_
          refine V_iret rfl rfl rfl ?_ dX6_mark_71
          refine ⟨?_, rfl, rfl⟩
          unfold fMark
          first
          | rw [ifb_neg h5]
          | rw [ifb_pos hk (by omega) rfl, ifb_neg h17]
          | rw [ifb_pos hk (by omega) rfl, ifb_pos hw (by decide) rfl, if_neg (by omega)]
          | rw [ifb_pos hk (by omega) rfl, ifb_pos hw (by decide) rfl, if_pos (by omega), bI_t h63]
          | rw [ifb_pos hk (by omega) rfl, ifb_pos hw (by decide) rfl, if_pos (by omega), bI_f h63]
      · skip
        refine V_aload_n rfl dX6_mark_27 ?_
        refine gf_X6_33 (by assumption) (by assumption) rfl dX6_mark_28 ?_
        refine V_bipush (nI 8) (by decide) dX6_mark_31 ?_
        refine V_iconst (nI 4) (by decide) dX6_mark_33 ?_
        refine V_iload_n rfl dX6_mark_34 ?_
        refine V_imulN dX6_mark_35 ?_
        refine V_iaddN dX6_mark_36 ?_
        refine V_iload_n rfl dX6_mark_37 ?_
        refine V_iaddN dX6_mark_38 ?_
        refine V_iald _ (by assumption) rfl (by omega) (by omega) dX6_mark_39 ?_
        refine V_topi ((congrArg (I 100) (by omega)).trans (wC0 k hk w (by omega))) ?_
        refine V_goto 71 dX6_mark_40 (by decide) ?_
        refine V_iret rfl rfl rfl ?_ dX6_mark_71
        refine ⟨?_, rfl, rfl⟩
        unfold fMark
        first
        | rw [ifb_neg h5]
        | rw [ifb_pos hk (by omega) rfl, ifb_neg h17]
        | rw [ifb_pos hk (by omega) rfl, ifb_pos hw (by decide) rfl, if_neg (by omega)]
        | rw [ifb_pos hk (by omega) rfl, ifb_pos hw (by decide) rfl, if_pos (by omega), bI_t h63]
        | rw [ifb_pos hk (by omega) rfl, ifb_pos hw (by decide) rfl, if_pos (by omega), bI_f h63]
    · skip
      refine V_iconst (-1) (by decide) dX6_mark_20 ?_
      refine V_iret rfl rfl rfl ?_ dX6_mark_21
      refine ⟨?_, rfl, rfl⟩
      unfold fMark
      first
      | rw [ifb_neg h5]
      | rw [ifb_pos hk (by omega) rfl, ifb_neg h17]
      | rw [ifb_pos hk (by omega) rfl, ifb_pos hw (by decide) rfl, if_neg (by omega)]
      | rw [ifb_pos hk (by omega) rfl, ifb_pos hw (by decide) rfl, if_pos (by omega), bI_t h63]
      | rw [ifb_pos hk (by omega) rfl, ifb_pos hw (by decide) rfl, if_pos (by omega), bI_f h63]
theorem D_world {k : Int32} (hM : MSt sg I x tv W P K) (hS : STok x tv W P K) : Fn m_X6_world g [rf g 92, .int k] sg I (some (.int (fWorld tv k))) sg I := by
  obtain ⟨hX0, hok, hnp, hns, ⟨hWok, hwk⟩, hPok, hKok⟩ := hS
  obtain ⟨hK, ⟨mlen, mtx⟩, hT, hW, mkept, mKs, mdone, mPs⟩ := hM
  have hK0 := hK
  have hT0 := hT
  have hW0 := hW
  obtain ⟨m0, mR1, mR3, mR4, mR5, mR6, mR7, mR8, mR10, mR16, mR17, mA93, mA94, mA95, mA96, mA97, mA98, mA99, mA100, mA101, mA102⟩ := hK
  obtain ⟨mF, mnL, mnP, mnS, mnB, mL, mP, mS, mB, mWd, mnw⟩ := hT
  have hF1 := hok.1
  have hF8 := hok.2.1
  have h256 := p2_le8 hF8
  have h16 := p2_le16 hF8
  have nL10 := hok.2.2.2.2.2.2.2.1
  have nP5 := hok.2.2.2.2.2.2.2.2.1
  have nS5 := hok.2.2.2.2.2.2.2.2.2.1
  have nB6 := hok.2.2.2.2.2.2.2.2.2.2
  have hmk := hWok.2.2.2.1
  have hn12 := hmk.1
  have htr := hWok.1
  have hnw := nw_le hF8
  have hnw0 := nw_pos hWok
  obtain ⟨wT0, wK0, wM0, wH0, wC0⟩ := id hW
  refine Ct.of rfl (Nat.le_of_ble_eq_true rfl) fun X => ?_
  show V X _ sg I 0 [some (rf g 92), some (.int k)] []
  rcases int_cases k with h | ⟨j, hj, rfl⟩
  · skip
    refine V_iload_n rfl dX6_world_0 ?_
    refine V_if_ge 8 dX6_world_1 (by decide) (fun h1 => absurd h1 (by rw [Int32.not_le]; exact h)) (fun h1 => ?_)
    refine V_iconst (-1) (by decide) dX6_world_4 ?_
    refine V_goto 13 dX6_world_5 (by decide) ?_
    refine V_iret rfl rfl rfl ?_ dX6_world_13
    exact ⟨by unfold fWorld; rw [if_pos h], rfl, rfl⟩
  · skip
    refine V_iload_n rfl dX6_world_0 ?_
    refine V_if_geN 8 dX6_world_1 (by decide) (by omega) ?_
    refine V_aload_n rfl dX6_world_8 ?_
    refine V_iload_n rfl dX6_world_9 ?_
    refine cf_X6_136 (D_worldOf hK0 hT0 hok hj) (by assumption) rfl rfl ft0 (Nat.le_of_ble_eq_true rfl) dX6_world_10 ?_
    refine V_iret rfl rfl rfl ?_ dX6_world_13
    refine ⟨?_, rfl, rfl⟩
    unfold fWorld
    rw [if_neg (nI_lt0 hj)]
    by_cases c : j < nw' tv
    · rw [if_pos c, ifb_pos c (by omega) rfl]
    · rw [if_neg c, ifb_big hj (by omega) (by omega)]
theorem D_hands {k : Int32} (hM : MSt sg I x tv W P K) (hS : STok x tv W P K) : Fn m_X6_hands g [rf g 92, .int k] sg I (some (.int (fHands tv W k))) sg I := by
  obtain ⟨hX0, hok, hnp, hns, ⟨hWok, hwk⟩, hPok, hKok⟩ := hS
  obtain ⟨hK, ⟨mlen, mtx⟩, hT, hW, mkept, mKs, mdone, mPs⟩ := hM
  have hK0 := hK
  have hT0 := hT
  have hW0 := hW
  obtain ⟨m0, mR1, mR3, mR4, mR5, mR6, mR7, mR8, mR10, mR16, mR17, mA93, mA94, mA95, mA96, mA97, mA98, mA99, mA100, mA101, mA102⟩ := hK
  obtain ⟨mF, mnL, mnP, mnS, mnB, mL, mP, mS, mB, mWd, mnw⟩ := hT
  have hF1 := hok.1
  have hF8 := hok.2.1
  have h256 := p2_le8 hF8
  have h16 := p2_le16 hF8
  have nL10 := hok.2.2.2.2.2.2.2.1
  have nP5 := hok.2.2.2.2.2.2.2.2.1
  have nS5 := hok.2.2.2.2.2.2.2.2.2.1
  have nB6 := hok.2.2.2.2.2.2.2.2.2.2
  have hmk := hWok.2.2.2.1
  have hn12 := hmk.1
  have htr := hWok.1
  have hnw := nw_le hF8
  have hnw0 := nw_pos hWok
  obtain ⟨wT0, wK0, wM0, wH0, wC0⟩ := id hW
  refine Ct.of rfl (Nat.le_of_ble_eq_true rfl) fun X => ?_
  show V X _ sg I 0 [some (rf g 92), some (.int k)] []
  refine V_aload_n rfl dX6_hands_0 ?_
  refine V_iload_n rfl dX6_hands_1 ?_
  refine cf_X6_205 (D_isSaying hK0 hT0 hok) (by assumption) rfl rfl ft0 (Nat.le_of_ble_eq_true rfl) dX6_hands_2 ?_
  refine V_if_eqB 19 dX6_hands_5 (by decide) (fun h5 => ?_) (fun h5 => ?_)
  · skip
    refine V_iconst (-1) (by decide) dX6_hands_19 ?_
    refine V_iret rfl rfl rfl ?_ dX6_hands_20
    refine ⟨?_, rfl, rfl⟩
    unfold fHands
    first
    | rw [ifb_neg h5]
    | rw [ifb_pos hk (by omega) rfl]
  · skip
    obtain ⟨k, hk, rfl⟩ := bel_ex (by omega) h5
    refine V_aload_n rfl dX6_hands_8 ?_
    refine V_iconst (nI 0) (by decide) dX6_hands_9 ?_
    refine V_iload_n rfl dX6_hands_10 ?_
    refine V_iconst (-1) (by decide) dX6_hands_11 ?_
    refine V_iconst (-1) (by decide) dX6_hands_12 ?_
    refine cf_X6_171 (D_handsOf hK0 hT0 hok hW0 (by decide) hmk (by omega) (Or.inl ⟨rfl, rfl⟩) (Or.inl ⟨rfl, rfl⟩)) (by assumption) rfl rfl ft0 (Nat.le_of_ble_eq_true rfl) dX6_hands_13 ?_
    refine V_goto 20 dX6_hands_16 (by decide) ?_
    refine V_iret rfl rfl rfl ?_ dX6_hands_20
    refine ⟨?_, rfl, rfl⟩
    unfold fHands
    first
    | rw [ifb_neg h5]
    | rw [ifb_pos hk (by omega) rfl]
theorem D_count {k : Int32} (hM : MSt sg I x tv W P K) (hS : STok x tv W P K) : Fn m_X6_count g [rf g 92, .int k] sg I (some (.int (fCount x tv W P K k))) sg I := by
  obtain ⟨hX0, hok, hnp, hns, ⟨hWok, hwk⟩, hPok, hKok⟩ := hS
  obtain ⟨hK, ⟨mlen, mtx⟩, hT, hW, mkept, mKs, mdone, mPs⟩ := hM
  have hK0 := hK
  have hT0 := hT
  have hW0 := hW
  obtain ⟨m0, mR1, mR3, mR4, mR5, mR6, mR7, mR8, mR10, mR16, mR17, mA93, mA94, mA95, mA96, mA97, mA98, mA99, mA100, mA101, mA102⟩ := hK
  obtain ⟨mF, mnL, mnP, mnS, mnB, mL, mP, mS, mB, mWd, mnw⟩ := hT
  have hF1 := hok.1
  have hF8 := hok.2.1
  have h256 := p2_le8 hF8
  have h16 := p2_le16 hF8
  have nL10 := hok.2.2.2.2.2.2.2.1
  have nP5 := hok.2.2.2.2.2.2.2.2.1
  have nS5 := hok.2.2.2.2.2.2.2.2.2.1
  have nB6 := hok.2.2.2.2.2.2.2.2.2.2
  have hmk := hWok.2.2.2.1
  have hn12 := hmk.1
  have htr := hWok.1
  have hnw := nw_le hF8
  have hnw0 := nw_pos hWok
  obtain ⟨wT0, wK0, wM0, wH0, wC0⟩ := id hW
  refine Ct.of rfl (Nat.le_of_ble_eq_true rfl) fun X => ?_
  show V X _ sg I 0 [some (rf g 92), some (.int k)] []
  have hfin : ∀ j, j < 12 → k = nI j → V X (ZQ X (fun r0 s0 I0 => r0 = some (.int (fCount x tv W P K k)) ∧ s0 = sg ∧ I0 = I)) sg I 14 [some (rf g 92), some (.int (nI j))] [] := by
    intro j hj ek
    have hf : fCount x tv W P K k = nI ([tF tv, (tL tv).1, (tP tv).1, (tS tv).1, (tB tv).1, nw' tv, wT W, (wM W).1, wK W, P.1, K.1, x.1].getD j 0) := by unfold fCount; rw [ifb_pos hj (by decide) ek]
    rw [hf]
    have wT00 : I 100 0 = nI (wT W) := wT0
    have wK00 : I 100 1 = nI (wK W) := wK0
    have wM00 : I 100 2 = nI (wM W).1 := wM0
    rcases (show j = 0 ∨ j = 1 ∨ j = 2 ∨ j = 3 ∨ j = 4 ∨ j = 5 ∨ j = 6 ∨ j = 7 ∨ j = 8 ∨ j = 9 ∨ j = 10 ∨ j = 11 by omega) with rfl | rfl | rfl | rfl | rfl | rfl | rfl | rfl | rfl | rfl | rfl | rfl
    · skip
      refine V_iload_n rfl dX6_count_14 ?_
      refine V_iconst (nI 5) (by decide) dX6_count_15 ?_
      refine V_icmp_geN 26 dX6_count_16 (by decide) (by omega) (by omega) (fun h16 => absurd h16 (by decide)) (fun h16 => ?_)
      refine V_aload_n rfl dX6_count_19 ?_
      refine gf_X6_13 (by assumption) (by assumption) rfl dX6_count_20 ?_
      refine V_iload_n rfl dX6_count_23 ?_
      refine V_iald _ (by assumption) rfl (by omega) (by omega) dX6_count_24 ?_
      refine V_topi (mF) ?_
      refine V_iret rfl rfl rfl ?_ dX6_count_25
      exact ⟨rfl, rfl, rfl⟩
    · skip
      refine V_iload_n rfl dX6_count_14 ?_
      refine V_iconst (nI 5) (by decide) dX6_count_15 ?_
      refine V_icmp_geN 26 dX6_count_16 (by decide) (by omega) (by omega) (fun h16 => absurd h16 (by decide)) (fun h16 => ?_)
      refine V_aload_n rfl dX6_count_19 ?_
      refine gf_X6_13 (by assumption) (by assumption) rfl dX6_count_20 ?_
      refine V_iload_n rfl dX6_count_23 ?_
      refine V_iald _ (by assumption) rfl (by omega) (by omega) dX6_count_24 ?_
      refine V_topi (mnL) ?_
      refine V_iret rfl rfl rfl ?_ dX6_count_25
      exact ⟨rfl, rfl, rfl⟩
    · skip
      refine V_iload_n rfl dX6_count_14 ?_
      refine V_iconst (nI 5) (by decide) dX6_count_15 ?_
      refine V_icmp_geN 26 dX6_count_16 (by decide) (by omega) (by omega) (fun h16 => absurd h16 (by decide)) (fun h16 => ?_)
      refine V_aload_n rfl dX6_count_19 ?_
      refine gf_X6_13 (by assumption) (by assumption) rfl dX6_count_20 ?_
      refine V_iload_n rfl dX6_count_23 ?_
      refine V_iald _ (by assumption) rfl (by omega) (by omega) dX6_count_24 ?_
      refine V_topi (mnP) ?_
      refine V_iret rfl rfl rfl ?_ dX6_count_25
      exact ⟨rfl, rfl, rfl⟩
    · skip
      refine V_iload_n rfl dX6_count_14 ?_
      refine V_iconst (nI 5) (by decide) dX6_count_15 ?_
      refine V_icmp_geN 26 dX6_count_16 (by decide) (by omega) (by omega) (fun h16 => absurd h16 (by decide)) (fun h16 => ?_)
      refine V_aload_n rfl dX6_count_19 ?_
      refine gf_X6_13 (by assumption) (by assumption) rfl dX6_count_20 ?_
      refine V_iload_n rfl dX6_count_23 ?_
      refine V_iald _ (by assumption) rfl (by omega) (by omega) dX6_count_24 ?_
      refine V_topi (mnS) ?_
      refine V_iret rfl rfl rfl ?_ dX6_count_25
      exact ⟨rfl, rfl, rfl⟩
    · skip
      refine V_iload_n rfl dX6_count_14 ?_
      refine V_iconst (nI 5) (by decide) dX6_count_15 ?_
      refine V_icmp_geN 26 dX6_count_16 (by decide) (by omega) (by omega) (fun h16 => absurd h16 (by decide)) (fun h16 => ?_)
      refine V_aload_n rfl dX6_count_19 ?_
      refine gf_X6_13 (by assumption) (by assumption) rfl dX6_count_20 ?_
      refine V_iload_n rfl dX6_count_23 ?_
      refine V_iald _ (by assumption) rfl (by omega) (by omega) dX6_count_24 ?_
      refine V_topi (mnB) ?_
      refine V_iret rfl rfl rfl ?_ dX6_count_25
      exact ⟨rfl, rfl, rfl⟩
    · skip
      refine V_iload_n rfl dX6_count_14 ?_
      refine V_iconst (nI 5) (by decide) dX6_count_15 ?_
      refine V_icmp_geN 26 dX6_count_16 (by decide) (by omega) (by omega) (fun h16 => ?_) (fun h16 => absurd h16 (by decide))
      refine V_iload_n rfl dX6_count_26 ?_
      refine V_tableIn 37 64 dX6_count_27 (by decide) (by decide) rfl (by decide) ?_
      refine V_aload_n rfl dX6_count_64 ?_
      refine gfe_X6_95 (by assumption) (by assumption) rfl dX6_count_65 ?_
      refine V_iret rfl rfl rfl ?_ dX6_count_68
      exact ⟨rfl, rfl, rfl⟩
    · skip
      refine V_iload_n rfl dX6_count_14 ?_
      refine V_iconst (nI 5) (by decide) dX6_count_15 ?_
      refine V_icmp_geN 26 dX6_count_16 (by decide) (by omega) (by omega) (fun h16 => ?_) (fun h16 => absurd h16 (by decide))
      refine V_iload_n rfl dX6_count_26 ?_
      refine V_tableIn 42 69 dX6_count_27 (by decide) (by decide) rfl (by decide) ?_
      refine V_aload_n rfl dX6_count_69 ?_
      refine gf_X6_33 (by assumption) (by assumption) rfl dX6_count_70 ?_
      refine V_iconst (nI 0) (by decide) dX6_count_73 ?_
      refine V_iald _ (by assumption) rfl (by omega) (by omega) dX6_count_74 ?_
      refine V_topi (wT00) ?_
      refine V_iret rfl rfl rfl ?_ dX6_count_75
      exact ⟨rfl, rfl, rfl⟩
    · skip
      refine V_iload_n rfl dX6_count_14 ?_
      refine V_iconst (nI 5) (by decide) dX6_count_15 ?_
      refine V_icmp_geN 26 dX6_count_16 (by decide) (by omega) (by omega) (fun h16 => ?_) (fun h16 => absurd h16 (by decide))
      refine V_iload_n rfl dX6_count_26 ?_
      refine V_tableIn 49 76 dX6_count_27 (by decide) (by decide) rfl (by decide) ?_
      refine V_aload_n rfl dX6_count_76 ?_
      refine gf_X6_33 (by assumption) (by assumption) rfl dX6_count_77 ?_
      refine V_iconst (nI 2) (by decide) dX6_count_80 ?_
      refine V_iald _ (by assumption) rfl (by omega) (by omega) dX6_count_81 ?_
      refine V_topi (wM00) ?_
      refine V_iret rfl rfl rfl ?_ dX6_count_82
      exact ⟨rfl, rfl, rfl⟩
    · skip
      refine V_iload_n rfl dX6_count_14 ?_
      refine V_iconst (nI 5) (by decide) dX6_count_15 ?_
      refine V_icmp_geN 26 dX6_count_16 (by decide) (by omega) (by omega) (fun h16 => ?_) (fun h16 => absurd h16 (by decide))
      refine V_iload_n rfl dX6_count_26 ?_
      refine V_tableIn 56 83 dX6_count_27 (by decide) (by decide) rfl (by decide) ?_
      refine V_aload_n rfl dX6_count_83 ?_
      refine gf_X6_33 (by assumption) (by assumption) rfl dX6_count_84 ?_
      refine V_iconst (nI 1) (by decide) dX6_count_87 ?_
      refine V_iald _ (by assumption) rfl (by omega) (by omega) dX6_count_88 ?_
      refine V_topi (wK00) ?_
      refine V_iret rfl rfl rfl ?_ dX6_count_89
      exact ⟨rfl, rfl, rfl⟩
    · skip
      refine V_iload_n rfl dX6_count_14 ?_
      refine V_iconst (nI 5) (by decide) dX6_count_15 ?_
      refine V_icmp_geN 26 dX6_count_16 (by decide) (by omega) (by omega) (fun h16 => ?_) (fun h16 => absurd h16 (by decide))
      refine V_iload_n rfl dX6_count_26 ?_
      refine V_tableIn 63 90 dX6_count_27 (by decide) (by decide) rfl (by decide) ?_
      refine V_aload_n rfl dX6_count_90 ?_
      refine gfe_X6_106 (by assumption) (by assumption) rfl dX6_count_91 ?_
      refine V_iret rfl rfl rfl ?_ dX6_count_94
      exact ⟨rfl, rfl, rfl⟩
    · skip
      refine V_iload_n rfl dX6_count_14 ?_
      refine V_iconst (nI 5) (by decide) dX6_count_15 ?_
      refine V_icmp_geN 26 dX6_count_16 (by decide) (by omega) (by omega) (fun h16 => ?_) (fun h16 => absurd h16 (by decide))
      refine V_iload_n rfl dX6_count_26 ?_
      refine V_tableIn 68 95 dX6_count_27 (by decide) (by decide) rfl (by decide) ?_
      refine V_aload_n rfl dX6_count_95 ?_
      refine gfe_X6_109 (by assumption) (by assumption) rfl dX6_count_96 ?_
      refine V_iret rfl rfl rfl ?_ dX6_count_99
      exact ⟨rfl, rfl, rfl⟩
    · skip
      refine V_iload_n rfl dX6_count_14 ?_
      refine V_iconst (nI 5) (by decide) dX6_count_15 ?_
      refine V_icmp_geN 26 dX6_count_16 (by decide) (by omega) (by omega) (fun h16 => ?_) (fun h16 => absurd h16 (by decide))
      refine V_iload_n rfl dX6_count_26 ?_
      refine V_tableOut 100 dX6_count_27 (Or.inr (by decide)) (by decide) ?_
      refine V_aload_n rfl dX6_count_100 ?_
      refine gfe_X6_56 (by assumption) (by assumption) rfl dX6_count_101 ?_
      refine V_iret rfl rfl rfl ?_ dX6_count_104
      exact ⟨rfl, rfl, rfl⟩
  refine V_iload_n rfl dX6_count_0 ?_
  refine V_i2l dX6_count_1 ?_
  refine V_lconst (lN 0) rfl dX6_count_2 ?_
  refine V_ldc2 RX6 _ rfl wk_X6_245 dX6_count_3 ?_
  rw [show (11 : Int64) = lN 11 from by decide]
  refine cf_X6_52 (C_in0k (k := 11) (by decide)) rfl rfl ft0 (Nat.le_of_ble_eq_true rfl) dX6_count_6 ?_
  refine V_if_neB 14 dX6_count_9 (by decide) (fun h9 => ?_) (fun h9 => ?_)
  · skip
    obtain ⟨j, hj, rfl⟩ := bel_ex (by decide) h9
    exact hfin j hj rfl
  · skip
    refine V_iconst (-1) (by decide) dX6_count_12 ?_
    refine V_iret rfl rfl rfl ?_ dX6_count_13
    exact ⟨by unfold fCount; rw [ifb_neg h9], rfl, rfl⟩
theorem D_worth (hM : MSt sg I x tv W P K) (hS : STok x tv W P K) : Ct m_X6_worth g [rf g 92] sg I (knQ sg I (fWorth tv W)) := by
  obtain ⟨hX0, hok, hnp, hns, ⟨hWok, hwk⟩, hPok, hKok⟩ := hS
  obtain ⟨hK, ⟨mlen, mtx⟩, hT, hW, mkept, mKs, mdone, mPs⟩ := hM
  have hK0 := hK
  have hT0 := hT
  have hW0 := hW
  obtain ⟨m0, mR1, mR3, mR4, mR5, mR6, mR7, mR8, mR10, mR16, mR17, mA93, mA94, mA95, mA96, mA97, mA98, mA99, mA100, mA101, mA102⟩ := hK
  obtain ⟨mF, mnL, mnP, mnS, mnB, mL, mP, mS, mB, mWd, mnw⟩ := hT
  have hF1 := hok.1
  have hF8 := hok.2.1
  have h256 := p2_le8 hF8
  have h16 := p2_le16 hF8
  have nL10 := hok.2.2.2.2.2.2.2.1
  have nP5 := hok.2.2.2.2.2.2.2.2.1
  have nS5 := hok.2.2.2.2.2.2.2.2.2.1
  have nB6 := hok.2.2.2.2.2.2.2.2.2.2
  have hmk := hWok.2.2.2.1
  have hn12 := hmk.1
  have htr := hWok.1
  have hnw := nw_le hF8
  have hnw0 := nw_pos hWok
  obtain ⟨wT0, wK0, wM0, wH0, wC0⟩ := id hW
  refine Ct.of rfl (Nat.le_of_ble_eq_true rfl) fun X => ?_
  show V X _ sg I 0 [some (rf g 92)] []
  have hrd : rdN tv W 1 99 < 65536 := Nat.lt_of_lt_of_le rd_lt h16
  have hle := rgt_le (tv := tv) (tr := wT W) (rd := rdN tv W 1 99) _ rfl
  refine V_aload_n rfl dX6_worth_0 ?_
  refine V_aload_n rfl dX6_worth_1 ?_
  refine V_iconst (nI 0) (by decide) dX6_worth_2 ?_
  refine V_iconst (nI 1) (by decide) dX6_worth_3 ?_
  refine V_iconst (-1) (by decide) dX6_worth_4 ?_
  refine cf_X6_192 (D_readBy hK0 hT0 hok hW0 (by decide) hmk (by decide) (Or.inl ⟨rfl, rfl⟩)) (by assumption) rfl rfl ft0 (Nat.le_of_ble_eq_true rfl) dX6_worth_5 ?_
  refine cl_X6_196 (D_knows hK0 hT0 hok hrd) (by assumption) rfl rfl ft0 (Nat.le_of_ble_eq_true rfl) dX6_worth_8 (fun rr s9 J1 hq => ?_)
  have hkn := kw_kn hq
  obtain ⟨rfl, hs, -⟩ := id hq
  have hs := hs.symm
  subst hs
  show V X _ sg J1 11 _ []
  have hT1 := hT0.kn hkn
  refine V_aload_n rfl dX6_worth_11 ?_
  refine gf_X6_13 (by assumption) (by assumption) rfl dX6_worth_12 ?_
  refine V_iconst (nI 0) (by decide) dX6_worth_15 ?_
  refine V_iald _ (by assumption) rfl (by omega) (by omega) dX6_worth_16 ?_
  refine V_topi (hT1.1) ?_
  refine V_aload_n rfl dX6_worth_17 ?_
  refine V_iconst (nI 0) (by decide) dX6_worth_18 ?_
  refine cf_X6_199 (D_right hK0 hok (hW0.kn hkn) (by decide) htr hq.2.2.2.1 hq.2.2.2.2.1) (by assumption) rfl rfl ft0 (Nat.le_of_ble_eq_true rfl) dX6_worth_19 ?_
  refine V_isubN (by omega) dX6_worth_22 ?_
  refine V_iret rfl rfl rfl ?_ dX6_worth_23
  exact ⟨rfl, rfl, hkn⟩
theorem D_two {a b : Int32} (hM : MSt sg I x tv W P K) (hS : STok x tv W P K) : Ct m_X6_two g [rf g 92, .int a, .int b] sg I (knQ sg I (fTwo tv W a b)) := by
  obtain ⟨hX0, hok, hnp, hns, ⟨hWok, hwk⟩, hPok, hKok⟩ := hS
  obtain ⟨hK, ⟨mlen, mtx⟩, hT, hW, mkept, mKs, mdone, mPs⟩ := hM
  have hK0 := hK
  have hT0 := hT
  have hW0 := hW
  obtain ⟨m0, mR1, mR3, mR4, mR5, mR6, mR7, mR8, mR10, mR16, mR17, mA93, mA94, mA95, mA96, mA97, mA98, mA99, mA100, mA101, mA102⟩ := hK
  obtain ⟨mF, mnL, mnP, mnS, mnB, mL, mP, mS, mB, mWd, mnw⟩ := hT
  have hF1 := hok.1
  have hF8 := hok.2.1
  have h256 := p2_le8 hF8
  have h16 := p2_le16 hF8
  have nL10 := hok.2.2.2.2.2.2.2.1
  have nP5 := hok.2.2.2.2.2.2.2.2.1
  have nS5 := hok.2.2.2.2.2.2.2.2.2.1
  have nB6 := hok.2.2.2.2.2.2.2.2.2.2
  have hmk := hWok.2.2.2.1
  have hn12 := hmk.1
  have htr := hWok.1
  have hnw := nw_le hF8
  have hnw0 := nw_pos hWok
  obtain ⟨wT0, wK0, wM0, wH0, wC0⟩ := id hW
  refine Ct.of rfl (Nat.le_of_ble_eq_true rfl) fun X => ?_
  show V X _ sg I 0 [some (rf g 92), some (.int a), some (.int b)] []
  have hrd : rdN tv W 1 99 < 2 ^ (2 * tF tv) := rd_lt
  have hfin : ∀ f e, f < tF tv → e < tF tv → f ≠ e → a = nI f → b = nI e → V X (ZQ X (knQ sg I (fTwo tv W a b))) sg I 23 [some (rf g 92), some (.int (nI f)), some (.int (nI e))] [] := by
    intro f e hf he hne ea eb
    have hff : fTwo tv W a b = nI (rgtN tv (wT W) (rdN tv W 1 99 ||| (2 ^ tsy f (wT W) ||| 2 ^ tsy e (wT W)))) := by unfold fTwo; rw [ifb_pos hf (by omega) ea, ifb_pos he (by omega) eb, if_neg hne]
    have ht1 := tsy_lt (s := wT W) hf
    have ht2 := tsy_lt (s := wT W) he
    have hro := knw_or (tv := tv) (tsy e (wT W)) ht2 (knw_or (tv := tv) (tsy f (wT W)) ht1 hrd)
    have hro2 := Nat.lt_of_lt_of_le hro h16
    rw [hff, ← Nat.or_assoc]
    refine V_aload_n rfl dX6_two_23 ?_
    refine V_aload_n rfl dX6_two_24 ?_
    refine V_iconst (nI 0) (by decide) dX6_two_25 ?_
    refine V_iconst (nI 1) (by decide) dX6_two_26 ?_
    refine V_iconst (-1) (by decide) dX6_two_27 ?_
    refine cf_X6_192 (D_readBy hK0 hT0 hok hW0 (by decide) hmk (by decide) (Or.inl ⟨rfl, rfl⟩)) (by assumption) rfl rfl ft0 (Nat.le_of_ble_eq_true rfl) dX6_two_28 ?_
    refine V_iconst (nI 1) (by decide) dX6_two_31 ?_
    refine V_aload_n rfl dX6_two_32 ?_
    refine V_iconst (nI 0) (by decide) dX6_two_33 ?_
    refine V_iload_n rfl dX6_two_34 ?_
    refine cf_X6_158 (D_trueOf hK0 hW0 (by decide) (by omega) (by omega)) (by assumption) rfl rfl ft0 (Nat.le_of_ble_eq_true rfl) dX6_two_35 ?_
    refine V_ishl1N (by omega) dX6_two_38 ?_
    refine V_iorN dX6_two_39 ?_
    refine V_iconst (nI 1) (by decide) dX6_two_40 ?_
    refine V_aload_n rfl dX6_two_41 ?_
    refine V_iconst (nI 0) (by decide) dX6_two_42 ?_
    refine V_iload_n rfl dX6_two_43 ?_
    refine cf_X6_158 (D_trueOf hK0 hW0 (by decide) (by omega) (by omega)) (by assumption) rfl rfl ft0 (Nat.le_of_ble_eq_true rfl) dX6_two_44 ?_
    refine V_ishl1N (by omega) dX6_two_47 ?_
    refine V_iorN dX6_two_48 ?_
    refine cl_X6_196 (D_knows hK0 hT0 hok hro2) (by assumption) rfl rfl ft0 (Nat.le_of_ble_eq_true rfl) dX6_two_49 (fun rr s9 J1 hq => ?_)
    have hkn := kw_kn hq
    obtain ⟨rfl, hs, -⟩ := id hq
    have hs := hs.symm
    subst hs
    show V X _ sg J1 52 _ []
    refine V_aload_n rfl dX6_two_52 ?_
    refine V_iconst (nI 0) (by decide) dX6_two_53 ?_
    refine cf_X6_199 (D_right hK0 hok (hW0.kn hkn) (by decide) htr hq.2.2.2.1 hq.2.2.2.2.1) (by assumption) rfl rfl ft0 (Nat.le_of_ble_eq_true rfl) dX6_two_54 ?_
    refine V_iret rfl rfl rfl ?_ dX6_two_57
    exact ⟨rfl, rfl, hkn⟩
  refine V_aload_n rfl dX6_two_0 ?_
  refine V_iload_n rfl dX6_two_1 ?_
  refine cf_X6_152 (D_isFact hK0 hT0 hok) (by assumption) rfl rfl ft0 (Nat.le_of_ble_eq_true rfl) dX6_two_2 ?_
  refine V_if_eqB 21 dX6_two_5 (by decide) (fun h5 => ?_) (fun h5 => ?_)
  · skip
    refine V_iconst (-1) (by decide) dX6_two_21 ?_
    refine V_iret rfl rfl rfl ?_ dX6_two_22
    refine ⟨?_, rfl, knF.refl⟩
    unfold fTwo
    first
    | rw [ifb_neg h5]
    | rw [ifb_pos hf (by omega) rfl, ifb_neg h13]
    | rw [ifb_pos hf (by omega) rfl, ifb_pos he (by omega) rfl, if_pos h18]
  · skip
    obtain ⟨f, hf, rfl⟩ := bel_ex (by omega) h5
    refine V_aload_n rfl dX6_two_8 ?_
    refine V_iload_n rfl dX6_two_9 ?_
    refine cf_X6_152 (D_isFact hK0 hT0 hok) (by assumption) rfl rfl ft0 (Nat.le_of_ble_eq_true rfl) dX6_two_10 ?_
    refine V_if_eqB 21 dX6_two_13 (by decide) (fun h13 => ?_) (fun h13 => ?_)
    · skip
      refine V_iconst (-1) (by decide) dX6_two_21 ?_
      refine V_iret rfl rfl rfl ?_ dX6_two_22
      refine ⟨?_, rfl, knF.refl⟩
      unfold fTwo
      first
      | rw [ifb_neg h5]
      | rw [ifb_pos hf (by omega) rfl, ifb_neg h13]
      | rw [ifb_pos hf (by omega) rfl, ifb_pos he (by omega) rfl, if_pos h18]
    · skip
      obtain ⟨e, he, rfl⟩ := bel_ex (by omega) h13
      refine V_iload_n rfl dX6_two_16 ?_
      refine V_iload_n rfl dX6_two_17 ?_
      refine V_icmp_neN 23 dX6_two_18 (by decide) (by omega) (by omega) (fun h18 => ?_) (fun h18 => ?_)
      · skip
        exact hfin f e hf he h18 rfl rfl
      · skip
        refine V_iconst (-1) (by decide) dX6_two_21 ?_
        refine V_iret rfl rfl rfl ?_ dX6_two_22
        refine ⟨?_, rfl, knF.refl⟩
        unfold fTwo
        first
        | rw [ifb_neg h5]
        | rw [ifb_pos hf (by omega) rfl, ifb_neg h13]
        | rw [ifb_pos hf (by omega) rfl, ifb_pos he (by omega) rfl, if_pos h18]
end MFACE
