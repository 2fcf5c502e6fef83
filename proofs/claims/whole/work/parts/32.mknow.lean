/-! CarvedWeeksModel: known, was, missed, clash -/
theorem ms_eq {tv : TV} {W : WV} (h8 : tF tv ≤ 8) : ∀ k, (msF tv W 99 k).1 = (msF tv W 9 k).1 ∧ (0 < k → (msF tv W 99 k).2 = (msF tv W 9 k).2)
  | 0 => ⟨rfl, fun h => absurd h (Nat.lt_irrefl _)⟩
  | k + 1 => by
    obtain ⟨a, b⟩ := ms_eq (tv := tv) (W := W) h8 k
    have hle := rgt_le (tv := tv) (tr := wT W) (rd := rdN tv W 1 k) _ rfl
    have e1 : ∀ l, msF tv W l (k + 1) = if rgtN tv (wT W) (rdN tv W 1 k) < (msF tv W l k).2 then (some k, rgtN tv (wT W) (rdN tv W 1 k)) else msF tv W l k := fun _ => rfl
    rw [e1, e1]
    rcases Nat.eq_zero_or_pos k with h | h
    · subst h
      have z1 : (msF tv W 99 0).2 = 99 := rfl
      have z2 : (msF tv W 9 0).2 = 9 := rfl
      rw [z1, z2, if_pos (by omega), if_pos (by omega)]
      exact ⟨rfl, fun _ => rfl⟩
    · rw [b h]
      by_cases c : rgtN tv (wT W) (rdN tv W 1 k) < (msF tv W 9 k).2
      · rw [if_pos c, if_pos c]; exact ⟨rfl, fun _ => rfl⟩
      · rw [if_neg c, if_neg c]; exact ⟨a, fun _ => b h⟩
section MKNOW
variable {g : GC} {sg : SG} {I : IM} {x : XV} {tv : TV} {W : WV} {P K : SV} {np : Nat}
theorem D_known {h w : Int32} (hM : MSt sg I x tv W P K) (hS : STok x tv W P K) : Ct m_X6_known_ g [rf g 92, .int h, .int w] sg I (knQ sg I (fKnown tv W h w)) := by
  obtain ⟨hX0, hok, hnp, hns, ⟨hWok, hwk⟩, hPok, hKok⟩ := hS
  obtain ⟨hK, ⟨mlen, mtx⟩, hT, hW, mkept, mKs, mdone, mPs⟩ := hM
  have hK0 := hK
  have hT0 := hT
  have hW0 := hW
  obtain ⟨m0, mR1, mR3, mR4, mR5, mR6, mR7, mR8, mR10, mR16, mR17, mA93, mA94, mA95, mA96, mA97, mA98, mA99, mA100, mA101, mA102⟩ := hK
  obtain ⟨mF, mnL, mnP, mnS, mnB, mL, mP, mS, mB, mWd, mnw⟩ := hT
  have hF1 := hok.1
  have hF8 := hok.2.1
  have h256 := p2_le8 hF8
  have h16 := p2_le16 hF8
  have nL10 := hok.2.2.2.2.2.2.2.1
  have nP5 := hok.2.2.2.2.2.2.2.2.1
  have nS5 := hok.2.2.2.2.2.2.2.2.2.1
  have nB6 := hok.2.2.2.2.2.2.2.2.2.2
  have hmk := hWok.2.2.2.1
  have hn12 := hmk.1
  have htr := hWok.1
  have hnw := nw_le hF8
  have hnw0 := nw_pos hWok
  obtain ⟨wT0, wK0, wM0, wH0, wC0⟩ := id hW
  refine Ct.of rfl (Nat.le_of_ble_eq_true rfl) fun X => ?_
  show V X _ sg I 0 [some (rf g 92), some (.int h), some (.int w), none] []
  have hfin : ∀ hh j, (hh = 1 ∨ hh = 2) → h = nI hh → j < 6 → w = nI j → V X (ZQ X (knQ sg I (fKnown tv W h w))) sg I 21 [some (rf g 92), some (.int (nI hh)), some (.int (nI j)), none] [] := by
    intro hh j hh1 eh hj ew
    have hrd : rdN tv W hh 99 < 65536 := Nat.lt_of_lt_of_le rd_lt h16
    have hfk : fKnown tv W h w = if j = 0 then nI (bm (tF tv) (fun f => knw tv (rdN tv W hh 99) (2 * f))) else if j = 1 then nI (bm (tF tv) (fun f => knw tv (rdN tv W hh 99) (2 * f + 1)))
      else if j = 2 then nI (rgtN tv (wT W) (rdN tv W hh 99)) else if j = 3 then nI (wrgN tv (wT W) (rdN tv W hh 99)) else if j = 4 then nI (rdN tv W hh 99) else bI (¬ anyW tv (rdN tv W hh 99) = true) := by
      unfold fKnown
      rw [if_pos (by rcases hh1 with rfl | rfl <;> simp [eh]), ifb_pos hj (by decide) ew, eh, ix_nI (by omega)]
    rw [hfk]
    refine V_aload_n rfl dX6_known__21 ?_
    refine V_iconst (nI 0) (by decide) dX6_known__22 ?_
    refine V_iload_n rfl dX6_known__23 ?_
    refine V_iconst (-1) (by decide) dX6_known__24 ?_
    refine cf_X6_192 (D_readBy hK0 hT0 hok hW0 (by decide) hmk (by omega) (Or.inl ⟨rfl, rfl⟩)) (by assumption) rfl rfl ft0 (Nat.le_of_ble_eq_true rfl) dX6_known__25 ?_
    refine V_ist3 rfl rfl dX6_known__28 ?_
    refine V_aload_n rfl dX6_known__29 ?_
    refine V_iload_n rfl dX6_known__30 ?_
    refine cl_X6_196 (D_knows hK0 hT0 hok hrd) (by assumption) rfl rfl ft0 (Nat.le_of_ble_eq_true rfl) dX6_known__31 (fun rr s9 J1 hq => ?_)
    have hkn := kw_kn hq
    obtain ⟨rfl, hs, q13, q14, q15, -⟩ := id hq
    have hs := hs.symm
    subst hs
    show V X _ sg J1 34 _ []
    have hW1 := hW0.kn hkn
    refine V_iload_n rfl dX6_known__34 ?_
    rcases (show j = 0 ∨ j = 1 ∨ j = 2 ∨ j = 3 ∨ j = 4 ∨ j = 5 by omega) with rfl | rfl | rfl | rfl | rfl | rfl
    · refine V_tableIn 33 68 dX6_known__35 (by decide) (by decide) rfl (by decide) ?_
      refine V_aload_n rfl dX6_known__68 ?_
      refine gfe_X6_178 (by assumption) (by assumption) rfl dX6_known__69 ?_
      refine V_iret rfl rfl rfl ?_ dX6_known__72
      exact ⟨rfl, rfl, hkn⟩
    · refine V_tableIn 38 73 dX6_known__35 (by decide) (by decide) rfl (by decide) ?_
      refine V_aload_n rfl dX6_known__73 ?_
      refine gfe_X6_181 (by assumption) (by assumption) rfl dX6_known__74 ?_
      refine V_iret rfl rfl rfl ?_ dX6_known__77
      exact ⟨rfl, rfl, hkn⟩
    · refine V_tableIn 43 78 dX6_known__35 (by decide) (by decide) rfl (by decide) ?_
      refine V_aload_n rfl dX6_known__78 ?_
      refine V_iconst (nI 0) (by decide) dX6_known__79 ?_
      refine cf_X6_199 (D_right hK0 hok hW1 (by decide) htr q14 q15) (by assumption) rfl rfl ft0 (Nat.le_of_ble_eq_true rfl) dX6_known__80 ?_
      refine V_iret rfl rfl rfl ?_ dX6_known__83
      exact ⟨rfl, rfl, hkn⟩
    · refine V_tableIn 49 84 dX6_known__35 (by decide) (by decide) rfl (by decide) ?_
      refine V_aload_n rfl dX6_known__84 ?_
      refine V_iconst (nI 0) (by decide) dX6_known__85 ?_
      refine cf_X6_202 (D_wrong hK0 hok hW1 (by decide) htr q14 q15) (by assumption) rfl rfl ft0 (Nat.le_of_ble_eq_true rfl) dX6_known__86 ?_
      refine V_iret rfl rfl rfl ?_ dX6_known__89
      exact ⟨rfl, rfl, hkn⟩
    · refine V_tableIn 55 90 dX6_known__35 (by decide) (by decide) rfl (by decide) ?_
      refine V_iload_n rfl dX6_known__90 ?_
      refine V_iret rfl rfl rfl ?_ dX6_known__91
      exact ⟨rfl, rfl, hkn⟩
    · refine V_tableOut 92 dX6_known__35 (Or.inr (by decide)) (by decide) ?_
      refine V_aload_n rfl dX6_known__92 ?_
      refine gfe_X6_174 (by assumption) (by assumption) rfl dX6_known__93 ?_
      refine V_if_eqB 103 dX6_known__96 (by decide) (fun h96 => ?_) (fun h96 => ?_)
      · skip
        refine V_iconst (nI 1) (by decide) dX6_known__103 ?_
        refine V_iret rfl rfl rfl ?_ dX6_known__104
        refine ⟨?_, rfl, hkn⟩
        show _ = some (Value.int (bI (¬ anyW tv (rdN tv W hh 99) = true)))
        first
        | rw [bI_t h96]
        | rw [bI_f (fun z => z h96)]
      · skip
        refine V_iconst (nI 0) (by decide) dX6_known__99 ?_
        refine V_goto 104 dX6_known__100 (by decide) ?_
        refine V_iret rfl rfl rfl ?_ dX6_known__104
        refine ⟨?_, rfl, hkn⟩
        show _ = some (Value.int (bI (¬ anyW tv (rdN tv W hh 99) = true)))
        first
        | rw [bI_t h96]
        | rw [bI_f (fun z => z h96)]
  refine V_iload_n rfl dX6_known__0 ?_
  refine cf_X6_187 (D_isRule) rfl rfl ft0 (Nat.le_of_ble_eq_true rfl) dX6_known__1 ?_
  refine V_if_eqB 19 dX6_known__4 (by decide) (fun h4 => ?_) (fun h4 => ?_)
  · skip
    refine V_iconst (-1) (by decide) dX6_known__19 ?_
    refine V_iret rfl rfl rfl ?_ dX6_known__20
    refine ⟨?_, rfl, knF.refl⟩
    unfold fKnown
    first
    | rw [if_neg h4]
    | rw [if_pos h4, ifb_neg h16]
  · skip
    refine V_iload_n rfl dX6_known__7 ?_
    refine V_i2l dX6_known__8 ?_
    refine V_lconst (lN 0) rfl dX6_known__9 ?_
    refine V_ldc2 RX6 _ rfl wk_X6_190 dX6_known__10 ?_
    rw [show (5 : Int64) = lN 5 from by decide]
    refine cf_X6_52 (C_in0k (k := 5) (by decide)) rfl rfl ft0 (Nat.le_of_ble_eq_true rfl) dX6_known__13 ?_
    refine V_if_neB 21 dX6_known__16 (by decide) (fun h16 => ?_) (fun h16 => ?_)
    · skip
      obtain ⟨hh, hh1, eh, -⟩ := isR_ix h4
      obtain ⟨j, hj, rfl⟩ := bel_ex (by decide) h16
      subst eh
      exact hfin hh j hh1 rfl hj rfl
    · skip
      refine V_iconst (-1) (by decide) dX6_known__19 ?_
      refine V_iret rfl rfl rfl ?_ dX6_known__20
      refine ⟨?_, rfl, knF.refl⟩
      unfold fKnown
      first
      | rw [if_neg h4]
      | rw [if_pos h4, ifb_neg h16]
theorem D_isKnown {rd v : Nat} (hK : MK sg) (hok : TVok tv) (hv : v < 2 * tF tv) (h13 : I 92 13 = bI (anyW tv rd = true)) (h14 : I 92 14 = nI (bm (tF tv) (fun f => knw tv rd (2 * f)))) (h15 : I 92 15 = nI (bm (tF tv) (fun f => knw tv rd (2 * f + 1)))) : Fn m_X6_isKnown g [rf g 92, .int (nI v)] sg I (some (.int (bI (knw tv rd v = true)))) sg I := by
  have m0 := hK.1
  have hF8 := hok.2.1
  have b1 : bm (tF tv) (fun f => knw tv rd (2 * f)) < 65536 := bm_16 (by omega)
  have b2 : bm (tF tv) (fun f => knw tv rd (2 * f + 1)) < 65536 := bm_16 (by omega)
  have l1 : bm (tF tv) (fun f => knw tv rd (2 * f)) / 2 ^ (v / 2) ≤ bm (tF tv) (fun f => knw tv rd (2 * f)) := Nat.div_le_self _ _
  have l2 : bm (tF tv) (fun f => knw tv rd (2 * f + 1)) / 2 ^ (v / 2) ≤ bm (tF tv) (fun f => knw tv rd (2 * f + 1)) := Nat.div_le_self _ _
  have t1 : ∀ p : Nat → Bool, (bm (tF tv) p / 2 ^ (v / 2) % 2 = 1) ↔ p (v / 2) = true := by
    intro p
    have h := bm_bit p (v / 2) (tF tv)
    rw [Nat.testBit_eq_decide_div_mod_eq, decide_eq_true (show v / 2 < tF tv by omega), Bool.true_and] at h
    rw [← h, decide_eq_true_iff]
  refine Ct.of rfl (Nat.le_of_ble_eq_true rfl) fun X => ?_
  show V X _ sg I 0 [some (rf g 92), some (.int (nI v))] []
  have hfin : anyW tv rd = true → ∀ m, ((m = 1) ↔ knw tv rd v = true) → m < 2 → V X (ZQ X (fun r0 s0 I0 => r0 = some (.int (bI (knw tv rd v = true))) ∧ s0 = sg ∧ I0 = I)) sg I 36 [some (rf g 92), some (.int (nI v))] [.int (nI m)] := by
    intro _ m hm hm2
    refine V_iconst (nI 1) (by decide) dX6_isKnown_36 ?_
    refine V_icmp_neN 44 dX6_isKnown_37 (by decide) (by omega) (by omega) (fun h37 => ?_) (fun h37 => ?_)
    · skip
      refine V_iconst (nI 0) (by decide) dX6_isKnown_44 ?_
      refine V_zret rfl (rfl) rfl rfl ?_ dX6_isKnown_45
      exact ⟨by first | rw [bI_t (hm.mp (by omega))] | rw [bI_f (fun z => by have := hm.mpr z; omega)], rfl, rfl⟩
    · skip
      refine V_iconst (nI 1) (by decide) dX6_isKnown_40 ?_
      refine V_goto 45 dX6_isKnown_41 (by decide) ?_
      refine V_zret rfl (rfl) rfl rfl ?_ dX6_isKnown_45
      exact ⟨by first | rw [bI_t (hm.mp (by omega))] | rw [bI_f (fun z => by have := hm.mpr z; omega)], rfl, rfl⟩
  by_cases hc : v % 2 = 0
  · have ev : knw tv rd v = knw tv rd (2 * (v / 2)) := congrArg (knw tv rd) (by omega)
    refine V_aload_n rfl dX6_isKnown_0 ?_
    refine gfe_X6_174 (by assumption) (by assumption) rfl dX6_isKnown_1 ?_
    refine V_if_eqB 44 dX6_isKnown_4 (by decide) (fun h4 => ?_) (fun h4 => ?_)
    · skip
      refine V_iconst (nI 0) (by decide) dX6_isKnown_44 ?_
      refine V_zret rfl (rfl) rfl rfl ?_ dX6_isKnown_45
      exact ⟨by rw [bI_f (fun z => h4 (by unfold knw at z; rw [Bool.and_eq_true] at z; exact z.1))], rfl, rfl⟩
    · skip
      refine V_iload_n rfl dX6_isKnown_7 ?_
      refine V_iconst (nI 1) (by decide) dX6_isKnown_8 ?_
      refine V_iand1N dX6_isKnown_9 ?_
      refine V_if_neN 26 dX6_isKnown_10 (by decide) (by omega) (fun h10 => absurd h10 (by omega)) (fun h10 => ?_)
      refine V_aload_n rfl dX6_isKnown_13 ?_
      refine gfe_X6_178 (by assumption) (by assumption) rfl dX6_isKnown_14 ?_
      refine V_iload_n rfl dX6_isKnown_17 ?_
      refine V_iconst (nI 2) (by decide) dX6_isKnown_18 ?_
      refine V_idiv (by decide) dX6_isKnown_19 ?_
      refine V_topi (nI_div (by omega) (by decide) (by decide)) ?_
      refine V_ishrN ⟨by omega, by omega⟩ dX6_isKnown_20 ?_
      refine V_iconst (nI 1) (by decide) dX6_isKnown_21 ?_
      refine V_iand1N dX6_isKnown_22 ?_
      refine V_goto 36 dX6_isKnown_23 (by decide) ?_
      exact hfin h4 _ (by rw [ev]; exact t1 (fun f => knw tv rd (2 * f))) (Nat.mod_lt _ (by decide))
  · have ev : knw tv rd v = knw tv rd (2 * (v / 2) + 1) := congrArg (knw tv rd) (by omega)
    refine V_aload_n rfl dX6_isKnown_0 ?_
    refine gfe_X6_174 (by assumption) (by assumption) rfl dX6_isKnown_1 ?_
    refine V_if_eqB 44 dX6_isKnown_4 (by decide) (fun h4 => ?_) (fun h4 => ?_)
    · skip
      refine V_iconst (nI 0) (by decide) dX6_isKnown_44 ?_
      refine V_zret rfl (rfl) rfl rfl ?_ dX6_isKnown_45
      exact ⟨by rw [bI_f (fun z => h4 (by unfold knw at z; rw [Bool.and_eq_true] at z; exact z.1))], rfl, rfl⟩
    · skip
      refine V_iload_n rfl dX6_isKnown_7 ?_
      refine V_iconst (nI 1) (by decide) dX6_isKnown_8 ?_
      refine V_iand1N dX6_isKnown_9 ?_
      refine V_if_neN 26 dX6_isKnown_10 (by decide) (by omega) (fun h10 => ?_) (fun h10 => absurd h10 (by omega))
      refine V_aload_n rfl dX6_isKnown_26 ?_
      refine gfe_X6_181 (by assumption) (by assumption) rfl dX6_isKnown_27 ?_
      refine V_iload_n rfl dX6_isKnown_30 ?_
      refine V_iconst (nI 2) (by decide) dX6_isKnown_31 ?_
      refine V_idiv (by decide) dX6_isKnown_32 ?_
      refine V_topi (nI_div (by omega) (by decide) (by decide)) ?_
      refine V_ishrN ⟨by omega, by omega⟩ dX6_isKnown_33 ?_
      refine V_iconst (nI 1) (by decide) dX6_isKnown_34 ?_
      refine V_iand1N dX6_isKnown_35 ?_
      exact hfin h4 _ (by rw [ev]; exact t1 (fun f => knw tv rd (2 * f + 1))) (Nat.mod_lt _ (by decide))
theorem D_was {v : Int32} (hM : MSt sg I x tv W P K) (hS : STok x tv W P K) : Ct m_X6_was g [rf g 92, .int v] sg I (knQ sg I (fWas tv W v)) := by
  obtain ⟨hX0, hok, hnp, hns, ⟨hWok, hwk⟩, hPok, hKok⟩ := hS
  obtain ⟨hK, ⟨mlen, mtx⟩, hT, hW, mkept, mKs, mdone, mPs⟩ := hM
  have hK0 := hK
  have hT0 := hT
  have hW0 := hW
  obtain ⟨m0, mR1, mR3, mR4, mR5, mR6, mR7, mR8, mR10, mR16, mR17, mA93, mA94, mA95, mA96, mA97, mA98, mA99, mA100, mA101, mA102⟩ := hK
  obtain ⟨mF, mnL, mnP, mnS, mnB, mL, mP, mS, mB, mWd, mnw⟩ := hT
  have hF1 := hok.1
  have hF8 := hok.2.1
  have h256 := p2_le8 hF8
  have h16 := p2_le16 hF8
  have nL10 := hok.2.2.2.2.2.2.2.1
  have nP5 := hok.2.2.2.2.2.2.2.2.1
  have nS5 := hok.2.2.2.2.2.2.2.2.2.1
  have nB6 := hok.2.2.2.2.2.2.2.2.2.2
  have hmk := hWok.2.2.2.1
  have hn12 := hmk.1
  have htr := hWok.1
  have hnw := nw_le hF8
  have hnw0 := nw_pos hWok
  obtain ⟨wT0, wK0, wM0, wH0, wC0⟩ := id hW
  refine Ct.of rfl (Nat.le_of_ble_eq_true rfl) fun X => ?_
  show V X _ sg I 0 [some (rf g 92), some (.int v), none, none, none] []
  have hrd : rdN tv W 1 99 < 2 ^ (2 * tF tv) := rd_lt
  have loop : ∀ q, q < 2 * tF tv → v = nI q → ∀ (d k : Nat) (J : IM), 2 * tF tv - k = d → k ≤ 2 * tF tv → knF I J → V X (ZQ X (knQ sg I (fWas tv W v))) sg J 23 [some (rf g 92), some (.int (nI q)), some (.int (nI (rdN tv W 1 99))), some (.int (nI (bm k (fun u => knw tv (rdN tv W 1 99 ||| 2 ^ u) q)))), some (.int (nI k))] [] := by
    intro q hq ev d
    have hff : fWas tv W v = nI (bm (2 * tF tv) (fun u => knw tv (rdN tv W 1 99 ||| 2 ^ u) q)) := by unfold fWas; rw [ifb_pos hq (by omega) ev]
    rw [hff]
    induction d with
    | zero =>
      intro k J hd hkn hf
      have e : k = 2 * tF tv := by omega
      subst e
      have hT1 := hT0.kn hf
      refine V_iload rfl dX6_was_23 ?_
      refine V_iconst (nI 2) (by decide) dX6_was_25 ?_
      refine V_aload_n rfl dX6_was_26 ?_
      refine gf_X6_13 (by assumption) (by assumption) rfl dX6_was_27 ?_
      refine V_iconst (nI 0) (by decide) dX6_was_30 ?_
      refine V_iald _ (by assumption) rfl (by omega) (by omega) dX6_was_31 ?_
      refine V_topi (hT1.1) ?_
      refine V_imulN dX6_was_32 ?_
      refine V_icmp_geN 71 dX6_was_33 (by decide) (by omega) (by omega) (fun h33 => ?_) (fun h33 => absurd h33 (by omega))
      refine V_iload_n rfl dX6_was_71 ?_
      refine V_iret rfl rfl rfl ?_ dX6_was_72
      exact ⟨rfl, rfl, hf⟩
    | succ d ih =>
      intro k J hd hkn hf
      have hT1 := hT0.kn hf
      have hro := knw_or (tv := tv) k (show k < 2 * tF tv by omega) hrd
      have hro2 := Nat.lt_of_lt_of_le hro h16
      have h8 := fun J hf => ih (k + 1) J (by omega) (by omega) hf
      rw [bm_succ] at h8
      refine V_iload rfl dX6_was_23 ?_
      refine V_iconst (nI 2) (by decide) dX6_was_25 ?_
      refine V_aload_n rfl dX6_was_26 ?_
      refine gf_X6_13 (by assumption) (by assumption) rfl dX6_was_27 ?_
      refine V_iconst (nI 0) (by decide) dX6_was_30 ?_
      refine V_iald _ (by assumption) rfl (by omega) (by omega) dX6_was_31 ?_
      refine V_topi (hT1.1) ?_
      refine V_imulN dX6_was_32 ?_
      refine V_icmp_geN 71 dX6_was_33 (by decide) (by omega) (by omega) (fun h33 => absurd h33 (by omega)) (fun h33 => ?_)
      refine V_aload_n rfl dX6_was_36 ?_
      refine V_iload_n rfl dX6_was_37 ?_
      refine V_iconst (nI 1) (by decide) dX6_was_38 ?_
      refine V_iload rfl dX6_was_39 ?_
      refine V_ishl1N (by omega) dX6_was_41 ?_
      refine V_iorN dX6_was_42 ?_
      refine cl_X6_196 (D_knows hK0 hT1 hok hro2) (by assumption) rfl rfl ft0 (Nat.le_of_ble_eq_true rfl) dX6_was_43 (fun rr s9 J1 hq2 => ?_)
      have hkn2 := hf.trans (kw_kn hq2)
      obtain ⟨rfl, hs, -⟩ := id hq2
      have hs := hs.symm
      subst hs
      show V X _ sg J1 46 _ []
      have h9 := h8 J1 hkn2
      refine V_iload_n rfl dX6_was_46 ?_
      refine V_aload_n rfl dX6_was_47 ?_
      refine V_iload_n rfl dX6_was_48 ?_
      refine cf_X6_227 (D_isKnown hK0 hok hq hq2.2.2.1 hq2.2.2.2.1 hq2.2.2.2.2.1) (by assumption) rfl rfl ft0 (Nat.le_of_ble_eq_true rfl) dX6_was_49 ?_
      refine V_if_eqB 62 dX6_was_52 (by decide) (fun h52 => ?_) (fun h52 => ?_)
      · skip
        refine V_iconst (nI 0) (by decide) dX6_was_62 ?_
        refine V_iorN dX6_was_63 ?_
        refine V_ist3 rfl rfl dX6_was_64 ?_
        refine V_iinc4_ _ (nI_inc _) rfl rfl dX6_was_65 ?_
        refine V_goto 23 dX6_was_68 (by decide) ?_
        first
        | (rw [if_pos h52] at h9; exact h9)
        | (rw [if_neg h52] at h9; exact h9)
      · skip
        refine V_iconst (nI 1) (by decide) dX6_was_55 ?_
        refine V_iload rfl dX6_was_56 ?_
        refine V_ishl1N (by omega) dX6_was_58 ?_
        refine V_goto 63 dX6_was_59 (by decide) ?_
        refine V_iorN dX6_was_63 ?_
        refine V_ist3 rfl rfl dX6_was_64 ?_
        refine V_iinc4_ _ (nI_inc _) rfl rfl dX6_was_65 ?_
        refine V_goto 23 dX6_was_68 (by decide) ?_
        first
        | (rw [if_pos h52] at h9; exact h9)
        | (rw [if_neg h52] at h9; exact h9)
  refine V_aload_n rfl dX6_was_0 ?_
  refine V_iload_n rfl dX6_was_1 ?_
  refine cf_X6_205 (D_isSaying hK0 hT0 hok) (by assumption) rfl rfl ft0 (Nat.le_of_ble_eq_true rfl) dX6_was_2 ?_
  refine V_if_neB 10 dX6_was_5 (by decide) (fun h5 => ?_) (fun h5 => ?_)
  · skip
    obtain ⟨q, hq, rfl⟩ := bel_ex (by omega) h5
    refine V_aload_n rfl dX6_was_10 ?_
    refine V_iconst (nI 0) (by decide) dX6_was_11 ?_
    refine V_iconst (nI 1) (by decide) dX6_was_12 ?_
    refine V_iconst (-1) (by decide) dX6_was_13 ?_
    refine cf_X6_192 (D_readBy hK0 hT0 hok hW0 (by decide) hmk (by decide) (Or.inl ⟨rfl, rfl⟩)) (by assumption) rfl rfl ft0 (Nat.le_of_ble_eq_true rfl) dX6_was_14 ?_
    refine V_ist2 rfl rfl dX6_was_17 ?_
    refine V_iconst (nI 0) (by decide) dX6_was_18 ?_
    refine V_ist3 rfl rfl dX6_was_19 ?_
    refine V_iconst (nI 0) (by decide) dX6_was_20 ?_
    refine V_ist4 rfl rfl dX6_was_21 ?_
    exact loop q hq rfl (2 * tF tv) 0 I (by omega) (by omega) knF.refl
  · skip
    refine V_iconst (-1) (by decide) dX6_was_8 ?_
    refine V_iret rfl rfl rfl ?_ dX6_was_9
    exact ⟨by unfold fWas; rw [ifb_neg h5], rfl, knF.refl⟩
theorem D_missed (hM : MSt sg I x tv W P K) (hS : STok x tv W P K) : Ct m_X6_missed g [rf g 92] sg I (knQ sg I (fMissed tv W)) := by
  obtain ⟨hX0, hok, hnp, hns, ⟨hWok, hwk⟩, hPok, hKok⟩ := hS
  obtain ⟨hK, ⟨mlen, mtx⟩, hT, hW, mkept, mKs, mdone, mPs⟩ := hM
  have hK0 := hK
  have hT0 := hT
  have hW0 := hW
  obtain ⟨m0, mR1, mR3, mR4, mR5, mR6, mR7, mR8, mR10, mR16, mR17, mA93, mA94, mA95, mA96, mA97, mA98, mA99, mA100, mA101, mA102⟩ := hK
  obtain ⟨mF, mnL, mnP, mnS, mnB, mL, mP, mS, mB, mWd, mnw⟩ := hT
  have hF1 := hok.1
  have hF8 := hok.2.1
  have h256 := p2_le8 hF8
  have h16 := p2_le16 hF8
  have nL10 := hok.2.2.2.2.2.2.2.1
  have nP5 := hok.2.2.2.2.2.2.2.2.1
  have nS5 := hok.2.2.2.2.2.2.2.2.2.1
  have nB6 := hok.2.2.2.2.2.2.2.2.2.2
  have hmk := hWok.2.2.2.1
  have hn12 := hmk.1
  have htr := hWok.1
  have hnw := nw_le hF8
  have hnw0 := nw_pos hWok
  obtain ⟨wT0, wK0, wM0, wH0, wC0⟩ := id hW
  have hff : fMissed tv W = o4 (msF tv W 99 (wM W).1).1 := by unfold fMissed; rw [(ms_eq hF8 _).1]
  have hls : ∀ k, (msF tv W 99 k).2 ≤ 99 := by
    intro k
    induction k with
    | zero => exact Nat.le_refl _
    | succ k ih => unfold msF; split; exact Nat.le_trans (rgt_le _ rfl) (by omega); exact ih
  rw [hff]
  refine Ct.of rfl (Nat.le_of_ble_eq_true rfl) fun X => ?_
  show V X _ sg I 0 [some (rf g 92), none, none, none] []
  have loop : ∀ (d k : Nat) (J : IM), (wM W).1 - k = d → k ≤ (wM W).1 → knF I J → V X (ZQ X (knQ sg I (o4 (msF tv W 99 (wM W).1).1))) sg J 8 [some (rf g 92), some (.int (o4 (msF tv W 99 k).1)), some (.int (nI (msF tv W 99 k).2)), some (.int (nI k))] [] := by
    intro d
    induction d with
    | zero =>
      intro k J hd hkn hf
      have e : k = (wM W).1 := by omega
      subst e
      have hW1 := hW0.kn hf
      refine V_iload_n rfl dX6_missed_8 ?_
      refine V_aload_n rfl dX6_missed_9 ?_
      refine gf_X6_33 (by assumption) (by assumption) rfl dX6_missed_10 ?_
      refine V_iconst (nI 2) (by decide) dX6_missed_13 ?_
      refine V_iald _ (by assumption) rfl (by omega) (by omega) dX6_missed_14 ?_
      refine V_topi (hW1.2.2.1) ?_
      refine V_icmp_geN 69 dX6_missed_15 (by decide) (by omega) (by omega) (fun h15 => ?_) (fun h15 => absurd h15 (by omega))
      refine V_iload_n rfl dX6_missed_69 ?_
      refine V_iret rfl rfl rfl ?_ dX6_missed_70
      exact ⟨rfl, rfl, hf⟩
    | succ d ih =>
      intro k J hd hkn hf
      have hW1 := hW0.kn hf
      have hT1 := hT0.kn hf
      have hrd : rdN tv W 1 k < 65536 := Nat.lt_of_lt_of_le rd_lt h16
      have hle := rgt_le (tv := tv) (tr := wT W) (rd := rdN tv W 1 k) _ rfl
      have hl9 := hls k
      have h8 := fun J hf => ih (k + 1) J (by omega) (by omega) hf
      have e1 : msF tv W 99 (k + 1) = if rgtN tv (wT W) (rdN tv W 1 k) < (msF tv W 99 k).2 then (some k, rgtN tv (wT W) (rdN tv W 1 k)) else msF tv W 99 k := rfl
      rw [e1] at h8
      refine V_iload_n rfl dX6_missed_8 ?_
      refine V_aload_n rfl dX6_missed_9 ?_
      refine gf_X6_33 (by assumption) (by assumption) rfl dX6_missed_10 ?_
      refine V_iconst (nI 2) (by decide) dX6_missed_13 ?_
      refine V_iald _ (by assumption) rfl (by omega) (by omega) dX6_missed_14 ?_
      refine V_topi (hW1.2.2.1) ?_
      refine V_icmp_geN 69 dX6_missed_15 (by decide) (by omega) (by omega) (fun h15 => absurd h15 (by omega)) (fun h15 => ?_)
      refine V_aload_n rfl dX6_missed_18 ?_
      refine V_aload_n rfl dX6_missed_19 ?_
      refine V_iconst (nI 0) (by decide) dX6_missed_20 ?_
      refine V_iconst (nI 1) (by decide) dX6_missed_21 ?_
      refine V_iload_n rfl dX6_missed_22 ?_
      refine cf_X6_192 (D_readBy hK0 hT1 hok hW1 (by decide) hmk (by decide) (Or.inr ⟨rfl, by omega⟩)) (by assumption) rfl rfl ft0 (Nat.le_of_ble_eq_true rfl) dX6_missed_23 ?_
      refine cl_X6_196 (D_knows hK0 hT1 hok hrd) (by assumption) rfl rfl ft0 (Nat.le_of_ble_eq_true rfl) dX6_missed_26 (fun rr s9 J1 hq2 => ?_)
      have hkn2 := hf.trans (kw_kn hq2)
      obtain ⟨rfl, hs, -⟩ := id hq2
      have hs := hs.symm
      subst hs
      show V X _ sg J1 29 _ []
      have hW2 := hW0.kn hkn2
      have h9 := h8 J1 hkn2
      refine V_aload_n rfl dX6_missed_29 ?_
      refine V_iconst (nI 0) (by decide) dX6_missed_30 ?_
      refine cf_X6_199 (D_right hK0 hok hW2 (by decide) htr hq2.2.2.2.1 hq2.2.2.2.2.1) (by assumption) rfl rfl ft0 (Nat.le_of_ble_eq_true rfl) dX6_missed_31 ?_
      refine V_iload_n rfl dX6_missed_34 ?_
      refine V_icmp_geN 42 dX6_missed_35 (by decide) (by omega) (by omega) (fun h35 => ?_) (fun h35 => ?_)
      · skip
        refine V_iload_n rfl dX6_missed_42 ?_
        refine V_ist1 rfl rfl dX6_missed_43 ?_
        refine V_aload_n rfl dX6_missed_44 ?_
        refine V_iconst (nI 0) (by decide) dX6_missed_45 ?_
        refine cf_X6_199 (D_right hK0 hok hW2 (by decide) htr hq2.2.2.2.1 hq2.2.2.2.2.1) (by assumption) rfl rfl ft0 (Nat.le_of_ble_eq_true rfl) dX6_missed_46 ?_
        refine V_iload_n rfl dX6_missed_49 ?_
        refine V_icmp_geN 61 dX6_missed_50 (by decide) (by omega) (by omega) (fun h50 => ?_) (fun h50 => ?_)
        · skip
          refine V_iload_n rfl dX6_missed_61 ?_
          refine V_ist2 rfl rfl dX6_missed_62 ?_
          refine V_iinc3_ _ (nI_inc _) rfl rfl dX6_missed_63 ?_
          refine V_goto 8 dX6_missed_66 (by decide) ?_
          first
          | (exfalso; omega)
          | (rw [if_pos (by omega)] at h9; exact h9)
          | (rw [if_neg (by omega)] at h9; exact h9)
        · skip
          refine V_aload_n rfl dX6_missed_53 ?_
          refine V_iconst (nI 0) (by decide) dX6_missed_54 ?_
          refine cf_X6_199 (D_right hK0 hok hW2 (by decide) htr hq2.2.2.2.1 hq2.2.2.2.2.1) (by assumption) rfl rfl ft0 (Nat.le_of_ble_eq_true rfl) dX6_missed_55 ?_
          refine V_goto 62 dX6_missed_58 (by decide) ?_
          refine V_ist2 rfl rfl dX6_missed_62 ?_
          refine V_iinc3_ _ (nI_inc _) rfl rfl dX6_missed_63 ?_
          refine V_goto 8 dX6_missed_66 (by decide) ?_
          first
          | (exfalso; omega)
          | (rw [if_pos (by omega)] at h9; exact h9)
          | (rw [if_neg (by omega)] at h9; exact h9)
      · skip
        refine V_iload_n rfl dX6_missed_38 ?_
        refine V_goto 43 dX6_missed_39 (by decide) ?_
        refine V_ist1 rfl rfl dX6_missed_43 ?_
        refine V_aload_n rfl dX6_missed_44 ?_
        refine V_iconst (nI 0) (by decide) dX6_missed_45 ?_
        refine cf_X6_199 (D_right hK0 hok hW2 (by decide) htr hq2.2.2.2.1 hq2.2.2.2.2.1) (by assumption) rfl rfl ft0 (Nat.le_of_ble_eq_true rfl) dX6_missed_46 ?_
        refine V_iload_n rfl dX6_missed_49 ?_
        refine V_icmp_geN 61 dX6_missed_50 (by decide) (by omega) (by omega) (fun h50 => ?_) (fun h50 => ?_)
        · skip
          refine V_iload_n rfl dX6_missed_61 ?_
          refine V_ist2 rfl rfl dX6_missed_62 ?_
          refine V_iinc3_ _ (nI_inc _) rfl rfl dX6_missed_63 ?_
          refine V_goto 8 dX6_missed_66 (by decide) ?_
          first
          | (exfalso; omega)
          | (rw [if_pos (by omega)] at h9; exact h9)
          | (rw [if_neg (by omega)] at h9; exact h9)
        · skip
          refine V_aload_n rfl dX6_missed_53 ?_
          refine V_iconst (nI 0) (by decide) dX6_missed_54 ?_
          refine cf_X6_199 (D_right hK0 hok hW2 (by decide) htr hq2.2.2.2.1 hq2.2.2.2.2.1) (by assumption) rfl rfl ft0 (Nat.le_of_ble_eq_true rfl) dX6_missed_55 ?_
          refine V_goto 62 dX6_missed_58 (by decide) ?_
          refine V_ist2 rfl rfl dX6_missed_62 ?_
          refine V_iinc3_ _ (nI_inc _) rfl rfl dX6_missed_63 ?_
          refine V_goto 8 dX6_missed_66 (by decide) ?_
          first
          | (exfalso; omega)
          | (rw [if_pos (by omega)] at h9; exact h9)
          | (rw [if_neg (by omega)] at h9; exact h9)
  refine V_bipush (-4) (by decide) dX6_missed_0 ?_
  refine V_ist1 rfl rfl dX6_missed_2 ?_
  refine V_bipush (nI 99) (by decide) dX6_missed_3 ?_
  refine V_ist2 rfl rfl dX6_missed_5 ?_
  refine V_iconst (nI 0) (by decide) dX6_missed_6 ?_
  refine V_ist3 rfl rfl dX6_missed_7 ?_
  exact loop (wM W).1 0 I (by omega) (by omega) knF.refl
theorem D_says {set : Nat} (hK : MK sg) (hok : TVok tv) (hW : SlW I 0 W np) (hm : MKok tv (wM W) (wK W)) (hs : set < 2147483648) : Fn m_X6_says g [rf g 92, .int (nI set)] sg I (some (.int (nI (syN tv W set)))) sg I := by
  obtain ⟨m0, mR1, mR3, mR4, mR5, mR6, mR7, mR8, mR10, mR16, mR17, mA93, mA94, mA95, mA96, mA97, mA98, mA99, mA100, mA101, mA102⟩ := hK
  obtain ⟨wT0, wK0, wM0, wH0, wC0⟩ := hW
  have hn := hm.1
  have hF8 := hok.2.1
  refine Ct.of rfl (Nat.le_of_ble_eq_true rfl) fun X => ?_
  show V X _ sg I 0 [some (rf g 92), some (.int (nI set)), none, none] []
  have loop : ∀ (d k : Nat), (wM W).1 - k = d → k ≤ (wM W).1 →
      V X (ZQ X (fun r0 s0 I0 => r0 = some (.int (nI (syN tv W set))) ∧ s0 = sg ∧ I0 = I)) sg I 4 [some (rf g 92), some (.int (nI set)), some (.int (nI (bm (2 * tF tv) (fun v => anyB k (fun m => set.testBit m && decide ((wM W).2 m 0 = v)))))), some (.int (nI k))] [] := by
    intro d
    induction d with
    | zero =>
      intro k hd hkn
      have e : k = (wM W).1 := by omega
      subst e
      refine V_iload_n rfl dX6_says_4 ?_
      refine V_aload_n rfl dX6_says_5 ?_
      refine gf_X6_33 (by assumption) (by assumption) rfl dX6_says_6 ?_
      refine V_iconst (nI 2) (by decide) dX6_says_9 ?_
      refine V_iald _ (by assumption) rfl (by omega) (by omega) dX6_says_10 ?_
      refine V_topi (wM0) ?_
      refine V_icmp_geN 49 dX6_says_11 (by decide) (by omega) (by omega) (fun h11 => ?_) (fun h11 => absurd h11 (by omega))
      refine V_iload_n rfl dX6_says_49 ?_
      refine V_iret rfl rfl rfl ?_ dX6_says_50
      exact ⟨rfl, rfl, rfl⟩
    | succ d ih =>
      intro k hd hkn
      have hkl : k < (wM W).1 := by omega
      have hsay := (hm.2.1 k hkl).1
      have hbt := @Nat.testBit_eq_decide_div_mod_eq k set
      have h8 := ih (k + 1) (by omega) (by omega)
      refine V_iload_n rfl dX6_says_4 ?_
      refine V_aload_n rfl dX6_says_5 ?_
      refine gf_X6_33 (by assumption) (by assumption) rfl dX6_says_6 ?_
      refine V_iconst (nI 2) (by decide) dX6_says_9 ?_
      refine V_iald _ (by assumption) rfl (by omega) (by omega) dX6_says_10 ?_
      refine V_topi (wM0) ?_
      refine V_icmp_geN 49 dX6_says_11 (by decide) (by omega) (by omega) (fun h11 => absurd h11 (by omega)) (fun h11 => ?_)
      refine V_iload_n rfl dX6_says_14 ?_
      refine V_iload_n rfl dX6_says_15 ?_
      refine V_iload_n rfl dX6_says_16 ?_
      refine V_ishrN ⟨hs, by omega⟩ dX6_says_17 ?_
      refine V_iconst (nI 1) (by decide) dX6_says_18 ?_
      refine V_iand1N dX6_says_19 ?_
      refine V_iconst (nI 1) (by decide) dX6_says_20 ?_
      refine V_icmp_neN 40 dX6_says_21 (by decide) (by omega) (by omega) (fun h21 => ?_) (fun h21 => ?_)
      · skip
        refine V_iconst (nI 0) (by decide) dX6_says_40 ?_
        first | (refine V_iorN dX6_says_41 ?_; rw [or_pow hsay]) | (refine V_iorN dX6_says_41 ?_; rw [Nat.or_zero])
        refine V_ist2 rfl rfl dX6_says_42 ?_
        refine V_iinc3_ _ (nI_inc _) rfl rfl dX6_says_43 ?_
        refine V_goto 4 dX6_says_46 (by decide) ?_
        refine V_same ?_ h8
        rw [bm_congr]
        intro v hv
        rw [anyB_succ]
        first
        | (rw [hbt, decide_eq_false h21, Bool.false_and, Bool.or_false])
        | (rw [hbt, decide_eq_true h21, Bool.true_and]; simp [eq_comm])
      · skip
        refine V_iconst (nI 1) (by decide) dX6_says_24 ?_
        refine V_aload_n rfl dX6_says_25 ?_
        refine gf_X6_33 (by assumption) (by assumption) rfl dX6_says_26 ?_
        refine V_bipush (nI 8) (by decide) dX6_says_29 ?_
        refine V_iconst (nI 4) (by decide) dX6_says_31 ?_
        refine V_iload_n rfl dX6_says_32 ?_
        refine V_imulN dX6_says_33 ?_
        refine V_iaddN dX6_says_34 ?_
        refine V_iald _ (by assumption) rfl (by omega) (by omega) dX6_says_35 ?_
        refine V_topi ((congrArg (I 100) (by omega)).trans (wC0 k hkl 0 (by decide))) ?_
        refine V_ishl1N (by omega) dX6_says_36 ?_
        refine V_goto 41 dX6_says_37 (by decide) ?_
        first | (refine V_iorN dX6_says_41 ?_; rw [or_pow hsay]) | (refine V_iorN dX6_says_41 ?_; rw [Nat.or_zero])
        refine V_ist2 rfl rfl dX6_says_42 ?_
        refine V_iinc3_ _ (nI_inc _) rfl rfl dX6_says_43 ?_
        refine V_goto 4 dX6_says_46 (by decide) ?_
        refine V_same ?_ h8
        rw [bm_congr]
        intro v hv
        rw [anyB_succ]
        first
        | (rw [hbt, decide_eq_false h21, Bool.false_and, Bool.or_false])
        | (rw [hbt, decide_eq_true h21, Bool.true_and]; simp [eq_comm])
  refine V_iconst (nI 0) (by decide) dX6_says_0 ?_
  refine V_ist2 rfl rfl dX6_says_1 ?_
  refine V_iconst (nI 0) (by decide) dX6_says_2 ?_
  refine V_ist3 rfl rfl dX6_says_3 ?_
  refine V_same ?_ (loop (wM W).1 0 (by omega) (by omega))
  rw [show (fun v => anyB 0 (fun m => set.testBit m && decide ((wM W).2 m 0 = v))) = (fun _ => false) from rfl, bm_false]
end MKNOW
