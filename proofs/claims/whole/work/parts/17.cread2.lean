/-! CarvedWeeks: what is right, wrong, known, worth; counts; was, missed -/
theorem bm_andn (n : Nat) (p q : Nat → Bool) : bm n p ^^^ (bm n p &&& bm n q) = bm n (fun i => p i && !q i) := by
  refine bm_ext (Nat.xor_lt_two_pow (bm_lt n p) (Nat.and_lt_two_pow _ (bm_lt n q))) (fun i hi => ?_)
  rw [Nat.testBit_xor, Nat.testBit_and, bm_bit, bm_bit, decide_eq_true hi, Bool.true_and, Bool.true_and]
  cases p i <;> cases q i <;> rfl
theorem rd_lt {tv : TV} {W : WV} {h wo : Nat} : rdN tv W h wo < 2 ^ (2 * tF tv) := bm_lt _ _
theorem knw_or {tv : TV} {rd : Nat} {F : Nat} (u : Nat) (hu : u < 2 * F) (h : rd < 2 ^ (2 * F)) : rd ||| 2 ^ u < 2 ^ (2 * F) := Nat.or_lt_two_pow h (Nat.pow_lt_pow_right (by decide) hu)
theorem rgt_le {tv : TV} {tr rd : Nat} : ∀ F, tF tv = F → rgtN tv tr rd ≤ F := by
  intro F hF
  unfold rgtN
  rw [hF, cnt_pair]
  have h : ∀ n, cnt n (fun i => knw tv rd (2 * i) && so (2 * i) tr) + cnt n (fun i => knw tv rd (2 * i + 1) && so (2 * i + 1) tr) ≤ n := by
    intro n
    induction n with
    | zero => exact Nat.le_refl _
    | succ n ih =>
      rw [cnt_succ, cnt_succ, so_even, so_odd]
      cases tr.testBit n <;> simp <;> split <;> omega
  exact h F
noncomputable def fCount (x : XV) (tv : TV) (W : WV) (P K : SV) (k : Int32) : Int32 := ifb k 12 (fun j => nI ([tF tv, (tL tv).1, (tP tv).1, (tS tv).1, (tB tv).1, nw' tv, wT W, (wM W).1, wK W, P.1, K.1, x.1].getD j 0)) (-1)
def fWorth (tv : TV) (W : WV) : Int32 := nI (tF tv - rgtN tv (wT W) (rdN tv W 1 99))
noncomputable def fTwo (tv : TV) (W : WV) (a b : Int32) : Int32 := ifb a (tF tv) (fun f => ifb b (tF tv) (fun e => if f = e then -1 else nI (rgtN tv (wT W) (rdN tv W 1 99 ||| (2 ^ tsy f (wT W) ||| 2 ^ tsy e (wT W))))) (-1)) (-1)
noncomputable def fWas (tv : TV) (W : WV) (v : Int32) : Int32 := ifb v (2 * tF tv) (fun v => nI (bm (2 * tF tv) (fun u => knw tv (rdN tv W 1 99 ||| 2 ^ u) v))) (-1)
/-- the mark that is missed most, of the first k, and what is right then (l0 at first) -/
def msF (tv : TV) (W : WV) (l0 : Nat) : Nat → Option Nat × Nat
  | 0 => (none, l0)
  | k + 1 => if rgtN tv (wT W) (rdN tv W 1 k) < (msF tv W l0 k).2 then (some k, rgtN tv (wT W) (rdN tv W 1 k)) else msF tv W l0 k
def o4 (o : Option Nat) : Int32 := match o with
  | none => -4
  | some j => nI j
def fMissed (tv : TV) (W : WV) : Int32 := o4 (msF tv W 9 (wM W).1).1
section CREAD2
variable {g : GC} {sg : SG} {I : IM} {A B : Nat} {x : XV} {tv : TV} {W : WV} {P K : SV}
theorem X_rightFrom {rd : Nat} (hC : CSt sg I A B x tv W P K) (hS : STok x tv W P K) (hrd : rd < 2 ^ (2 * tF tv)) : Fn m_X5_rightFrom g [rf g 0, .int (nI rd)] sg I (some (.int (nI (rgtN tv (wT W) rd)))) sg I := by
  obtain ⟨hX0, hok, hnp, hns, ⟨hWok, hwk⟩, hPok, hKok⟩ := hS
  obtain ⟨⟨kc, c0, c1, c2, c3, c4, c5, c6, hAB, kt, u0, u1⟩, ⟨hXt, cX⟩, ⟨nn, hNt⟩, hPs, hKs, hW, hD, ⟨hT, hWl⟩, hB⟩ := hC
  have hmk := hWok.2.2.2.1
  have hn12 := hmk.1
  have hF1 := hok.1
  have hF8 := hok.2.1
  have h256 := p2_le8 hF8
  have h16 := p2_le16 hF8
  have hnw := nw_le hF8
  have hnw0 := nw_pos hWok
  have htr := hWok.1
  obtain ⟨⟨wk, w0, w1⟩, we2, we3, ⟨hM, cM⟩, hH, cH⟩ := id hW
  obtain ⟨⟨tk, t0, t1, t2, t3, t4⟩, tF5, tX6, ⟨hLt, cL⟩, ⟨hPt, cP⟩, ⟨hSt, cS⟩, ⟨hBt, cB⟩⟩ := id hT
  obtain ⟨hWt, cW⟩ := id hWl
  have kX := hXt.1
  have kM := hM.1
  have kH := hH.1
  have kL := hLt.1
  have kP := hPt.1
  have kS := hSt.1
  have kB := hBt.1
  have kW := hWt.1
  have nL10 := hLt.2.2.2.2.2.2.1
  have nP5 := hPt.2.2.2.2.2.2.1
  have nS5 := hSt.2.2.2.2.2.2.1
  have nB6 := hBt.2.2.2.2.2.2.1
  have kP0 := hPs.1.1
  have kK0 := hKs.1.1
  have e : pc16 (bm (2 * tF tv) (knw tv rd) &&& sim (tF tv) (wT W)) = rgtN tv (wT W) rd := by
    unfold sim rgtN
    rw [bm_and]; exact pc_bm (by omega)
  have hlt : bm (2 * tF tv) (knw tv rd) &&& sim (tF tv) (wT W) < 65536 := Nat.lt_of_le_of_lt Nat.and_le_left (bm_16 (by omega))
  refine Ct.of rfl (Nat.le_of_ble_eq_true rfl) fun X => ?_
  show V X _ sg I 0 [some (rf g 0), some (.int (nI rd))] []
  refine V_aload_n rfl dX5_rightFrom_0 ?_
  refine gf_X5_41 (by assumption) (by assumption) rfl dX5_rightFrom_1 ?_
  refine V_iload_n rfl dX5_rightFrom_4 ?_
  refine cf_X5_184 (C_knownFrom hT hWl hok hrd) (by assumption) rfl rfl ft0 (Nat.le_of_ble_eq_true rfl) dX5_rightFrom_5 ?_
  refine V_aload_n rfl dX5_rightFrom_8 ?_
  refine gf_X5_41 (by assumption) (by assumption) rfl dX5_rightFrom_9 ?_
  refine V_aload_n rfl dX5_rightFrom_12 ?_
  refine gf_X5_31 (by assumption) (by assumption) rfl dX5_rightFrom_13 ?_
  refine gfe_X5_125 (by assumption) (by assumption) rfl dX5_rightFrom_16 ?_
  refine cf_X5_275 (C_sayingsIn (tv := tv) tk tF5 hF8 (by omega)) (by assumption) rfl rfl ft0 (Nat.le_of_ble_eq_true rfl) dX5_rightFrom_19 ?_
  refine V_iandN dX5_rightFrom_22 ?_
  refine cf_X5_139 (C_bitCount hlt) rfl rfl ft0 (Nat.le_of_ble_eq_true rfl) dX5_rightFrom_23 ?_
  refine V_iret rfl rfl rfl ?_ dX5_rightFrom_26
  exact ⟨by rw [e], rfl, rfl⟩
theorem X_wrongFrom {rd u : Nat} {U : WV} (hC : CSt sg I A B x tv W P K) (hS : STok x tv W P K) (hU : CWeek sg I u U (tP tv).1) (hUt : wT U < 2 ^ tF tv) (hrd : rd < 2 ^ (2 * tF tv)) : Fn m_X5_wrongFrom g [rf g 0, rf g u, .int (nI rd)] sg I (some (.int (nI (wrgN tv (wT U) rd)))) sg I := by
  obtain ⟨hX0, hok, hnp, hns, ⟨hWok, hwk⟩, hPok, hKok⟩ := hS
  obtain ⟨⟨kc, c0, c1, c2, c3, c4, c5, c6, hAB, kt, u0, u1⟩, ⟨hXt, cX⟩, ⟨nn, hNt⟩, hPs, hKs, hW, hD, ⟨hT, hWl⟩, hB⟩ := hC
  have hmk := hWok.2.2.2.1
  have hn12 := hmk.1
  have hF1 := hok.1
  have hF8 := hok.2.1
  have h256 := p2_le8 hF8
  have h16 := p2_le16 hF8
  have hnw := nw_le hF8
  have hnw0 := nw_pos hWok
  have htr := hWok.1
  obtain ⟨⟨wk, w0, w1⟩, we2, we3, ⟨hM, cM⟩, hH, cH⟩ := id hW
  obtain ⟨⟨tk, t0, t1, t2, t3, t4⟩, tF5, tX6, ⟨hLt, cL⟩, ⟨hPt, cP⟩, ⟨hSt, cS⟩, ⟨hBt, cB⟩⟩ := id hT
  obtain ⟨hWt, cW⟩ := id hWl
  have kX := hXt.1
  have kM := hM.1
  have kH := hH.1
  have kL := hLt.1
  have kP := hPt.1
  have kS := hSt.1
  have kB := hBt.1
  have kW := hWt.1
  have nL10 := hLt.2.2.2.2.2.2.1
  have nP5 := hPt.2.2.2.2.2.2.1
  have nS5 := hSt.2.2.2.2.2.2.1
  have nB6 := hBt.2.2.2.2.2.2.1
  have kP0 := hPs.1.1
  have kK0 := hKs.1.1
  have ku := hU.1.1
  have kv := hU.2.1
  have e : pc16 (bm (2 * tF tv) (knw tv rd) ^^^ (bm (2 * tF tv) (knw tv rd) &&& sim (tF tv) (wT U))) = wrgN tv (wT U) rd := by
    unfold sim wrgN
    rw [bm_andn]; exact pc_bm (by omega)
  have hb : bm (2 * tF tv) (knw tv rd) < 65536 := bm_16 (by omega)
  have hlt : bm (2 * tF tv) (knw tv rd) ^^^ (bm (2 * tF tv) (knw tv rd) &&& sim (tF tv) (wT U)) < 65536 := Nat.xor_lt_two_pow (n := 16) hb (Nat.lt_of_le_of_lt Nat.and_le_left hb)
  refine Ct.of rfl (Nat.le_of_ble_eq_true rfl) fun X => ?_
  show V X _ sg I 0 [some (rf g 0), some (rf g u), some (.int (nI rd))] []
  refine V_aload_n rfl dX5_wrongFrom_0 ?_
  refine gf_X5_41 (by assumption) (by assumption) rfl dX5_wrongFrom_1 ?_
  refine V_iload_n rfl dX5_wrongFrom_4 ?_
  refine cf_X5_184 (C_knownFrom hT hWl hok hrd) (by assumption) rfl rfl ft0 (Nat.le_of_ble_eq_true rfl) dX5_wrongFrom_5 ?_
  refine V_aload_n rfl dX5_wrongFrom_8 ?_
  refine gf_X5_41 (by assumption) (by assumption) rfl dX5_wrongFrom_9 ?_
  refine V_aload_n rfl dX5_wrongFrom_12 ?_
  refine gfe_X5_125 (by assumption) (by assumption) rfl dX5_wrongFrom_13 ?_
  refine cf_X5_275 (C_sayingsIn (tv := tv) tk tF5 hF8 (by omega)) (by assumption) rfl rfl ft0 (Nat.le_of_ble_eq_true rfl) dX5_wrongFrom_16 ?_
  refine V_iconst (-1) (by decide) dX5_wrongFrom_19 ?_
  refine V_ixor dX5_wrongFrom_20 ?_
  refine V_iand dX5_wrongFrom_21 ?_
  refine V_topi (nI_andn _ _ (by omega)) ?_
  refine cf_X5_139 (C_bitCount hlt) rfl rfl ft0 (Nat.le_of_ble_eq_true rfl) dX5_wrongFrom_22 ?_
  refine V_iret rfl rfl rfl ?_ dX5_wrongFrom_25
  exact ⟨by rw [e], rfl, rfl⟩
theorem X_known {h w : Int32} (hC : CSt sg I A B x tv W P K) (hS : STok x tv W P K) : Fn m_X5_known g [rf g 0, .int h, .int w] sg I (some (.int (fKnown tv W h w))) sg I := by
  have hC0 := hC
  have hS0 := hS
  obtain ⟨hX0, hok, hnp, hns, ⟨hWok, hwk⟩, hPok, hKok⟩ := hS
  obtain ⟨⟨kc, c0, c1, c2, c3, c4, c5, c6, hAB, kt, u0, u1⟩, ⟨hXt, cX⟩, ⟨nn, hNt⟩, hPs, hKs, hW, hD, ⟨hT, hWl⟩, hB⟩ := hC
  have hmk := hWok.2.2.2.1
  have hn12 := hmk.1
  have hF1 := hok.1
  have hF8 := hok.2.1
  have h256 := p2_le8 hF8
  have h16 := p2_le16 hF8
  have hnw := nw_le hF8
  have hnw0 := nw_pos hWok
  have htr := hWok.1
  obtain ⟨⟨wk, w0, w1⟩, we2, we3, ⟨hM, cM⟩, hH, cH⟩ := id hW
  obtain ⟨⟨tk, t0, t1, t2, t3, t4⟩, tF5, tX6, ⟨hLt, cL⟩, ⟨hPt, cP⟩, ⟨hSt, cS⟩, ⟨hBt, cB⟩⟩ := id hT
  obtain ⟨hWt, cW⟩ := id hWl
  have kX := hXt.1
  have kM := hM.1
  have kH := hH.1
  have kL := hLt.1
  have kP := hPt.1
  have kS := hSt.1
  have kB := hBt.1
  have kW := hWt.1
  have nL10 := hLt.2.2.2.2.2.2.1
  have nP5 := hPt.2.2.2.2.2.2.1
  have nS5 := hSt.2.2.2.2.2.2.1
  have nB6 := hBt.2.2.2.2.2.2.1
  have kP0 := hPs.1.1
  have kK0 := hKs.1.1
  refine Ct.of rfl (Nat.le_of_ble_eq_true rfl) fun X => ?_
  show V X _ sg I 0 [some (rf g 0), some (.int h), some (.int w), none] []
  have hsw : ∀ hh j, (hh = 1 ∨ hh = 2) → h = nI hh → j < 6 → w = nI j → V X (ZQ X (fun r0 s0 I0 => r0 = some (.int (fKnown tv W h w)) ∧ s0 = sg ∧ I0 = I)) sg I 32 [some (rf g 0), some (.int h), some (.int w), some (.int (nI (rdN tv W hh 99)))] [.int (nI j)] := by
    intro hh j hh1 eh hj ew
    have hrd : rdN tv W hh 99 < 2 ^ (2 * tF tv) := rd_lt
    have hfk : fKnown tv W h w = if j = 0 then nI (bm (tF tv) (fun f => knw tv (rdN tv W hh 99) (2 * f))) else if j = 1 then nI (bm (tF tv) (fun f => knw tv (rdN tv W hh 99) (2 * f + 1)))
      else if j = 2 then nI (rgtN tv (wT W) (rdN tv W hh 99)) else if j = 3 then nI (wrgN tv (wT W) (rdN tv W hh 99)) else if j = 4 then nI (rdN tv W hh 99) else bI (¬ anyW tv (rdN tv W hh 99) = true) := by
      unfold fKnown
      rw [if_pos (by rcases hh1 with rfl | rfl <;> simp [eh]), ifb_pos hj (by decide) ew, eh, ix_nI (by omega)]
    have hfs : ∀ b, b < 2 → bm (tF tv) (fun f => (bm (2 * tF tv) (knw tv (rdN tv W hh 99))).testBit (2 * f + b)) = bm (tF tv) (fun f => knw tv (rdN tv W hh 99) (2 * f + b)) := fun b hb => bm_congr (fun f hf => by rw [bm_bit, decide_eq_true (by omega), Bool.true_and])
    have hb16 : bm (2 * tF tv) (knw tv (rdN tv W hh 99)) < 65536 := bm_16 (by omega)
    rw [hfk]
    rcases (show j = 0 ∨ j = 1 ∨ j = 2 ∨ j = 3 ∨ j = 4 ∨ j = 5 by omega) with rfl | rfl | rfl | rfl | rfl | rfl
    · refine V_tableIn 36 68 dX5_known_32 (by decide) (by decide) rfl (by decide) ?_
      refine V_aload_n rfl dX5_known_68 ?_
      refine gf_X5_41 (by assumption) (by assumption) rfl dX5_known_69 ?_
      refine V_aload_n rfl dX5_known_72 ?_
      refine gf_X5_41 (by assumption) (by assumption) rfl dX5_known_73 ?_
      refine V_iload_n rfl dX5_known_76 ?_
      refine cf_X5_184 (C_knownFrom hT hWl hok hrd) (by assumption) rfl rfl ft0 (Nat.le_of_ble_eq_true rfl) dX5_known_77 ?_
      refine V_iconst (nI 0) (by decide) dX5_known_80 ?_
      refine cf_X5_187 (C_factsSaid (tv := tv) (b := 0) tk tF5 hF8 hb16 (by decide)) (by assumption) rfl rfl ft0 (Nat.le_of_ble_eq_true rfl) dX5_known_81 ?_
      refine V_iret rfl rfl rfl ?_ dX5_known_84
      exact ⟨by rw [hfs 0 (by decide), if_pos rfl]; rfl, rfl, rfl⟩
    · refine V_tableIn 53 85 dX5_known_32 (by decide) (by decide) rfl (by decide) ?_
      refine V_aload_n rfl dX5_known_85 ?_
      refine gf_X5_41 (by assumption) (by assumption) rfl dX5_known_86 ?_
      refine V_aload_n rfl dX5_known_89 ?_
      refine gf_X5_41 (by assumption) (by assumption) rfl dX5_known_90 ?_
      refine V_iload_n rfl dX5_known_93 ?_
      refine cf_X5_184 (C_knownFrom hT hWl hok hrd) (by assumption) rfl rfl ft0 (Nat.le_of_ble_eq_true rfl) dX5_known_94 ?_
      refine V_iconst (nI 1) (by decide) dX5_known_97 ?_
      refine cf_X5_187 (C_factsSaid (tv := tv) (b := 1) tk tF5 hF8 hb16 (by decide)) (by assumption) rfl rfl ft0 (Nat.le_of_ble_eq_true rfl) dX5_known_98 ?_
      refine V_iret rfl rfl rfl ?_ dX5_known_101
      exact ⟨by rw [hfs 1 (by decide)]; rfl, rfl, rfl⟩
    · refine V_tableIn 70 102 dX5_known_32 (by decide) (by decide) rfl (by decide) ?_
      refine V_aload_n rfl dX5_known_102 ?_
      refine V_iload_n rfl dX5_known_103 ?_
      refine cf_X5_190 (X_rightFrom hC0 hS0 hrd) (by assumption) rfl rfl ft0 (Nat.le_of_ble_eq_true rfl) dX5_known_104 ?_
      refine V_iret rfl rfl rfl ?_ dX5_known_107
      exact ⟨rfl, rfl, rfl⟩
    · refine V_tableIn 76 108 dX5_known_32 (by decide) (by decide) rfl (by decide) ?_
      refine V_aload_n rfl dX5_known_108 ?_
      refine V_aload_n rfl dX5_known_109 ?_
      refine gf_X5_31 (by assumption) (by assumption) rfl dX5_known_110 ?_
      refine V_iload_n rfl dX5_known_113 ?_
      refine cf_X5_193 (X_wrongFrom hC0 hS0 hW htr hrd) (by assumption) rfl rfl ft0 (Nat.le_of_ble_eq_true rfl) dX5_known_114 ?_
      refine V_iret rfl rfl rfl ?_ dX5_known_117
      exact ⟨rfl, rfl, rfl⟩
    · refine V_tableIn 86 118 dX5_known_32 (by decide) (by decide) rfl (by decide) ?_
      refine V_iload_n rfl dX5_known_118 ?_
      refine V_iret rfl rfl rfl ?_ dX5_known_119
      exact ⟨rfl, rfl, rfl⟩
    · refine V_tableOut 120 dX5_known_32 (Or.inr (by decide)) (by decide) ?_
      refine V_aload_n rfl dX5_known_120 ?_
      refine gf_X5_41 (by assumption) (by assumption) rfl dX5_known_121 ?_
      refine V_iload_n rfl dX5_known_124 ?_
      refine cf_X5_197 (C_isPossible hT hWl hok hrd) (by assumption) rfl rfl ft0 (Nat.le_of_ble_eq_true rfl) dX5_known_125 ?_
      refine V_if_eqB 135 dX5_known_128 (by decide) (fun h128 => ?_) (fun h128 => ?_)
      · skip
        refine V_iconst (nI 1) (by decide) dX5_known_135 ?_
        refine V_iret rfl rfl rfl ?_ dX5_known_136
        refine ⟨?_, rfl, rfl⟩
        show _ = some (Value.int (bI (¬ anyW tv (rdN tv W hh 99) = true)))
        first
        | rw [bI_t h128]
        | rw [bI_f (fun z => z h128)]
      · skip
        refine V_iconst (nI 0) (by decide) dX5_known_131 ?_
        refine V_goto 136 dX5_known_132 (by decide) ?_
        refine V_iret rfl rfl rfl ?_ dX5_known_136
        refine ⟨?_, rfl, rfl⟩
        show _ = some (Value.int (bI (¬ anyW tv (rdN tv W hh 99) = true)))
        first
        | rw [bI_t h128]
        | rw [bI_f (fun z => z h128)]
  refine V_iload_n rfl dX5_known_0 ?_
  refine cf_X5_178 (C_isRule) rfl rfl ft0 (Nat.le_of_ble_eq_true rfl) dX5_known_1 ?_
  refine V_if_eqB 16 dX5_known_4 (by decide) (fun h4 => ?_) (fun h4 => ?_)
  · skip
    refine V_iconst (-1) (by decide) dX5_known_16 ?_
    refine V_iret rfl rfl rfl ?_ dX5_known_17
    refine ⟨?_, rfl, rfl⟩
    unfold fKnown
    first
    | rw [if_neg h4]
    | rw [if_pos h4, ifb_lt0 h8]
    | rw [if_pos h4, ifb_big hw (by decide) (by omega)]
  · skip
    obtain ⟨hh, hh1, eh⟩ : ∃ hh, (hh = 1 ∨ hh = 2) ∧ h = nI hh := by rcases h4 with e | e; exact ⟨1, Or.inl rfl, e⟩; exact ⟨2, Or.inr rfl, e⟩
    refine V_iload_n rfl dX5_known_7 ?_
    refine V_if_lt 16 dX5_known_8 (by decide) (fun h8 => ?_) (fun h8 => ?_)
    · skip
      refine V_iconst (-1) (by decide) dX5_known_16 ?_
      refine V_iret rfl rfl rfl ?_ dX5_known_17
      refine ⟨?_, rfl, rfl⟩
      unfold fKnown
      first
      | rw [if_neg h4]
      | rw [if_pos h4, ifb_lt0 h8]
      | rw [if_pos h4, ifb_big hw (by decide) (by omega)]
    · skip
      obtain ⟨w, hw, rfl⟩ := nn_ex h8
      refine V_iload_n rfl dX5_known_11 ?_
      refine V_iconst (nI 5) (by decide) dX5_known_12 ?_
      refine V_icmp_leN 18 dX5_known_13 (by decide) (by omega) (by omega) (fun h13 => ?_) (fun h13 => ?_)
      · skip
        subst eh
        refine V_aload_n rfl dX5_known_18 ?_
        refine gf_X5_31 (by assumption) (by assumption) rfl dX5_known_19 ?_
        refine V_aload_n rfl dX5_known_22 ?_
        refine gf_X5_41 (by assumption) (by assumption) rfl dX5_known_23 ?_
        refine V_iload_n rfl dX5_known_26 ?_
        refine cf_X5_181 (C_readBy hT hW hok hmk (by omega)) (by assumption) rfl rfl ft0 (Nat.le_of_ble_eq_true rfl) dX5_known_27 ?_
        refine V_ist3 rfl rfl dX5_known_30 ?_
        refine V_iload_n rfl dX5_known_31 ?_
        exact hsw hh w hh1 rfl (by omega) rfl
      · skip
        refine V_iconst (-1) (by decide) dX5_known_16 ?_
        refine V_iret rfl rfl rfl ?_ dX5_known_17
        refine ⟨?_, rfl, rfl⟩
        unfold fKnown
        first
        | rw [if_neg h4]
        | rw [if_pos h4, ifb_lt0 h8]
        | rw [if_pos h4, ifb_big hw (by decide) (by omega)]
theorem X_worth (hC : CSt sg I A B x tv W P K) (hS : STok x tv W P K) : Fn m_X5_worth g [rf g 0] sg I (some (.int (fWorth tv W))) sg I := by
  have hC0 := hC
  have hS0 := hS
  obtain ⟨hX0, hok, hnp, hns, ⟨hWok, hwk⟩, hPok, hKok⟩ := hS
  obtain ⟨⟨kc, c0, c1, c2, c3, c4, c5, c6, hAB, kt, u0, u1⟩, ⟨hXt, cX⟩, ⟨nn, hNt⟩, hPs, hKs, hW, hD, ⟨hT, hWl⟩, hB⟩ := hC
  have hmk := hWok.2.2.2.1
  have hn12 := hmk.1
  have hF1 := hok.1
  have hF8 := hok.2.1
  have h256 := p2_le8 hF8
  have h16 := p2_le16 hF8
  have hnw := nw_le hF8
  have hnw0 := nw_pos hWok
  have htr := hWok.1
  obtain ⟨⟨wk, w0, w1⟩, we2, we3, ⟨hM, cM⟩, hH, cH⟩ := id hW
  obtain ⟨⟨tk, t0, t1, t2, t3, t4⟩, tF5, tX6, ⟨hLt, cL⟩, ⟨hPt, cP⟩, ⟨hSt, cS⟩, ⟨hBt, cB⟩⟩ := id hT
  obtain ⟨hWt, cW⟩ := id hWl
  have kX := hXt.1
  have kM := hM.1
  have kH := hH.1
  have kL := hLt.1
  have kP := hPt.1
  have kS := hSt.1
  have kB := hBt.1
  have kW := hWt.1
  have nL10 := hLt.2.2.2.2.2.2.1
  have nP5 := hPt.2.2.2.2.2.2.1
  have nS5 := hSt.2.2.2.2.2.2.1
  have nB6 := hBt.2.2.2.2.2.2.1
  have kP0 := hPs.1.1
  have kK0 := hKs.1.1
  have hrd : rdN tv W 1 99 < 2 ^ (2 * tF tv) := rd_lt
  have hle := rgt_le (tv := tv) (tr := wT W) (rd := rdN tv W 1 99) _ rfl
  refine Ct.of rfl (Nat.le_of_ble_eq_true rfl) fun X => ?_
  show V X _ sg I 0 [some (rf g 0)] []
  refine V_aload_n rfl dX5_worth_0 ?_
  refine gf_X5_41 (by assumption) (by assumption) rfl dX5_worth_1 ?_
  refine gfe_X5_249 (by assumption) (by assumption) rfl dX5_worth_4 ?_
  refine V_aload_n rfl dX5_worth_7 ?_
  refine V_aload_n rfl dX5_worth_8 ?_
  refine gf_X5_31 (by assumption) (by assumption) rfl dX5_worth_9 ?_
  refine V_iconst (-1) (by decide) dX5_worth_12 ?_
  refine cf_X5_246 (C_carvedBut hW hok hmk (Or.inl ⟨rfl, rfl⟩)) (by assumption) rfl rfl ft0 (Nat.le_of_ble_eq_true rfl) dX5_worth_13 ?_
  refine cf_X5_190 (X_rightFrom hC0 hS0 hrd) (by assumption) rfl rfl ft0 (Nat.le_of_ble_eq_true rfl) dX5_worth_16 ?_
  refine V_isubN (by omega) dX5_worth_19 ?_
  refine V_iret rfl rfl rfl ?_ dX5_worth_20
  exact ⟨rfl, rfl, rfl⟩
theorem X_two {a b : Int32} (hC : CSt sg I A B x tv W P K) (hS : STok x tv W P K) : Fn m_X5_two g [rf g 0, .int a, .int b] sg I (some (.int (fTwo tv W a b))) sg I := by
  have hC0 := hC
  have hS0 := hS
  obtain ⟨hX0, hok, hnp, hns, ⟨hWok, hwk⟩, hPok, hKok⟩ := hS
  obtain ⟨⟨kc, c0, c1, c2, c3, c4, c5, c6, hAB, kt, u0, u1⟩, ⟨hXt, cX⟩, ⟨nn, hNt⟩, hPs, hKs, hW, hD, ⟨hT, hWl⟩, hB⟩ := hC
  have hmk := hWok.2.2.2.1
  have hn12 := hmk.1
  have hF1 := hok.1
  have hF8 := hok.2.1
  have h256 := p2_le8 hF8
  have h16 := p2_le16 hF8
  have hnw := nw_le hF8
  have hnw0 := nw_pos hWok
  have htr := hWok.1
  obtain ⟨⟨wk, w0, w1⟩, we2, we3, ⟨hM, cM⟩, hH, cH⟩ := id hW
  obtain ⟨⟨tk, t0, t1, t2, t3, t4⟩, tF5, tX6, ⟨hLt, cL⟩, ⟨hPt, cP⟩, ⟨hSt, cS⟩, ⟨hBt, cB⟩⟩ := id hT
  obtain ⟨hWt, cW⟩ := id hWl
  have kX := hXt.1
  have kM := hM.1
  have kH := hH.1
  have kL := hLt.1
  have kP := hPt.1
  have kS := hSt.1
  have kB := hBt.1
  have kW := hWt.1
  have nL10 := hLt.2.2.2.2.2.2.1
  have nP5 := hPt.2.2.2.2.2.2.1
  have nS5 := hSt.2.2.2.2.2.2.1
  have nB6 := hBt.2.2.2.2.2.2.1
  have kP0 := hPs.1.1
  have kK0 := hKs.1.1
  have hrd : rdN tv W 1 99 < 2 ^ (2 * tF tv) := rd_lt
  have hts : ∀ f, f < tF tv → tsy f (wT W) < 16 := fun f hf => by have := tsy_lt (s := wT W) hf; omega
  refine Ct.of rfl (Nat.le_of_ble_eq_true rfl) fun X => ?_
  show V X _ sg I 0 [some (rf g 0), some (.int a), some (.int b), none] []
  refine V_aload_n rfl dX5_two_0 ?_
  refine gf_X5_41 (by assumption) (by assumption) rfl dX5_two_1 ?_
  refine V_iload_n rfl dX5_two_4 ?_
  refine cf_X5_145 (C_isFact (tv := tv) tk tF5) (by assumption) rfl rfl ft0 (Nat.le_of_ble_eq_true rfl) dX5_two_5 ?_
  refine V_if_eqB 27 dX5_two_8 (by decide) (fun h8 => ?_) (fun h8 => ?_)
  · skip
    refine V_iconst (-1) (by decide) dX5_two_27 ?_
    refine V_iret rfl rfl rfl ?_ dX5_two_28
    refine ⟨?_, rfl, rfl⟩
    unfold fTwo
    first
    | rw [ifb_neg h8]
    | rw [ifb_pos ha (by omega) rfl, ifb_neg h19]
    | rw [ifb_pos ha (by omega) rfl, ifb_pos hb (by omega) rfl, if_pos h24]
    | rw [ifb_pos ha (by omega) rfl, ifb_pos hb (by omega) rfl, if_neg h24]
  · skip
    obtain ⟨a, ha, rfl⟩ := bel_ex (by omega) h8
    refine V_aload_n rfl dX5_two_11 ?_
    refine gf_X5_41 (by assumption) (by assumption) rfl dX5_two_12 ?_
    refine V_iload_n rfl dX5_two_15 ?_
    refine cf_X5_145 (C_isFact (tv := tv) tk tF5) (by assumption) rfl rfl ft0 (Nat.le_of_ble_eq_true rfl) dX5_two_16 ?_
    refine V_if_eqB 27 dX5_two_19 (by decide) (fun h19 => ?_) (fun h19 => ?_)
    · skip
      refine V_iconst (-1) (by decide) dX5_two_27 ?_
      refine V_iret rfl rfl rfl ?_ dX5_two_28
      refine ⟨?_, rfl, rfl⟩
      unfold fTwo
      first
      | rw [ifb_neg h8]
      | rw [ifb_pos ha (by omega) rfl, ifb_neg h19]
      | rw [ifb_pos ha (by omega) rfl, ifb_pos hb (by omega) rfl, if_pos h24]
      | rw [ifb_pos ha (by omega) rfl, ifb_pos hb (by omega) rfl, if_neg h24]
    · skip
      obtain ⟨b, hb, rfl⟩ := bel_ex (by omega) h19
      refine V_iload_n rfl dX5_two_22 ?_
      refine V_iload_n rfl dX5_two_23 ?_
      refine V_icmp_neN 29 dX5_two_24 (by decide) (by omega) (by omega) (fun h24 => ?_) (fun h24 => ?_)
      · skip
        refine V_iconst (nI 1) (by decide) dX5_two_29 ?_
        refine V_iload_n rfl dX5_two_30 ?_
        refine V_aload_n rfl dX5_two_31 ?_
        refine gf_X5_31 (by assumption) (by assumption) rfl dX5_two_32 ?_
        refine gfe_X5_125 (by assumption) (by assumption) rfl dX5_two_35 ?_
        refine cf_X5_159 (C_trueSaying (by omega) (by omega)) rfl rfl ft0 (Nat.le_of_ble_eq_true rfl) dX5_two_38 ?_
        refine V_ishl1N (by have := hts a ha; omega) dX5_two_41 ?_
        refine V_iconst (nI 1) (by decide) dX5_two_42 ?_
        refine V_iload_n rfl dX5_two_43 ?_
        refine V_aload_n rfl dX5_two_44 ?_
        refine gf_X5_31 (by assumption) (by assumption) rfl dX5_two_45 ?_
        refine gfe_X5_125 (by assumption) (by assumption) rfl dX5_two_48 ?_
        refine cf_X5_159 (C_trueSaying (by omega) (by omega)) rfl rfl ft0 (Nat.le_of_ble_eq_true rfl) dX5_two_51 ?_
        refine V_ishl1N (by have := hts b hb; omega) dX5_two_54 ?_
        refine V_iorN dX5_two_55 ?_
        refine V_ist3 rfl rfl dX5_two_56 ?_
        refine V_aload_n rfl dX5_two_57 ?_
        refine V_aload_n rfl dX5_two_58 ?_
        refine gf_X5_31 (by assumption) (by assumption) rfl dX5_two_59 ?_
        refine V_iconst (-1) (by decide) dX5_two_62 ?_
        refine cf_X5_246 (C_carvedBut hW hok hmk (Or.inl ⟨rfl, rfl⟩)) (by assumption) rfl rfl ft0 (Nat.le_of_ble_eq_true rfl) dX5_two_63 ?_
        refine V_iload_n rfl dX5_two_66 ?_
        refine V_iorN dX5_two_67 ?_
        refine cf_X5_190 (X_rightFrom hC0 hS0 (Nat.or_lt_two_pow hrd (Nat.or_lt_two_pow (Nat.pow_lt_pow_right (by decide) (tsy_lt ha)) (Nat.pow_lt_pow_right (by decide) (tsy_lt hb))))) (by assumption) rfl rfl ft0 (Nat.le_of_ble_eq_true rfl) dX5_two_68 ?_
        refine V_iret rfl rfl rfl ?_ dX5_two_71
        refine ⟨?_, rfl, rfl⟩
        unfold fTwo
        first
        | rw [ifb_neg h8]
        | rw [ifb_pos ha (by omega) rfl, ifb_neg h19]
        | rw [ifb_pos ha (by omega) rfl, ifb_pos hb (by omega) rfl, if_pos h24]
        | rw [ifb_pos ha (by omega) rfl, ifb_pos hb (by omega) rfl, if_neg h24]
      · skip
        refine V_iconst (-1) (by decide) dX5_two_27 ?_
        refine V_iret rfl rfl rfl ?_ dX5_two_28
        refine ⟨?_, rfl, rfl⟩
        unfold fTwo
        first
        | rw [ifb_neg h8]
        | rw [ifb_pos ha (by omega) rfl, ifb_neg h19]
        | rw [ifb_pos ha (by omega) rfl, ifb_pos hb (by omega) rfl, if_pos h24]
        | rw [ifb_pos ha (by omega) rfl, ifb_pos hb (by omega) rfl, if_neg h24]
theorem X_was {v : Int32} (hC : CSt sg I A B x tv W P K) (hS : STok x tv W P K) : Fn m_X5_was g [rf g 0, .int v] sg I (some (.int (fWas tv W v))) sg I := by
  obtain ⟨hX0, hok, hnp, hns, ⟨hWok, hwk⟩, hPok, hKok⟩ := hS
  obtain ⟨⟨kc, c0, c1, c2, c3, c4, c5, c6, hAB, kt, u0, u1⟩, ⟨hXt, cX⟩, ⟨nn, hNt⟩, hPs, hKs, hW, hD, ⟨hT, hWl⟩, hB⟩ := hC
  have hmk := hWok.2.2.2.1
  have hn12 := hmk.1
  have hF1 := hok.1
  have hF8 := hok.2.1
  have h256 := p2_le8 hF8
  have h16 := p2_le16 hF8
  have hnw := nw_le hF8
  have hnw0 := nw_pos hWok
  have htr := hWok.1
  obtain ⟨⟨wk, w0, w1⟩, we2, we3, ⟨hM, cM⟩, hH, cH⟩ := id hW
  obtain ⟨⟨tk, t0, t1, t2, t3, t4⟩, tF5, tX6, ⟨hLt, cL⟩, ⟨hPt, cP⟩, ⟨hSt, cS⟩, ⟨hBt, cB⟩⟩ := id hT
  obtain ⟨hWt, cW⟩ := id hWl
  have kX := hXt.1
  have kM := hM.1
  have kH := hH.1
  have kL := hLt.1
  have kP := hPt.1
  have kS := hSt.1
  have kB := hBt.1
  have kW := hWt.1
  have nL10 := hLt.2.2.2.2.2.2.1
  have nP5 := hPt.2.2.2.2.2.2.1
  have nS5 := hSt.2.2.2.2.2.2.1
  have nB6 := hBt.2.2.2.2.2.2.1
  have kP0 := hPs.1.1
  have kK0 := hKs.1.1
  have hrd : rdN tv W 1 99 < 2 ^ (2 * tF tv) := rd_lt
  refine Ct.of rfl (Nat.le_of_ble_eq_true rfl) fun X => ?_
  show V X _ sg I 0 [some (rf g 0), some (.int v), none, none, none] []
  have loop : ∀ (q : Nat), q < 2 * tF tv → v = nI q → ∀ (d k : Nat), 2 * tF tv - k = d → k ≤ 2 * tF tv →
      V X (ZQ X (fun r0 s0 I0 => r0 = some (.int (fWas tv W v)) ∧ s0 = sg ∧ I0 = I)) sg I 27 [some (rf g 0), some (.int (nI q)), some (.int (nI (rdN tv W 1 99))), some (.int (nI (bm k (fun u => knw tv (rdN tv W 1 99 ||| 2 ^ u) q)))), some (.int (nI k))] [] := by
    intro q hq ev d
    induction d with
    | zero =>
      intro k hd hkn
      have e : k = 2 * tF tv := by omega
      subst e
      refine V_iload rfl dX5_was_27 ?_
      refine V_iconst (nI 2) (by decide) dX5_was_29 ?_
      refine V_aload_n rfl dX5_was_30 ?_
      refine gf_X5_41 (by assumption) (by assumption) rfl dX5_was_31 ?_
      refine gfe_X5_249 (by assumption) (by assumption) rfl dX5_was_34 ?_
      refine V_imulN dX5_was_37 ?_
      refine V_icmp_geN 75 dX5_was_38 (by decide) (by omega) (by omega) (fun h38 => ?_) (fun h38 => absurd h38 (by omega))
      refine V_iload_n rfl dX5_was_75 ?_
      refine V_iret rfl rfl rfl ?_ dX5_was_76
      exact ⟨by unfold fWas; rw [ifb_pos hq (by omega) ev], rfl, rfl⟩
    | succ d ih =>
      intro k hd hkn
      have h8 := ih (k + 1) (by omega) (by omega)
      have hro : rdN tv W 1 99 ||| 2 ^ k < 2 ^ (2 * tF tv) := knw_or (tv := tv) k (by omega) hrd
      have hb : bm (2 * tF tv) (knw tv (rdN tv W 1 99 ||| 2 ^ k)) < 65536 := bm_16 (by omega)
      have htb : (bm (2 * tF tv) (knw tv (rdN tv W 1 99 ||| 2 ^ k)) / 2 ^ q % 2 = 1) ↔ knw tv (rdN tv W 1 99 ||| 2 ^ k) q = true := by
        have h1 := bm_bit (knw tv (rdN tv W 1 99 ||| 2 ^ k)) q (2 * tF tv)
        rw [decide_eq_true hq, Bool.true_and, Nat.testBit_eq_decide_div_mod_eq] at h1
        rw [← h1, decide_eq_true_iff]
      rw [bm_succ] at h8
      refine V_iload rfl dX5_was_27 ?_
      refine V_iconst (nI 2) (by decide) dX5_was_29 ?_
      refine V_aload_n rfl dX5_was_30 ?_
      refine gf_X5_41 (by assumption) (by assumption) rfl dX5_was_31 ?_
      refine gfe_X5_249 (by assumption) (by assumption) rfl dX5_was_34 ?_
      refine V_imulN dX5_was_37 ?_
      refine V_icmp_geN 75 dX5_was_38 (by decide) (by omega) (by omega) (fun h38 => absurd h38 (by omega)) (fun h38 => ?_)
      refine V_aload_n rfl dX5_was_41 ?_
      refine gf_X5_41 (by assumption) (by assumption) rfl dX5_was_42 ?_
      refine V_iload_n rfl dX5_was_45 ?_
      refine V_iconst (nI 1) (by decide) dX5_was_46 ?_
      refine V_iload rfl dX5_was_47 ?_
      refine V_ishl1N (by omega) dX5_was_49 ?_
      refine V_iorN dX5_was_50 ?_
      refine cf_X5_184 (C_knownFrom hT hWl hok hro) (by assumption) rfl rfl ft0 (Nat.le_of_ble_eq_true rfl) dX5_was_51 ?_
      refine V_iload_n rfl dX5_was_54 ?_
      refine V_ishrN ⟨by omega, by omega⟩ dX5_was_55 ?_
      refine V_iconst (nI 1) (by decide) dX5_was_56 ?_
      refine V_iand1N dX5_was_57 ?_
      refine V_iconst (nI 1) (by decide) dX5_was_58 ?_
      refine V_icmp_neN 69 dX5_was_59 (by decide) (by omega) (by omega) (fun h59 => ?_) (fun h59 => ?_)
      · skip
        refine V_iinc4_ _ (nI_inc _) rfl rfl dX5_was_69 ?_
        refine V_goto 27 dX5_was_72 (by decide) ?_
        first
        | (rw [if_neg (fun z => h59 (htb.mpr z)), Nat.or_zero] at h8; exact h8)
        | (rw [if_pos (htb.mp h59)] at h8; exact h8)
      · skip
        refine V_iload_n rfl dX5_was_62 ?_
        refine V_iconst (nI 1) (by decide) dX5_was_63 ?_
        refine V_iload rfl dX5_was_64 ?_
        refine V_ishl1N (by omega) dX5_was_66 ?_
        refine V_iorN dX5_was_67 ?_
        refine V_ist3 rfl rfl dX5_was_68 ?_
        refine V_iinc4_ _ (nI_inc _) rfl rfl dX5_was_69 ?_
        refine V_goto 27 dX5_was_72 (by decide) ?_
        first
        | (rw [if_neg (fun z => h59 (htb.mpr z)), Nat.or_zero] at h8; exact h8)
        | (rw [if_pos (htb.mp h59)] at h8; exact h8)
  refine V_aload_n rfl dX5_was_0 ?_
  refine gf_X5_41 (by assumption) (by assumption) rfl dX5_was_1 ?_
  refine V_iload_n rfl dX5_was_4 ?_
  refine cf_X5_200 (C_isSaying (tv := tv) tk tF5) (by assumption) rfl rfl ft0 (Nat.le_of_ble_eq_true rfl) dX5_was_5 ?_
  refine V_if_neB 13 dX5_was_8 (by decide) (fun h8 => ?_) (fun h8 => ?_)
  · skip
    obtain ⟨q, hq, rfl⟩ := bel_ex (by omega) h8
    refine V_aload_n rfl dX5_was_13 ?_
    refine gf_X5_31 (by assumption) (by assumption) rfl dX5_was_14 ?_
    refine V_iconst (-1) (by decide) dX5_was_17 ?_
    refine cf_X5_246 (C_carvedBut hW hok hmk (Or.inl ⟨rfl, rfl⟩)) (by assumption) rfl rfl ft0 (Nat.le_of_ble_eq_true rfl) dX5_was_18 ?_
    refine V_ist2 rfl rfl dX5_was_21 ?_
    refine V_iconst (nI 0) (by decide) dX5_was_22 ?_
    refine V_ist3 rfl rfl dX5_was_23 ?_
    refine V_iconst (nI 0) (by decide) dX5_was_24 ?_
    refine V_ist4 rfl rfl dX5_was_25 ?_
    exact loop q hq rfl (2 * tF tv) 0 (by omega) (by omega)
  · skip
    refine V_iconst (-1) (by decide) dX5_was_11 ?_
    refine V_iret rfl rfl rfl ?_ dX5_was_12
    exact ⟨by unfold fWas; rw [ifb_neg h8], rfl, rfl⟩
theorem X_missed (hC : CSt sg I A B x tv W P K) (hS : STok x tv W P K) : Fn m_X5_missed g [rf g 0] sg I (some (.int (fMissed tv W))) sg I := by
  have hC0 := hC
  have hS0 := hS
  obtain ⟨hX0, hok, hnp, hns, ⟨hWok, hwk⟩, hPok, hKok⟩ := hS
  obtain ⟨⟨kc, c0, c1, c2, c3, c4, c5, c6, hAB, kt, u0, u1⟩, ⟨hXt, cX⟩, ⟨nn, hNt⟩, hPs, hKs, hW, hD, ⟨hT, hWl⟩, hB⟩ := hC
  have hmk := hWok.2.2.2.1
  have hn12 := hmk.1
  have hF1 := hok.1
  have hF8 := hok.2.1
  have h256 := p2_le8 hF8
  have h16 := p2_le16 hF8
  have hnw := nw_le hF8
  have hnw0 := nw_pos hWok
  have htr := hWok.1
  obtain ⟨⟨wk, w0, w1⟩, we2, we3, ⟨hM, cM⟩, hH, cH⟩ := id hW
  obtain ⟨⟨tk, t0, t1, t2, t3, t4⟩, tF5, tX6, ⟨hLt, cL⟩, ⟨hPt, cP⟩, ⟨hSt, cS⟩, ⟨hBt, cB⟩⟩ := id hT
  obtain ⟨hWt, cW⟩ := id hWl
  have kX := hXt.1
  have kM := hM.1
  have kH := hH.1
  have kL := hLt.1
  have kP := hPt.1
  have kS := hSt.1
  have kB := hBt.1
  have kW := hWt.1
  have nL10 := hLt.2.2.2.2.2.2.1
  have nP5 := hPt.2.2.2.2.2.2.1
  have nS5 := hSt.2.2.2.2.2.2.1
  have nB6 := hBt.2.2.2.2.2.2.1
  have kP0 := hPs.1.1
  have kK0 := hKs.1.1
  have hls : ∀ k, (msF tv W 9 k).2 ≤ 9 := by
    intro k
    induction k with
    | zero => exact Nat.le_refl _
    | succ k ih => unfold msF; split; exact Nat.le_trans (rgt_le _ rfl) (by omega); exact ih
  refine Ct.of rfl (Nat.le_of_ble_eq_true rfl) fun X => ?_
  show V X _ sg I 0 [some (rf g 0), none, none, none, none] []
  have loop : ∀ (d k : Nat) (z : Option Value), okp z = true → (wM W).1 - k = d → k ≤ (wM W).1 →
      V X (ZQ X (fun r0 s0 I0 => r0 = some (.int (fMissed tv W)) ∧ s0 = sg ∧ I0 = I)) sg I 8 [some (rf g 0), some (.int (o4 (msF tv W 9 k).1)), some (.int (nI (msF tv W 9 k).2)), some (.int (nI k)), z] [] := by
    intro d
    induction d with
    | zero =>
      intro k z hz hd hkn
      have e : k = (wM W).1 := by omega
      subst e
      refine V_iload_n rfl dX5_missed_8 ?_
      refine V_aload_n rfl dX5_missed_9 ?_
      refine gf_X5_31 (by assumption) (by assumption) rfl dX5_missed_10 ?_
      refine gf_X5_122 (by assumption) (by assumption) rfl dX5_missed_13 ?_
      refine cf_X5_84 (C_size hM) (by assumption) rfl rfl ft0 (Nat.le_of_ble_eq_true rfl) dX5_missed_16 ?_
      refine V_icmp_geN 53 dX5_missed_19 (by decide) (by omega) (by omega) (fun h19 => ?_) (fun h19 => absurd h19 (by omega))
      refine V_iload_n rfl dX5_missed_53 ?_
      refine V_iret rfl rfl rfl ?_ dX5_missed_54
      exact ⟨rfl, rfl, rfl⟩
    | succ d ih =>
      intro k z hz hd hkn
      have h8 := fun z hz => ih (k + 1) z hz (by omega) (by omega)
      have hrd : rdN tv W 1 k < 2 ^ (2 * tF tv) := rd_lt
      have hle := rgt_le (tv := tv) (tr := wT W) (rd := rdN tv W 1 k) _ rfl
      have hl9 := hls k
      have e1 : msF tv W 9 (k + 1) = if rgtN tv (wT W) (rdN tv W 1 k) < (msF tv W 9 k).2 then (some k, rgtN tv (wT W) (rdN tv W 1 k)) else msF tv W 9 k := rfl
      rw [e1] at h8
      refine V_iload_n rfl dX5_missed_8 ?_
      refine V_aload_n rfl dX5_missed_9 ?_
      refine gf_X5_31 (by assumption) (by assumption) rfl dX5_missed_10 ?_
      refine gf_X5_122 (by assumption) (by assumption) rfl dX5_missed_13 ?_
      refine cf_X5_84 (C_size hM) (by assumption) rfl rfl ft0 (Nat.le_of_ble_eq_true rfl) dX5_missed_16 ?_
      refine V_icmp_geN 53 dX5_missed_19 (by decide) (by omega) (by omega) (fun h19 => absurd h19 (by omega)) (fun h19 => ?_)
      refine V_aload_n rfl dX5_missed_22 ?_
      refine V_aload_n rfl dX5_missed_23 ?_
      refine gf_X5_31 (by assumption) (by assumption) rfl dX5_missed_24 ?_
      refine V_iload_n rfl dX5_missed_27 ?_
      refine cf_X5_246 (C_carvedBut hW hok hmk (Or.inr ⟨rfl, by omega⟩)) (by assumption) rfl rfl ft0 (Nat.le_of_ble_eq_true rfl) dX5_missed_28 ?_
      refine cf_X5_190 (X_rightFrom hC0 hS0 hrd) (by assumption) rfl rfl ft0 (Nat.le_of_ble_eq_true rfl) dX5_missed_31 ?_
      refine V_ist4 rfl rfl dX5_missed_34 ?_
      refine V_iload rfl dX5_missed_36 ?_
      refine V_iload_n rfl dX5_missed_38 ?_
      refine V_icmp_geN 47 dX5_missed_39 (by decide) (by omega) (by omega) (fun h39 => ?_) (fun h39 => ?_)
      · skip
        refine V_iinc3_ _ (nI_inc _) rfl rfl dX5_missed_47 ?_
        refine V_goto 8 dX5_missed_50 (by decide) ?_
        first
        | (rw [if_pos (by omega)] at h8; exact h8 _ rfl)
        | (rw [if_neg (by omega)] at h8; exact h8 _ rfl)
      · skip
        refine V_iload rfl dX5_missed_42 ?_
        refine V_ist2 rfl rfl dX5_missed_44 ?_
        refine V_iload_n rfl dX5_missed_45 ?_
        refine V_ist1 rfl rfl dX5_missed_46 ?_
        refine V_iinc3_ _ (nI_inc _) rfl rfl dX5_missed_47 ?_
        refine V_goto 8 dX5_missed_50 (by decide) ?_
        first
        | (rw [if_pos (by omega)] at h8; exact h8 _ rfl)
        | (rw [if_neg (by omega)] at h8; exact h8 _ rfl)
  refine V_bipush (-4) (by decide) dX5_missed_0 ?_
  refine V_ist1 rfl rfl dX5_missed_2 ?_
  refine V_bipush (nI 9) (by decide) dX5_missed_3 ?_
  refine V_ist2 rfl rfl dX5_missed_5 ?_
  refine V_iconst (nI 0) (by decide) dX5_missed_6 ?_
  refine V_ist3 rfl rfl dX5_missed_7 ?_
  exact loop (wM W).1 0 _ rfl (by omega) (by omega)
theorem X_count {k : Int32} (hC : CSt sg I A B x tv W P K) (hS : STok x tv W P K) : Fn m_X5_count g [rf g 0, .int k] sg I (some (.int (fCount x tv W P K k))) sg I := by
  obtain ⟨hX0, hok, hnp, hns, ⟨hWok, hwk⟩, hPok, hKok⟩ := hS
  obtain ⟨⟨kc, c0, c1, c2, c3, c4, c5, c6, hAB, kt, u0, u1⟩, ⟨hXt, cX⟩, ⟨nn, hNt⟩, hPs, hKs, hW, hD, ⟨hT, hWl⟩, hB⟩ := hC
  have hmk := hWok.2.2.2.1
  have hn12 := hmk.1
  have hF1 := hok.1
  have hF8 := hok.2.1
  have h256 := p2_le8 hF8
  have h16 := p2_le16 hF8
  have hnw := nw_le hF8
  have hnw0 := nw_pos hWok
  have htr := hWok.1
  obtain ⟨⟨wk, w0, w1⟩, we2, we3, ⟨hM, cM⟩, hH, cH⟩ := id hW
  obtain ⟨⟨tk, t0, t1, t2, t3, t4⟩, tF5, tX6, ⟨hLt, cL⟩, ⟨hPt, cP⟩, ⟨hSt, cS⟩, ⟨hBt, cB⟩⟩ := id hT
  obtain ⟨hWt, cW⟩ := id hWl
  have kX := hXt.1
  have kM := hM.1
  have kH := hH.1
  have kL := hLt.1
  have kP := hPt.1
  have kS := hSt.1
  have kB := hBt.1
  have kW := hWt.1
  have nL10 := hLt.2.2.2.2.2.2.1
  have nP5 := hPt.2.2.2.2.2.2.1
  have nS5 := hSt.2.2.2.2.2.2.1
  have nB6 := hBt.2.2.2.2.2.2.1
  have kP0 := hPs.1.1
  have kK0 := hKs.1.1
  refine Ct.of rfl (Nat.le_of_ble_eq_true rfl) fun X => ?_
  show V X _ sg I 0 [some (rf g 0), some (.int k)] []
  refine V_iload_n rfl dX5_count_0 ?_
  by_cases hk : bel k 12
  · obtain ⟨j, hj, rfl⟩ := bel_ex (by decide) hk
    have hf : fCount x tv W P K (nI j) = nI ([tF tv, (tL tv).1, (tP tv).1, (tS tv).1, (tB tv).1, nw' tv, wT W, (wM W).1, wK W, P.1, K.1, x.1].getD j 0) := by unfold fCount; rw [ifb_pos hj (by decide) rfl]
    rw [hf]
    rcases (show j = 0 ∨ j = 1 ∨ j = 2 ∨ j = 3 ∨ j = 4 ∨ j = 5 ∨ j = 6 ∨ j = 7 ∨ j = 8 ∨ j = 9 ∨ j = 10 ∨ j = 11 by omega) with rfl | rfl | rfl | rfl | rfl | rfl | rfl | rfl | rfl | rfl | rfl | rfl
    · refine V_tableIn 63 64 dX5_count_1 (by decide) (by decide) rfl (by decide) ?_
      refine V_aload_n rfl dX5_count_64 ?_
      refine gf_X5_41 (by assumption) (by assumption) rfl dX5_count_65 ?_
      refine gfe_X5_249 (by assumption) (by assumption) rfl dX5_count_68 ?_
      refine V_iret rfl rfl rfl ?_ dX5_count_71
      exact ⟨rfl, rfl, rfl⟩
    · refine V_tableIn 71 72 dX5_count_1 (by decide) (by decide) rfl (by decide) ?_
      refine V_aload_n rfl dX5_count_72 ?_
      refine gf_X5_41 (by assumption) (by assumption) rfl dX5_count_73 ?_
      refine gf_X5_105 (by assumption) (by assumption) rfl dX5_count_76 ?_
      refine cf_X5_84 (C_size hLt) (by assumption) rfl rfl ft0 (Nat.le_of_ble_eq_true rfl) dX5_count_79 ?_
      refine V_iret rfl rfl rfl ?_ dX5_count_82
      exact ⟨rfl, rfl, rfl⟩
    · refine V_tableIn 82 83 dX5_count_1 (by decide) (by decide) rfl (by decide) ?_
      refine V_aload_n rfl dX5_count_83 ?_
      refine gf_X5_41 (by assumption) (by assumption) rfl dX5_count_84 ?_
      refine gf_X5_87 (by assumption) (by assumption) rfl dX5_count_87 ?_
      refine cf_X5_84 (C_size hPt) (by assumption) rfl rfl ft0 (Nat.le_of_ble_eq_true rfl) dX5_count_90 ?_
      refine V_iret rfl rfl rfl ?_ dX5_count_93
      exact ⟨rfl, rfl, rfl⟩
    · refine V_tableIn 93 94 dX5_count_1 (by decide) (by decide) rfl (by decide) ?_
      refine V_aload_n rfl dX5_count_94 ?_
      refine gf_X5_41 (by assumption) (by assumption) rfl dX5_count_95 ?_
      refine gf_X5_90 (by assumption) (by assumption) rfl dX5_count_98 ?_
      refine cf_X5_84 (C_size hSt) (by assumption) rfl rfl ft0 (Nat.le_of_ble_eq_true rfl) dX5_count_101 ?_
      refine V_iret rfl rfl rfl ?_ dX5_count_104
      exact ⟨rfl, rfl, rfl⟩
    · refine V_tableIn 104 105 dX5_count_1 (by decide) (by decide) rfl (by decide) ?_
      refine V_aload_n rfl dX5_count_105 ?_
      refine gf_X5_41 (by assumption) (by assumption) rfl dX5_count_106 ?_
      refine gf_X5_252 (by assumption) (by assumption) rfl dX5_count_109 ?_
      refine cf_X5_84 (C_size hBt) (by assumption) rfl rfl ft0 (Nat.le_of_ble_eq_true rfl) dX5_count_112 ?_
      refine V_iret rfl rfl rfl ?_ dX5_count_115
      exact ⟨rfl, rfl, rfl⟩
    · refine V_tableIn 115 116 dX5_count_1 (by decide) (by decide) rfl (by decide) ?_
      refine V_aload_n rfl dX5_count_116 ?_
      refine gf_X5_41 (by assumption) (by assumption) rfl dX5_count_117 ?_
      refine gf_X5_102 (by assumption) (by assumption) rfl dX5_count_120 ?_
      refine cf_X5_84 (C_size hWt) (by assumption) rfl rfl ft0 (Nat.le_of_ble_eq_true rfl) dX5_count_123 ?_
      refine V_iret rfl rfl rfl ?_ dX5_count_126
      exact ⟨rfl, rfl, rfl⟩
    · refine V_tableIn 126 127 dX5_count_1 (by decide) (by decide) rfl (by decide) ?_
      refine V_aload_n rfl dX5_count_127 ?_
      refine gf_X5_31 (by assumption) (by assumption) rfl dX5_count_128 ?_
      refine gfe_X5_125 (by assumption) (by assumption) rfl dX5_count_131 ?_
      refine V_iret rfl rfl rfl ?_ dX5_count_134
      exact ⟨rfl, rfl, rfl⟩
    · refine V_tableIn 134 135 dX5_count_1 (by decide) (by decide) rfl (by decide) ?_
      refine V_aload_n rfl dX5_count_135 ?_
      refine gf_X5_31 (by assumption) (by assumption) rfl dX5_count_136 ?_
      refine gf_X5_122 (by assumption) (by assumption) rfl dX5_count_139 ?_
      refine cf_X5_84 (C_size hM) (by assumption) rfl rfl ft0 (Nat.le_of_ble_eq_true rfl) dX5_count_142 ?_
      refine V_iret rfl rfl rfl ?_ dX5_count_145
      exact ⟨rfl, rfl, rfl⟩
    · refine V_tableIn 145 146 dX5_count_1 (by decide) (by decide) rfl (by decide) ?_
      refine V_aload_n rfl dX5_count_146 ?_
      refine gf_X5_31 (by assumption) (by assumption) rfl dX5_count_147 ?_
      refine gfe_X5_168 (by assumption) (by assumption) rfl dX5_count_150 ?_
      refine V_iret rfl rfl rfl ?_ dX5_count_153
      exact ⟨rfl, rfl, rfl⟩
    · refine V_tableIn 153 154 dX5_count_1 (by decide) (by decide) rfl (by decide) ?_
      refine V_aload_n rfl dX5_count_154 ?_
      refine gf_X5_21 (by assumption) (by assumption) rfl dX5_count_155 ?_
      refine cf_X5_174 (C_sSize hPs) (by assumption) rfl rfl ft0 (Nat.le_of_ble_eq_true rfl) dX5_count_158 ?_
      refine V_iret rfl rfl rfl ?_ dX5_count_161
      exact ⟨rfl, rfl, rfl⟩
    · refine V_tableIn 161 162 dX5_count_1 (by decide) (by decide) rfl (by decide) ?_
      refine V_aload_n rfl dX5_count_162 ?_
      refine gf_X5_25 (by assumption) (by assumption) rfl dX5_count_163 ?_
      refine cf_X5_174 (C_sSize hKs) (by assumption) rfl rfl ft0 (Nat.le_of_ble_eq_true rfl) dX5_count_166 ?_
      refine V_iret rfl rfl rfl ?_ dX5_count_169
      exact ⟨rfl, rfl, rfl⟩
    · refine V_tableIn 169 170 dX5_count_1 (by decide) (by decide) rfl (by decide) ?_
      refine V_aload_n rfl dX5_count_170 ?_
      refine gf_X5_10 (by assumption) (by assumption) rfl dX5_count_171 ?_
      refine gf_X5_56 (by assumption) (by assumption) rfl dX5_count_174 ?_
      refine cf_X5_84 (C_size hXt) (by assumption) rfl rfl ft0 (Nat.le_of_ble_eq_true rfl) dX5_count_177 ?_
      refine V_iret rfl rfl rfl ?_ dX5_count_180
      exact ⟨rfl, rfl, rfl⟩
  · have hf : fCount x tv W P K k = -1 := by unfold fCount; rw [ifb_neg hk]
    rw [hf]
    refine V_tableOut 181 dX5_count_1 ?_ (by decide) ?_
    · rcases int_cases k with h | ⟨j, hj, rfl⟩
      · left; rw [Int32.lt_iff_toInt_lt, Int32.toInt_zero] at h; exact h
      · right; rw [nI_toInt hj]; have h12 : ¬ j < 12 := fun z => hk ((bel_nI hj (by decide)).mpr z)
        omega
    · skip
      refine V_iconst (-1) (by decide) dX5_count_181 ?_
      refine V_iret rfl rfl rfl ?_ dX5_count_182
      exact ⟨rfl, rfl, rfl⟩
end CREAD2
