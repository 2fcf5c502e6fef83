/-! CarvedWeeks: a year -/
def drawN (z k : Nat) : Nat := (7919 * z + 6151 * k + 1) * (7919 * z + 6151 * k + 1) % 65521
theorem drawN_lt (z k : Nat) : drawN z k < 65521 := Nat.mod_lt _ (by decide)
def yrF (tv : TV) (W : WV) (z : Nat) : Nat → WV × Nat
  | 0 => (W, 0)
  | k + 1 => (liveV tv (yrF tv W z k).1 (drawN z k), (yrF tv W z k).2 + if wrgN tv (wT (liveV tv (yrF tv W z k).1 (drawN z k))) (rdN tv (liveV tv (yrF tv W z k).1 (drawN z k)) 1 99) = 0 then 1 else 0)
noncomputable def fYear (tv : TV) (W : WV) (z n w : Int32) : Int32 := ifb z 10000 (fun z => ifb n 61 (fun n => if n = 0 then -1 else ifb w 2 (fun w => if w = 0 then nI (yrF tv W z n).2 else nI (wM (yrF tv W z n).1).1) (-1)) (-1)) (-1)
theorem yr_ok {tv : TV} {W : WV} {z : Nat} (hok : TVok tv) (hw0 : 0 < nw' tv) (hp0 : 0 < (tP tv).1) (hW : WVok tv W) (hk : wK W ≤ 999) : ∀ k, k ≤ 60 → WVok tv (yrF tv W z k).1 ∧ wK (yrF tv W z k).1 ≤ 999 + k ∧ (yrF tv W z k).2 ≤ k
  | 0, _ => ⟨hW, hk, Nat.le_refl _⟩
  | k + 1, h => by
    obtain ⟨a, b, c⟩ := yr_ok (z := z) hok hw0 hp0 hW hk k (by omega)
    have h1 := preV_ok (d := drawN z k) hok hw0 hp0 a
    have e : wK (preV tv (yrF tv W z k).1 (drawN z k)) = wK (yrF tv W z k).1 := rfl
    refine ⟨WVok.ring hok h1 (by omega), ?_, ?_⟩
    · show wK (preV tv (yrF tv W z k).1 (drawN z k)) + 1 ≤ _
      omega
    · show (yrF tv W z k).2 + (if _ then 1 else 0) ≤ _
      split <;> omega
section CYEAR
variable {g : GC} {sg : SG} {I : IM} {A B : Nat} {x : XV} {tv : TV} {W : WV} {P K : SV}
/-- only the week of dreams has changed -/
theorem CSt.dream {J : IM} {U : WV} (h : CSt sg I A B x tv W P K) (hd : CWeek sg J 65 U (tP tv).1) (e : outW 65 I J) : CSt sg J A B x tv W P K := by
  unfold outW at e
  obtain ⟨a, ⟨b1, b2⟩, ⟨m, c⟩, d, f, k, l, ⟨n1, n2⟩, p⟩ := h
  have hAB := a.2.2.2.2.2.2.2.2.1
  exact ⟨a, ⟨b1.other (e _ (by omega)), fun i hi => by rw [e 3 (by omega)]; exact b2 i hi⟩, ⟨m, c.other (e _ (by omega))⟩, d.other (fun q _ _ => e q (by omega)), f.other (fun q _ _ => e q (by omega)), k.other (fun q _ _ => e q (by omega)), hd.sh, ⟨n1.other (fun q _ _ => e q (by omega)), n2.other (fun q _ _ => e q (by omega))⟩, p.other (fun q _ _ => e q (by omega))⟩
theorem C_draw {z k : Nat} (hz : z < 10000) (hk : k < 60) : Fn m_X5_draw g [.int (nI z), .int (nI k)] sg I (some (.int (nI (drawN z k)))) sg I := by
  have hm : 7919 * z + 6151 * k + 1 < 80000000 := by omega
  have hsq : (7919 * z + 6151 * k + 1) * (7919 * z + 6151 * k + 1) < 80000000 * 80000000 := Nat.mul_lt_mul'' hm hm
  refine Ct.of rfl (Nat.le_of_ble_eq_true rfl) fun X => ?_
  show V X _ sg I 0 [some (.int (nI z)), some (.int (nI k)), none, none] []
  refine V_ldc2 RX5 _ rfl wk_X5_269 dX5_draw_0 ?_
  rw [show (7919 : Int64) = lN 7919 from by decide]
  refine V_iload_n rfl dX5_draw_3 ?_
  refine V_i2l dX5_draw_4 ?_
  rw [nI_toL (by omega)]
  refine V_lmul dX5_draw_5 ?_
  rw [lN_mul]
  refine V_ldc2 RX5 _ rfl wk_X5_271 dX5_draw_6 ?_
  rw [show (6151 : Int64) = lN 6151 from by decide]
  refine V_iload_n rfl dX5_draw_9 ?_
  refine V_i2l dX5_draw_10 ?_
  rw [nI_toL (by omega)]
  refine V_lmul dX5_draw_11 ?_
  rw [lN_mul]
  refine V_ladd dX5_draw_12 ?_
  rw [lN_add]
  refine V_lconst (lN 1) rfl dX5_draw_13 ?_
  refine V_ladd dX5_draw_14 ?_
  rw [lN_add]
  refine V_lst2 rfl rfl dX5_draw_15 ?_
  refine V_lload_n rfl dX5_draw_16 ?_
  refine V_lload_n rfl dX5_draw_17 ?_
  refine V_lmul dX5_draw_18 ?_
  rw [lN_mul]
  refine V_ldc2 RX5 _ rfl wk_X5_273 dX5_draw_19 ?_
  rw [show (65521 : Int64) = lN 65521 from by decide]
  refine V_lrem (lN_nz (by decide) (by decide)) dX5_draw_22 ?_
  rw [pk_lRem (by omega) (by decide) (by decide)]
  refine V_l2i dX5_draw_23 ?_
  rw [lN_i]
  refine V_iret rfl rfl rfl ?_ dX5_draw_24
  exact ⟨rfl, rfl, rfl⟩
def yrQ (sg : SG) (I : IM) (a : Int32) : Option Value → SG → IM → Prop := fun r0 s0 J => r0 = some (.int a) ∧ s0 = sg ∧ ∀ q, (q < 65 ∨ 70 ≤ q) → J q = I q
theorem X_year0 {z n w : Int32} (hC : CSt sg I A B x tv W P K) (hS : STok x tv W P K) : Ct m_X5_year g [rf g 0, .int z, .int n, .int w] sg I (fun r0 s0 J => r0 = some (.int (fYear tv W z n w)) ∧ s0 = sg ∧ CSt sg J A B x tv W P K ∧ outW 65 I J) := by
  have hC0 := hC
  have hS0 := hS
  obtain ⟨hX0, hok, hnp, hns, ⟨hWok, hwk⟩, hPok, hKok⟩ := hS
  obtain ⟨⟨kc, c0, c1, c2, c3, c4, c5, c6, hAB, kt, u0, u1⟩, ⟨hXt, cX⟩, ⟨nn, hNt⟩, hPs, hKs, hW, hD, ⟨hT, hWl⟩, hB⟩ := hC
  have hmk := hWok.2.2.2.1
  have hn12 := hmk.1
  have hF1 := hok.1
  have hF8 := hok.2.1
  have h256 := p2_le8 hF8
  have h16 := p2_le16 hF8
  have hnw := nw_le hF8
  have hnw0 := nw_pos hWok
  have htr := hWok.1
  obtain ⟨⟨wk, w0, w1⟩, we2, we3, ⟨hM, cM⟩, hH, cH⟩ := id hW
  obtain ⟨⟨tk, t0, t1, t2, t3, t4⟩, tF5, tX6, ⟨hLt, cL⟩, ⟨hPt, cP⟩, ⟨hSt, cS⟩, ⟨hBt, cB⟩⟩ := id hT
  obtain ⟨hWt, cW⟩ := id hWl
  have kX := hXt.1
  have kM := hM.1
  have kH := hH.1
  have kL := hLt.1
  have kP := hPt.1
  have kS := hSt.1
  have kB := hBt.1
  have kW := hWt.1
  have nL10 := hLt.2.2.2.2.2.2.1
  have nP5 := hPt.2.2.2.2.2.2.1
  have nS5 := hSt.2.2.2.2.2.2.1
  have nB6 := hBt.2.2.2.2.2.2.1
  have kP0 := hPs.1.1
  have kK0 := hKs.1.1
  refine Ct.of rfl (Nat.le_of_ble_eq_true rfl) fun X => ?_
  show V X _ sg I 0 [some (rf g 0), some (.int z), some (.int n), some (.int w), none, none] []
  obtain ⟨QQ, hQQ⟩ : ∃ QQ : Option Value → SG → IM → Prop, QQ = (fun r0 s0 J => r0 = some (.int (fYear tv W z n w)) ∧ s0 = sg ∧ CSt sg J A B x tv W P K ∧ outW 65 I J) := ⟨_, rfl⟩
  rw [← hQQ]
  have hfin : ∀ z1 n1 w1, z1 < 10000 → n1 < 61 → 0 < n1 → w1 < 2 → z = nI z1 → n = nI n1 → w = nI w1 → ∀ d k, n1 - k = d → k ≤ n1 → ∀ J, CWeek sg J 65 (yrF tv W z1 k).1 (tP tv).1 → outW 65 I J → V X (ZQ X QQ) sg J 50 [some (rf g 0), some (.int (nI z1)), some (.int (nI n1)), some (.int (nI w1)), some (.int (nI (yrF tv W z1 k).2)), some (.int (nI k))] [] := by
    intro z1 n1 w1 hz1 hn1 hn0 hw1 ez en ew
    have hf : fYear tv W z n w = if w1 = 0 then nI (yrF tv W z1 n1).2 else nI (wM (yrF tv W z1 n1).1).1 := by
      unfold fYear
      rw [ifb_pos hz1 (by decide) ez, ifb_pos hn1 (by decide) en, if_neg (by omega), ifb_pos hw1 (by decide) ew]
    intro d
    induction d with
    | zero =>
      intro k hd hkn J hJ hout
      have e : k = n1 := by omega
      subst e
      have hyk := yr_ok (z := z1) hok hnw0 hnp hWok hwk k (by omega)
      have hJC := hC0.dream hJ hout
      obtain ⟨⟨jk, j0, j1⟩, je2, je3, ⟨jM, jcM⟩, jH, jcH⟩ := id hJ
      have kj := jM.1
      refine V_iload rfl dX5_year_50 ?_
      refine V_iload_n rfl dX5_year_52 ?_
      refine V_icmp_geN 101 dX5_year_53 (by decide) (by omega) (by omega) (fun h53 => ?_) (fun h53 => absurd h53 (by omega))
      refine V_iload_n rfl dX5_year_101 ?_
      refine V_if_neN 110 dX5_year_102 (by decide) (by omega) (fun h102 => ?_) (fun h102 => ?_)
      · skip
        refine V_aload_n rfl dX5_year_110 ?_
        refine gf_X5_35 (by assumption) (by assumption) rfl dX5_year_111 ?_
        refine gf_X5_122 (by assumption) (by assumption) rfl dX5_year_114 ?_
        refine cf_X5_84 (C_size jM) (by assumption) rfl rfl ft0 (Nat.le_of_ble_eq_true rfl) dX5_year_117 ?_
        refine V_iret rfl rfl rfl ?_ dX5_year_120
        rw [hQQ]
        refine ⟨?_, rfl, hJC, hout⟩
        rw [hf]
        first
        | rw [if_pos h102]
        | rw [if_neg h102]
      · skip
        refine V_iload rfl dX5_year_105 ?_
        refine V_goto 120 dX5_year_107 (by decide) ?_
        refine V_iret rfl rfl rfl ?_ dX5_year_120
        rw [hQQ]
        refine ⟨?_, rfl, hJC, hout⟩
        rw [hf]
        first
        | rw [if_pos h102]
        | rw [if_neg h102]
    | succ d ih =>
      intro k hd hkn J hJ hout
      have hyk := yr_ok (z := z1) hok hnw0 hnp hWok hwk k (by omega)
      have hyk1 := yr_ok (z := z1) hok hnw0 hnp hWok hwk (k + 1) (by omega)
      have hJC := hC0.dream hJ hout
      have h8 := fun J => ih (k + 1) (by omega) (by omega) J
      have e1 : (yrF tv W z1 (k + 1)).1 = liveV tv (yrF tv W z1 k).1 (drawN z1 k) := rfl
      have e2 : (yrF tv W z1 (k + 1)).2 = (yrF tv W z1 k).2 + if wrgN tv (wT (liveV tv (yrF tv W z1 k).1 (drawN z1 k))) (rdN tv (liveV tv (yrF tv W z1 k).1 (drawN z1 k)) 1 99) = 0 then 1 else 0 := rfl
      have hcl := C_live (g := g) (d := drawN z1 k) hJC.2.2.2.2.2.2.2.1.1 hJC.2.2.2.2.2.2.2.1.2 hJ hok hnw0 hnp hyk.1 (by omega) (show aprt A 65 by unfold aprt; omega) (by have := drawN_lt z1 k; omega)
      obtain ⟨U, hU⟩ : ∃ U, U = liveV tv (yrF tv W z1 k).1 (drawN z1 k) := ⟨_, rfl⟩
      rw [← hU] at e1 e2 hcl
      rw [e1] at hyk1
      rw [e1, e2] at h8
      have hUt := hyk1.1.1
      have hUm := hyk1.1.2.2.2.1
      have hwr : wrgN tv (wT U) (rdN tv U 1 99) ≤ 2 * tF tv := wrg_le
      obtain ⟨⟨jk, j0, j1⟩, je2, je3, ⟨jM, jcM⟩, jH, jcH⟩ := id hJ
      refine V_iload rfl dX5_year_50 ?_
      refine V_iload_n rfl dX5_year_52 ?_
      refine V_icmp_geN 101 dX5_year_53 (by decide) (by omega) (by omega) (fun h53 => absurd h53 (by omega)) (fun h53 => ?_)
      refine V_aload_n rfl dX5_year_56 ?_
      refine gf_X5_35 (by assumption) (by assumption) rfl dX5_year_57 ?_
      refine V_aload_n rfl dX5_year_60 ?_
      refine gf_X5_41 (by assumption) (by assumption) rfl dX5_year_61 ?_
      refine V_iload_n rfl dX5_year_64 ?_
      refine V_iload rfl dX5_year_65 ?_
      refine cf_X5_261 (C_draw hz1 (by omega)) rfl rfl ft0 (Nat.le_of_ble_eq_true rfl) dX5_year_67 ?_
      refine cl_X5_264 (hcl) (by assumption) rfl rfl ft0 (Nat.le_of_ble_eq_true rfl) dX5_year_70 (fun r1 s1 J1 hq => ?_)
      obtain ⟨rfl, rfl, hq2, hq3⟩ := hq
      have hout1 : outW 65 I J1 := fun q hq => (hq3 q hq).trans (hout q hq)
      have hJC1 := hC0.dream hq2 hout1
      have h9 := h8 J1 hq2 hout1
      show V X _ s1 J1 73 _ []
      refine V_aload_n rfl dX5_year_73 ?_
      refine V_aload_n rfl dX5_year_74 ?_
      refine gf_X5_35 (by assumption) (by assumption) rfl dX5_year_75 ?_
      refine V_aload_n rfl dX5_year_78 ?_
      refine gf_X5_35 (by assumption) (by assumption) rfl dX5_year_79 ?_
      refine V_iconst (-1) (by decide) dX5_year_82 ?_
      refine cf_X5_246 (C_carvedBut hq2 hok hUm (Or.inl ⟨rfl, rfl⟩)) (by assumption) rfl rfl ft0 (Nat.le_of_ble_eq_true rfl) dX5_year_83 ?_
      refine cf_X5_193 (X_wrongFrom hJC1 hS0 hq2 hUt rd_lt) (by assumption) rfl rfl ft0 (Nat.le_of_ble_eq_true rfl) dX5_year_86 ?_
      refine V_if_neN 95 dX5_year_89 (by decide) (by omega) (fun h89 => ?_) (fun h89 => ?_)
      · skip
        refine V_iinc5_ _ (nI_inc _) rfl rfl dX5_year_95 ?_
        refine V_goto 50 dX5_year_98 (by decide) ?_
        first
        | (rw [if_neg (by omega), Nat.add_zero] at h9; exact h9)
        | (rw [if_pos (by omega)] at h9; exact h9)
      · skip
        refine V_iinc4_ _ (nI_inc _) rfl rfl dX5_year_92 ?_
        refine V_iinc5_ _ (nI_inc _) rfl rfl dX5_year_95 ?_
        refine V_goto 50 dX5_year_98 (by decide) ?_
        first
        | (rw [if_neg (by omega), Nat.add_zero] at h9; exact h9)
        | (rw [if_pos (by omega)] at h9; exact h9)
  have hbad : (z < 0 ∨ nI 9999 < z ∨ n < nI 1 ∨ nI 60 < n ∨ w < 0 ∨ nI 1 < w) → fYear tv W z n w = -1 := by
    intro h
    unfold fYear
    rcases int_cases z with hz | ⟨z1, hz1, rfl⟩
    · rw [ifb_lt0 hz]
    · by_cases cz : z1 < 10000
      · rw [ifb_pos cz (by decide) rfl]
        rcases int_cases n with hn | ⟨n1, hn1, rfl⟩
        · rw [ifb_lt0 hn]
        · by_cases cn : n1 < 61
          · rw [ifb_pos cn (by decide) rfl]
            by_cases c0 : n1 = 0
            · rw [if_pos c0]
            · rw [if_neg c0]
              rcases int_cases w with hw | ⟨w1, hw1, rfl⟩
              · rw [ifb_lt0 hw]
              · by_cases cw : w1 < 2
                · exfalso
                  have h2 := nI_lt0 hz1
                  have h3 := nI_lt0 hw1
                  rcases h with h | h | h | h | h | h
                  · exact h2 h
                  · rw [nI_ltI (by decide) hz1] at h; omega
                  · rw [nI_ltI hn1 (by decide)] at h; omega
                  · rw [nI_ltI (by decide) hn1] at h; omega
                  · exact h3 h
                  · rw [nI_ltI (by decide) hw1] at h; omega
                · rw [ifb_big hw1 (by decide) (by omega)]
          · rw [ifb_big hn1 (by decide) (by omega)]
      · rw [ifb_big hz1 (by decide) (by omega)]
  have kD := hD.1.1
  refine V_iload_n rfl dX5_year_0 ?_
  refine V_if_lt 31 dX5_year_1 (by decide) (fun h1 => ?_) (fun h1 => ?_)
  · skip
    refine V_iconst (-1) (by decide) dX5_year_31 ?_
    refine V_iret rfl rfl rfl ?_ dX5_year_32
    rw [hQQ]
    exact ⟨by rw [hbad (by first | exact Or.inl h1 | exact Or.inr (Or.inl h8) | exact Or.inr (Or.inr (Or.inl h13)) | exact Or.inr (Or.inr (Or.inr (Or.inl h19))) | exact Or.inr (Or.inr (Or.inr (Or.inr (Or.inl h23)))) | exact Or.inr (Or.inr (Or.inr (Or.inr (Or.inr (by rw [Int32.not_le] at h28; exact h28))))))], rfl, hC0, fun q _ => rfl⟩
  · skip
    refine V_iload_n rfl dX5_year_4 ?_
    refine V_sipush (nI 9999) (by decide) dX5_year_5 ?_
    refine V_icmp_gt 31 dX5_year_8 (by decide) (fun h8 => ?_) (fun h8 => ?_)
    · skip
      refine V_iconst (-1) (by decide) dX5_year_31 ?_
      refine V_iret rfl rfl rfl ?_ dX5_year_32
      rw [hQQ]
      exact ⟨by rw [hbad (by first | exact Or.inl h1 | exact Or.inr (Or.inl h8) | exact Or.inr (Or.inr (Or.inl h13)) | exact Or.inr (Or.inr (Or.inr (Or.inl h19))) | exact Or.inr (Or.inr (Or.inr (Or.inr (Or.inl h23)))) | exact Or.inr (Or.inr (Or.inr (Or.inr (Or.inr (by rw [Int32.not_le] at h28; exact h28))))))], rfl, hC0, fun q _ => rfl⟩
    · skip
      refine V_iload_n rfl dX5_year_11 ?_
      refine V_iconst (nI 1) (by decide) dX5_year_12 ?_
      refine V_icmp_lt 31 dX5_year_13 (by decide) (fun h13 => ?_) (fun h13 => ?_)
      · skip
        refine V_iconst (-1) (by decide) dX5_year_31 ?_
        refine V_iret rfl rfl rfl ?_ dX5_year_32
        rw [hQQ]
        exact ⟨by rw [hbad (by first | exact Or.inl h1 | exact Or.inr (Or.inl h8) | exact Or.inr (Or.inr (Or.inl h13)) | exact Or.inr (Or.inr (Or.inr (Or.inl h19))) | exact Or.inr (Or.inr (Or.inr (Or.inr (Or.inl h23)))) | exact Or.inr (Or.inr (Or.inr (Or.inr (Or.inr (by rw [Int32.not_le] at h28; exact h28))))))], rfl, hC0, fun q _ => rfl⟩
      · skip
        refine V_iload_n rfl dX5_year_16 ?_
        refine V_bipush (nI 60) (by decide) dX5_year_17 ?_
        refine V_icmp_gt 31 dX5_year_19 (by decide) (fun h19 => ?_) (fun h19 => ?_)
        · skip
          refine V_iconst (-1) (by decide) dX5_year_31 ?_
          refine V_iret rfl rfl rfl ?_ dX5_year_32
          rw [hQQ]
          exact ⟨by rw [hbad (by first | exact Or.inl h1 | exact Or.inr (Or.inl h8) | exact Or.inr (Or.inr (Or.inl h13)) | exact Or.inr (Or.inr (Or.inr (Or.inl h19))) | exact Or.inr (Or.inr (Or.inr (Or.inr (Or.inl h23)))) | exact Or.inr (Or.inr (Or.inr (Or.inr (Or.inr (by rw [Int32.not_le] at h28; exact h28))))))], rfl, hC0, fun q _ => rfl⟩
        · skip
          refine V_iload_n rfl dX5_year_22 ?_
          refine V_if_lt 31 dX5_year_23 (by decide) (fun h23 => ?_) (fun h23 => ?_)
          · skip
            refine V_iconst (-1) (by decide) dX5_year_31 ?_
            refine V_iret rfl rfl rfl ?_ dX5_year_32
            rw [hQQ]
            exact ⟨by rw [hbad (by first | exact Or.inl h1 | exact Or.inr (Or.inl h8) | exact Or.inr (Or.inr (Or.inl h13)) | exact Or.inr (Or.inr (Or.inr (Or.inl h19))) | exact Or.inr (Or.inr (Or.inr (Or.inr (Or.inl h23)))) | exact Or.inr (Or.inr (Or.inr (Or.inr (Or.inr (by rw [Int32.not_le] at h28; exact h28))))))], rfl, hC0, fun q _ => rfl⟩
          · skip
            refine V_iload_n rfl dX5_year_26 ?_
            refine V_iconst (nI 1) (by decide) dX5_year_27 ?_
            refine V_icmp_le 33 dX5_year_28 (by decide) (fun h28 => ?_) (fun h28 => ?_)
            · skip
              obtain ⟨z1, hz1, rfl⟩ := nn_ex h1
              have hn0 : ¬ n < 0 := fun z => h13 (Int32.lt_trans z (by decide))
              obtain ⟨n1, hn1, rfl⟩ := nn_ex hn0
              obtain ⟨w9, hw9, rfl⟩ := nn_ex h23
              rw [nI_ltI (by decide) hz1] at h8
              rw [nI_ltI hn1 (by decide)] at h13
              rw [nI_ltI (by decide) hn1] at h19
              rw [nI_leI hw9 (by decide)] at h28
              refine V_aload_n rfl dX5_year_33 ?_
              refine gf_X5_35 (by assumption) (by assumption) rfl dX5_year_34 ?_
              refine V_aload_n rfl dX5_year_37 ?_
              refine gf_X5_31 (by assumption) (by assumption) rfl dX5_year_38 ?_
              refine cl_X5_258 (C_copyWeek hD hW (Or.inr (by decide)) hn12 nP5) (by assumption) rfl rfl ft0 (Nat.le_of_ble_eq_true rfl) dX5_year_41 (fun r1 s1 J1 hq => ?_)
              obtain ⟨rfl, rfl, q1, q2⟩ := hq
              show V X _ s1 J1 44 _ []
              refine V_iconst (nI 0) (by decide) dX5_year_44 ?_
              refine V_ist4 rfl rfl dX5_year_45 ?_
              refine V_iconst (nI 0) (by decide) dX5_year_47 ?_
              refine V_ist5 rfl rfl dX5_year_48 ?_
              exact hfin z1 n1 w9 (by omega) (by omega) (by omega) (by omega) rfl rfl rfl _ 0 rfl (by omega) J1 q1 q2
            · skip
              refine V_iconst (-1) (by decide) dX5_year_31 ?_
              refine V_iret rfl rfl rfl ?_ dX5_year_32
              rw [hQQ]
              exact ⟨by rw [hbad (by first | exact Or.inl h1 | exact Or.inr (Or.inl h8) | exact Or.inr (Or.inr (Or.inl h13)) | exact Or.inr (Or.inr (Or.inr (Or.inl h19))) | exact Or.inr (Or.inr (Or.inr (Or.inr (Or.inl h23)))) | exact Or.inr (Or.inr (Or.inr (Or.inr (Or.inr (by rw [Int32.not_le] at h28; exact h28))))))], rfl, hC0, fun q _ => rfl⟩
end CYEAR
