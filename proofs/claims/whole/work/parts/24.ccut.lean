/-! CarvedWeeks: carve, chisel; what stays well formed -/
section CCUT
variable {g : GC} {sg : SG} {I : IM} {A B : Nat} {x : XV} {tv : TV} {W : WV} {P K : SV}
theorem X_carve {i s f t : Int32} (hC : CSt sg I A B x tv W P K) (hS : STok x tv W P K) : Ct m_X5_carve g [rf g 0, .int i, .int s, .int f, .int t] sg I (stQ sg I A B tv (gCarve x tv W P K i s f t)) := by
  have hC0 := hC
  obtain ⟨hX0, hok, hnp, hns, ⟨hWok, hwk⟩, hPok, hKok⟩ := hS
  obtain ⟨⟨kc, c0, c1, c2, c3, c4, c5, c6, hAB, kt, u0, u1⟩, ⟨hXt, cX⟩, ⟨nn, hNt⟩, hPs, hKs, hW, hD, ⟨hT, hWl⟩, hB⟩ := hC
  have hmk := hWok.2.2.2.1
  have hn12 := hmk.1
  have hF1 := hok.1
  have hF8 := hok.2.1
  have h256 := p2_le8 hF8
  have h16 := p2_le16 hF8
  have hnw := nw_le hF8
  have hnw0 := nw_pos hWok
  have htr := hWok.1
  obtain ⟨⟨wk, w0, w1⟩, we2, we3, ⟨hM, cM⟩, hH, cH⟩ := id hW
  obtain ⟨⟨tk, t0, t1, t2, t3, t4⟩, tF5, tX6, ⟨hLt, cL⟩, ⟨hPt, cP⟩, ⟨hSt, cS⟩, ⟨hBt, cB⟩⟩ := id hT
  obtain ⟨hWt, cW⟩ := id hWl
  have kX := hXt.1
  have kM := hM.1
  have kH := hH.1
  have kL := hLt.1
  have kP := hPt.1
  have kS := hSt.1
  have kB := hBt.1
  have kW := hWt.1
  have nL10 := hLt.2.2.2.2.2.2.1
  have nP5 := hPt.2.2.2.2.2.2.1
  have nS5 := hSt.2.2.2.2.2.2.1
  have nB6 := hBt.2.2.2.2.2.2.1
  have kP0 := hPs.1.1
  have kK0 := hKs.1.1
  have hso := hok.2.2.2.2.2.1
  refine Ct.of rfl (Nat.le_of_ble_eq_true rfl) fun X => ?_
  show V X _ sg I 0 [some (rf g 0), some (.int i), some (.int s), some (.int f), some (.int t), none] []
  have hfin : ∀ i1 s1 f1, i1 < (tP tv).1 → s1 < (tS tv).1 → f1 < tF tv → i = nI i1 → s = nI s1 → f = nI f1 →
      V X (ZQ X (stQ sg I A B tv (gCarve x tv W P K i s f t))) sg I 41 [some (rf g 0), some (.int (nI i1)), some (.int (nI s1)), some (.int (nI f1)), some (.int t), none] [] := by
    intro i1 s1 f1 hi hs hf ei es ef
    have hg : gCarve x tv W P K i s f t = if wH W i1 < hrsN tv s1 ∨ freeN tv W s1 = 0 then (x, W, P, K, -2) else if (wM W).1 = 12 then (x, W, P, K, -3) else
        (x, (wT W, wK W, addTB (wM W) (if t = 0 then tsy f1 (wT W) ^^^ 1 else tsy f1 (wT W)) s1 i1, fun j => if j = i1 then wH W i1 - hrsN tv s1 else wH W j), pushS 8 P W, K, nI (wM W).1) := by
      unfold gCarve
      rw [ifb_pos hi (by omega) ei, ifb_pos hs (by omega) es, ifb_pos hf (by omega) ef]
    rw [hg]
    have hH1 := cH i1 hi
    have hhl : wH W i1 ≤ 40 := hWok.2.2.2.2 i1 hi
    have hrl : hrsN tv s1 ≤ 9 := by have := hso s1 hs; unfold hrsN; split <;> omega
    have hfl : freeN tv W s1 ≤ 6 := by have := hso s1 hs; unfold freeN; omega
    have hfree : freeN tv W s1 = (tS tv).2 s1 0 - cnt (wM W).1 (stB W s1) := rfl
    refine V_aload_n rfl dX5_carve_41 ?_
    refine gf_X5_31 (by assumption) (by assumption) rfl dX5_carve_42 ?_
    refine gf_X5_115 (by assumption) (by assumption) rfl dX5_carve_45 ?_
    refine V_iload_n rfl dX5_carve_48 ?_
    refine V_iconst (nI 0) (by decide) dX5_carve_49 ?_
    refine cf_X5_111 (C_get (c := 0) hH (by omega) (by decide)) (by assumption) rfl rfl ft0 (Nat.le_of_ble_eq_true rfl) dX5_carve_50 ?_
    rw [if_pos hi, hH1]
    refine V_aload_n rfl dX5_carve_53 ?_
    refine gf_X5_41 (by assumption) (by assumption) rfl dX5_carve_54 ?_
    refine V_iload_n rfl dX5_carve_57 ?_
    refine cf_X5_148 (C_hoursAt hT hok hs) (by assumption) rfl rfl ft0 (Nat.le_of_ble_eq_true rfl) dX5_carve_58 ?_
    refine V_icmp_ltN 80 dX5_carve_61 (by decide) (by omega) (by omega) (fun h61 => ?_) (fun h61 => ?_)
    · skip
      refine V_bipush (-2) (by decide) dX5_carve_80 ?_
      refine V_iret rfl rfl rfl ?_ dX5_carve_82
      unfold stQ
      rw [if_pos (by omega)]
      exact ⟨rfl, rfl, hC0, fun q _ => rfl⟩
    · skip
      refine V_aload_n rfl dX5_carve_64 ?_
      refine gf_X5_31 (by assumption) (by assumption) rfl dX5_carve_65 ?_
      refine V_aload_n rfl dX5_carve_68 ?_
      refine gf_X5_41 (by assumption) (by assumption) rfl dX5_carve_69 ?_
      refine V_iload_n rfl dX5_carve_72 ?_
      refine cf_X5_118 (C_freeRoom hT hW hok hmk hs) (by assumption) rfl rfl ft0 (Nat.le_of_ble_eq_true rfl) dX5_carve_73 ?_
      refine V_iconst (nI 1) (by decide) dX5_carve_76 ?_
      refine V_icmp_geN 83 dX5_carve_77 (by decide) (by omega) (by omega) (fun h77 => ?_) (fun h77 => ?_)
      · skip
        refine V_aload_n rfl dX5_carve_83 ?_
        refine gf_X5_31 (by assumption) (by assumption) rfl dX5_carve_84 ?_
        refine gf_X5_122 (by assumption) (by assumption) rfl dX5_carve_87 ?_
        refine cf_X5_151 (C_isFull hM) (by assumption) rfl rfl ft0 (Nat.le_of_ble_eq_true rfl) dX5_carve_90 ?_
        refine V_if_eqB 99 dX5_carve_93 (by decide) (fun h93 => ?_) (fun h93 => ?_)
        · skip
          refine V_aload_n rfl dX5_carve_99 ?_
          refine gf_X5_21 (by assumption) (by assumption) rfl dX5_carve_100 ?_
          refine V_aload_n rfl dX5_carve_103 ?_
          refine gf_X5_31 (by assumption) (by assumption) rfl dX5_carve_104 ?_
          refine cl_X5_135 (C_push hPs hW hn12 nP5 (Or.inr (by decide))) (by assumption) rfl rfl ft0 (Nat.le_of_ble_eq_true rfl) dX5_carve_107 (fun rr s9 J1 hq => ?_)
          obtain ⟨rfl, hq0, q1, q2⟩ := hq
          have hq0 := hq0.symm
          subst hq0
          show V X _ sg J1 110 _ []
          have hC1 := hC0.past q1 q2
          obtain ⟨-, jXt0, -, jPs, jKs, jW, jD, ⟨jT, jWl⟩, -⟩ := id hC1
          obtain ⟨-, je2, je3, ⟨jM, jcM⟩, jH, jcH⟩ := id jW
          obtain ⟨-, jF5, jX6, -, ⟨jPt, jcP⟩, ⟨jSt, jcS⟩, -⟩ := id jT
          refine V_aload_n rfl dX5_carve_110 ?_
          refine gf_X5_31 (by assumption) (by assumption) rfl dX5_carve_111 ?_
          refine V_iload_n rfl dX5_carve_114 ?_
          refine V_aload_n rfl dX5_carve_115 ?_
          refine gf_X5_41 (by assumption) (by assumption) rfl dX5_carve_116 ?_
          refine V_iload_n rfl dX5_carve_119 ?_
          refine cf_X5_148 (C_hoursAt jT hok hs) (by assumption) rfl rfl ft0 (Nat.le_of_ble_eq_true rfl) dX5_carve_120 ?_
          refine cf_X5_155 (C_spend jW hi (by omega)) (by assumption) rfl rfl ft0 (Nat.le_of_ble_eq_true rfl) dX5_carve_123 ?_
          obtain ⟨J2, hJ2⟩ : ∃ J2, J2 = upI J1 (60 + 4) (i1 * 1 + 0) (nI (wH W i1 - hrsN tv s1)) := ⟨_, rfl⟩
          rw [← hJ2]
          have hW2 : CWeek sg J2 60 (wT W, wK W, wM W, fun j => if j = i1 then wH W i1 - hrsN tv s1 else wH W j) (tP tv).1 := by rw [hJ2]; exact jW.hours
          have hf2 : ∀ q, q ≠ 64 → J2 q = J1 q := fun q c => by rw [hJ2]; exact funext fun k => upI_ne (Or.inl c)
          have ke2 : J2 60 2 = nI (wT W) := hW2.2.1
          obtain ⟨-, -, ke3, ⟨kM2, kcM⟩, -, -⟩ := id hW2
          have hlast : ∀ v : Nat, V X (ZQ X (stQ sg I A B tv (x, (wT W, wK W, addTB (wM W) v s1 i1, fun j => if j = i1 then wH W i1 - hrsN tv s1 else wH W j), pushS 8 P W, K, nI (wM W).1))) sg J2 161 [some (rf g 0), some (.int (nI i1)), some (.int (nI s1)), some (.int (nI f1)), some (.int t), some (.int (nI (tsy f1 (wT W))))] [.int (nI v), rf g 61] := by
            intro v
            refine V_iload_n rfl dX5_carve_161 ?_
            refine V_iload_n rfl dX5_carve_162 ?_
            refine cl_X5_64 (C_add kM2) (by assumption) rfl rfl ft0 (Nat.le_of_ble_eq_true rfl) dX5_carve_163 (fun rr s9 J3 hq => ?_)
            obtain ⟨hq0, hq⟩ := hq
            have hq0 := hq0.symm
            subst hq0
            rcases hq with ⟨a1, rfl, a2, a3, a4, a5⟩ | ⟨a1, -, -⟩
            · show V X _ sg J3 166 _ [.int (nI 1)]
              refine V_pop rfl dX5_carve_166 ?_
              refine V_aload_n rfl dX5_carve_167 ?_
              refine gf_X5_31 (by assumption) (by assumption) rfl dX5_carve_168 ?_
              refine gf_X5_122 (by assumption) (by assumption) rfl dX5_carve_171 ?_
              refine cf_X5_84 (C_size a2) (by assumption) rfl rfl ft0 (Nat.le_of_ble_eq_true rfl) dX5_carve_174 ?_
              refine V_iconst (nI 1) (by decide) dX5_carve_177 ?_
              refine V_isubN (by omega) dX5_carve_178 ?_
              refine V_iret rfl rfl rfl ?_ dX5_carve_179
              unfold stQ
              refine ⟨?_, rfl, hC1.now (CWeek.marks hW2 a2 (kcM.add (by decide) a3 a4) a5) (fun q hq => ?_), fun q hq => ?_⟩
              · rw [Nat.add_sub_cancel]
              · rw [a5 q (by omega) (by omega), hf2 q (by omega)]
              · rw [a5 q (by omega) (by omega), hf2 q (by omega)]; exact q2 q (by omega)
            · exact absurd a1 (by omega)
          refine V_iload_n rfl dX5_carve_126 ?_
          refine V_aload_n rfl dX5_carve_127 ?_
          refine gf_X5_31 (by assumption) (by assumption) rfl dX5_carve_128 ?_
          refine gfe_X5_125 (by assumption) (by assumption) rfl dX5_carve_131 ?_
          refine cf_X5_159 (C_trueSaying (by omega) (by omega)) rfl rfl ft0 (Nat.le_of_ble_eq_true rfl) dX5_carve_134 ?_
          refine V_ist5 rfl rfl dX5_carve_137 ?_
          refine V_aload_n rfl dX5_carve_139 ?_
          refine gf_X5_31 (by assumption) (by assumption) rfl dX5_carve_140 ?_
          refine gf_X5_122 (by assumption) (by assumption) rfl dX5_carve_143 ?_
          refine V_iload rfl dX5_carve_146 ?_
          by_cases ht : t = 0
          · rw [if_pos ht, if_neg (by omega), if_neg (by omega)]
            refine V_if_eq 156 dX5_carve_148 (by decide) (fun _ => ?_) (fun h => absurd ht h)
            refine V_iload rfl dX5_carve_156 ?_
            refine cf_X5_162 (C_opposite) rfl rfl ft0 (Nat.le_of_ble_eq_true rfl) dX5_carve_158 ?_
            exact hlast _
          · rw [if_neg ht, if_neg (by omega), if_neg (by omega)]
            refine V_if_eq 156 dX5_carve_148 (by decide) (fun h => absurd h ht) (fun _ => ?_)
            refine V_iload rfl dX5_carve_151 ?_
            refine V_goto 161 dX5_carve_153 (by decide) ?_
            exact hlast _
        · skip
          refine V_bipush (-3) (by decide) dX5_carve_96 ?_
          refine V_iret rfl rfl rfl ?_ dX5_carve_98
          unfold stQ
          rw [if_neg (by omega), if_pos (by omega)]
          exact ⟨rfl, rfl, hC0, fun q _ => rfl⟩
      · skip
        refine V_bipush (-2) (by decide) dX5_carve_80 ?_
        refine V_iret rfl rfl rfl ?_ dX5_carve_82
        unfold stQ
        rw [if_pos (by omega)]
        exact ⟨rfl, rfl, hC0, fun q _ => rfl⟩
  refine V_aload_n rfl dX5_carve_0 ?_
  refine gf_X5_41 (by assumption) (by assumption) rfl dX5_carve_1 ?_
  refine gf_X5_87 (by assumption) (by assumption) rfl dX5_carve_4 ?_
  refine V_iload_n rfl dX5_carve_7 ?_
  refine cf_X5_108 (C_has hPt) (by assumption) rfl rfl ft0 (Nat.le_of_ble_eq_true rfl) dX5_carve_8 ?_
  refine V_if_eqB 39 dX5_carve_11 (by decide) (fun h11 => ?_) (fun h11 => ?_)
  · skip
    refine V_iconst (-1) (by decide) dX5_carve_39 ?_
    refine V_iret rfl rfl rfl ?_ dX5_carve_40
    unfold stQ
    rw [show gCarve x tv W P K _ _ _ t = (x, W, P, K, -1) from by first | exact ifb_neg h11 | exact (ifb_pos hi (by omega) rfl).trans (ifb_neg h25) | exact (ifb_pos hi (by omega) rfl).trans ((ifb_pos hs (by omega) rfl).trans (ifb_neg h36))]
    exact ⟨rfl, rfl, hC0, fun q _ => rfl⟩
  · skip
    obtain ⟨i1, hi, rfl⟩ := bel_ex (by omega) h11
    refine V_aload_n rfl dX5_carve_14 ?_
    refine gf_X5_41 (by assumption) (by assumption) rfl dX5_carve_15 ?_
    refine gf_X5_90 (by assumption) (by assumption) rfl dX5_carve_18 ?_
    refine V_iload_n rfl dX5_carve_21 ?_
    refine cf_X5_108 (C_has hSt) (by assumption) rfl rfl ft0 (Nat.le_of_ble_eq_true rfl) dX5_carve_22 ?_
    refine V_if_eqB 39 dX5_carve_25 (by decide) (fun h25 => ?_) (fun h25 => ?_)
    · skip
      refine V_iconst (-1) (by decide) dX5_carve_39 ?_
      refine V_iret rfl rfl rfl ?_ dX5_carve_40
      unfold stQ
      rw [show gCarve x tv W P K _ _ _ t = (x, W, P, K, -1) from by first | exact ifb_neg h11 | exact (ifb_pos hi (by omega) rfl).trans (ifb_neg h25) | exact (ifb_pos hi (by omega) rfl).trans ((ifb_pos hs (by omega) rfl).trans (ifb_neg h36))]
      exact ⟨rfl, rfl, hC0, fun q _ => rfl⟩
    · skip
      obtain ⟨s1, hs, rfl⟩ := bel_ex (by omega) h25
      refine V_aload_n rfl dX5_carve_28 ?_
      refine gf_X5_41 (by assumption) (by assumption) rfl dX5_carve_29 ?_
      refine V_iload_n rfl dX5_carve_32 ?_
      refine cf_X5_145 (C_isFact (tv := tv) tk tF5) (by assumption) rfl rfl ft0 (Nat.le_of_ble_eq_true rfl) dX5_carve_33 ?_
      refine V_if_neB 41 dX5_carve_36 (by decide) (fun h36 => ?_) (fun h36 => ?_)
      · skip
        obtain ⟨f1, hf, rfl⟩ := bel_ex (by omega) h36
        exact hfin i1 s1 f1 hi hs hf rfl rfl rfl
      · skip
        refine V_iconst (-1) (by decide) dX5_carve_39 ?_
        refine V_iret rfl rfl rfl ?_ dX5_carve_40
        unfold stQ
        rw [show gCarve x tv W P K _ _ _ t = (x, W, P, K, -1) from by first | exact ifb_neg h11 | exact (ifb_pos hi (by omega) rfl).trans (ifb_neg h25) | exact (ifb_pos hi (by omega) rfl).trans ((ifb_pos hs (by omega) rfl).trans (ifb_neg h36))]
        exact ⟨rfl, rfl, hC0, fun q _ => rfl⟩
theorem X_chisel {i m : Int32} (hC : CSt sg I A B x tv W P K) (hS : STok x tv W P K) : Ct m_X5_chisel g [rf g 0, .int i, .int m] sg I (stQ sg I A B tv (gChisel x tv W P K i m)) := by
  have hC0 := hC
  obtain ⟨hX0, hok, hnp, hns, ⟨hWok, hwk⟩, hPok, hKok⟩ := hS
  obtain ⟨⟨kc, c0, c1, c2, c3, c4, c5, c6, hAB, kt, u0, u1⟩, ⟨hXt, cX⟩, ⟨nn, hNt⟩, hPs, hKs, hW, hD, ⟨hT, hWl⟩, hB⟩ := hC
  have hmk := hWok.2.2.2.1
  have hn12 := hmk.1
  have hF1 := hok.1
  have hF8 := hok.2.1
  have h256 := p2_le8 hF8
  have h16 := p2_le16 hF8
  have hnw := nw_le hF8
  have hnw0 := nw_pos hWok
  have htr := hWok.1
  obtain ⟨⟨wk, w0, w1⟩, we2, we3, ⟨hM, cM⟩, hH, cH⟩ := id hW
  obtain ⟨⟨tk, t0, t1, t2, t3, t4⟩, tF5, tX6, ⟨hLt, cL⟩, ⟨hPt, cP⟩, ⟨hSt, cS⟩, ⟨hBt, cB⟩⟩ := id hT
  obtain ⟨hWt, cW⟩ := id hWl
  have kX := hXt.1
  have kM := hM.1
  have kH := hH.1
  have kL := hLt.1
  have kP := hPt.1
  have kS := hSt.1
  have kB := hBt.1
  have kW := hWt.1
  have nL10 := hLt.2.2.2.2.2.2.1
  have nP5 := hPt.2.2.2.2.2.2.1
  have nS5 := hSt.2.2.2.2.2.2.1
  have nB6 := hBt.2.2.2.2.2.2.1
  have kP0 := hPs.1.1
  have kK0 := hKs.1.1
  have hso := hok.2.2.2.2.2.1
  refine Ct.of rfl (Nat.le_of_ble_eq_true rfl) fun X => ?_
  show V X _ sg I 0 [some (rf g 0), some (.int i), some (.int m), none] []
  have hfin : ∀ i1 m1, i1 < (tP tv).1 → m1 < (wM W).1 → i = nI i1 → m = nI m1 →
      V X (ZQ X (stQ sg I A B tv (gChisel x tv W P K i m))) sg I 30 [some (rf g 0), some (.int (nI i1)), some (.int (nI m1)), none] [] := by
    intro i1 m1 hi hm ei em
    have hg : gChisel x tv W P K i m = if wH W i1 < hrsN tv ((wM W).2 m1 1) then (x, W, P, K, -2) else
        (x, (wT W, wK W, rmTB (wM W) m1, fun j => if j = i1 then wH W i1 - hrsN tv ((wM W).2 m1 1) else wH W j), pushS 8 P W, K, nI ((wM W).1 - 1)) := by
      unfold gChisel
      rw [ifb_pos hi (by omega) ei, ifb_pos hm (by omega) em]
    rw [hg]
    have hH1 := cH i1 hi
    have hM1 := cM m1 hm 1 (by decide)
    have hst := (hmk.2.1 m1 hm).2.1
    have hhl : wH W i1 ≤ 40 := hWok.2.2.2.2 i1 hi
    have hrl : hrsN tv ((wM W).2 m1 1) ≤ 9 := by have := hso _ hst; unfold hrsN; split <;> omega
    refine V_aload_n rfl dX5_chisel_30 ?_
    refine gf_X5_41 (by assumption) (by assumption) rfl dX5_chisel_31 ?_
    refine V_aload_n rfl dX5_chisel_34 ?_
    refine gf_X5_31 (by assumption) (by assumption) rfl dX5_chisel_35 ?_
    refine gf_X5_122 (by assumption) (by assumption) rfl dX5_chisel_38 ?_
    refine V_iload_n rfl dX5_chisel_41 ?_
    refine V_iconst (nI 1) (by decide) dX5_chisel_42 ?_
    refine cf_X5_111 (C_get (c := 1) hM (by omega) (by decide)) (by assumption) rfl rfl ft0 (Nat.le_of_ble_eq_true rfl) dX5_chisel_43 ?_
    rw [if_pos hm, hM1]
    refine cf_X5_148 (C_hoursAt hT hok hst) (by assumption) rfl rfl ft0 (Nat.le_of_ble_eq_true rfl) dX5_chisel_46 ?_
    refine V_ist3 rfl rfl dX5_chisel_49 ?_
    refine V_aload_n rfl dX5_chisel_50 ?_
    refine gf_X5_31 (by assumption) (by assumption) rfl dX5_chisel_51 ?_
    refine gf_X5_115 (by assumption) (by assumption) rfl dX5_chisel_54 ?_
    refine V_iload_n rfl dX5_chisel_57 ?_
    refine V_iconst (nI 0) (by decide) dX5_chisel_58 ?_
    refine cf_X5_111 (C_get (c := 0) hH (by omega) (by decide)) (by assumption) rfl rfl ft0 (Nat.le_of_ble_eq_true rfl) dX5_chisel_59 ?_
    rw [if_pos hi, hH1]
    refine V_iload_n rfl dX5_chisel_62 ?_
    refine V_icmp_geN 69 dX5_chisel_63 (by decide) (by omega) (by omega) (fun h63 => ?_) (fun h63 => ?_)
    · skip
      refine V_aload_n rfl dX5_chisel_69 ?_
      refine gf_X5_21 (by assumption) (by assumption) rfl dX5_chisel_70 ?_
      refine V_aload_n rfl dX5_chisel_73 ?_
      refine gf_X5_31 (by assumption) (by assumption) rfl dX5_chisel_74 ?_
      refine cl_X5_135 (C_push hPs hW hn12 nP5 (Or.inr (by decide))) (by assumption) rfl rfl ft0 (Nat.le_of_ble_eq_true rfl) dX5_chisel_77 (fun rr s9 J1 hq => ?_)
      obtain ⟨rfl, hq0, q1, q2⟩ := hq
      have hq0 := hq0.symm
      subst hq0
      show V X _ sg J1 80 _ []
      have hC1 := hC0.past q1 q2
      obtain ⟨-, jXt0, -, jPs, jKs, jW, jD, ⟨jT, jWl⟩, -⟩ := id hC1
      obtain ⟨-, je2, je3, ⟨jM, jcM⟩, jH, jcH⟩ := id jW
      obtain ⟨-, jF5, jX6, -, ⟨jPt, jcP⟩, ⟨jSt, jcS⟩, -⟩ := id jT
      refine V_aload_n rfl dX5_chisel_80 ?_
      refine gf_X5_31 (by assumption) (by assumption) rfl dX5_chisel_81 ?_
      refine V_iload_n rfl dX5_chisel_84 ?_
      refine V_iload_n rfl dX5_chisel_85 ?_
      refine cf_X5_155 (C_spend jW hi (by omega)) (by assumption) rfl rfl ft0 (Nat.le_of_ble_eq_true rfl) dX5_chisel_86 ?_
      obtain ⟨J2, hJ2⟩ : ∃ J2, J2 = upI J1 (60 + 4) (i1 * 1 + 0) (nI (wH W i1 - hrsN tv ((wM W).2 m1 1))) := ⟨_, rfl⟩
      rw [← hJ2]
      have hW2 : CWeek sg J2 60 (wT W, wK W, wM W, fun j => if j = i1 then wH W i1 - hrsN tv ((wM W).2 m1 1) else wH W j) (tP tv).1 := by rw [hJ2]; exact jW.hours
      have hf2 : ∀ q, q ≠ 64 → J2 q = J1 q := fun q c => by rw [hJ2]; exact funext fun k => upI_ne (Or.inl c)
      obtain ⟨-, -, ke3, ⟨kM2, kcM⟩, -, -⟩ := id hW2
      refine V_aload_n rfl dX5_chisel_89 ?_
      refine gf_X5_31 (by assumption) (by assumption) rfl dX5_chisel_90 ?_
      refine gf_X5_122 (by assumption) (by assumption) rfl dX5_chisel_93 ?_
      refine V_iload_n rfl dX5_chisel_96 ?_
      refine cl_X5_165 (C_remove kM2 hm) (by assumption) rfl rfl ft0 (Nat.le_of_ble_eq_true rfl) dX5_chisel_97 (fun rr s9 J3 hq => ?_)
      obtain ⟨rfl, hq0, a2, a3, a4, a5⟩ := hq
      have hq0 := hq0.symm
      subst hq0
      show V X _ sg J3 100 _ []
      refine V_aload_n rfl dX5_chisel_100 ?_
      refine gf_X5_31 (by assumption) (by assumption) rfl dX5_chisel_101 ?_
      refine gf_X5_122 (by assumption) (by assumption) rfl dX5_chisel_104 ?_
      refine cf_X5_84 (C_size a2) (by assumption) rfl rfl ft0 (Nat.le_of_ble_eq_true rfl) dX5_chisel_107 ?_
      refine V_iret rfl rfl rfl ?_ dX5_chisel_110
      unfold stQ
      rw [if_neg (by omega)]
      refine ⟨rfl, rfl, hC1.now (CWeek.marks (tb := rmTB (wM W) m1) hW2 a2 (Cel.rm (sg := sg) (t := 0) (mx := 0) kcM hm a3 a4) a5) (fun q hq => ?_), fun q hq => ?_⟩
      · rw [a5 q (by omega) (by omega), hf2 q (by omega)]
      · rw [a5 q (by omega) (by omega), hf2 q (by omega)]; exact q2 q (by omega)
    · skip
      refine V_bipush (-2) (by decide) dX5_chisel_66 ?_
      refine V_iret rfl rfl rfl ?_ dX5_chisel_68
      unfold stQ
      rw [if_pos (by omega)]
      exact ⟨rfl, rfl, hC0, fun q _ => rfl⟩
  refine V_aload_n rfl dX5_chisel_0 ?_
  refine gf_X5_41 (by assumption) (by assumption) rfl dX5_chisel_1 ?_
  refine gf_X5_87 (by assumption) (by assumption) rfl dX5_chisel_4 ?_
  refine V_iload_n rfl dX5_chisel_7 ?_
  refine cf_X5_108 (C_has hPt) (by assumption) rfl rfl ft0 (Nat.le_of_ble_eq_true rfl) dX5_chisel_8 ?_
  refine V_if_eqB 28 dX5_chisel_11 (by decide) (fun h11 => ?_) (fun h11 => ?_)
  · skip
    refine V_iconst (-1) (by decide) dX5_chisel_28 ?_
    refine V_iret rfl rfl rfl ?_ dX5_chisel_29
    unfold stQ
    rw [show gChisel x tv W P K _ _ = (x, W, P, K, -1) from by first | exact ifb_neg h11 | exact (ifb_pos hi (by omega) rfl).trans (ifb_neg h25)]
    exact ⟨rfl, rfl, hC0, fun q _ => rfl⟩
  · skip
    obtain ⟨i1, hi, rfl⟩ := bel_ex (by omega) h11
    refine V_aload_n rfl dX5_chisel_14 ?_
    refine gf_X5_31 (by assumption) (by assumption) rfl dX5_chisel_15 ?_
    refine gf_X5_122 (by assumption) (by assumption) rfl dX5_chisel_18 ?_
    refine V_iload_n rfl dX5_chisel_21 ?_
    refine cf_X5_108 (C_has hM) (by assumption) rfl rfl ft0 (Nat.le_of_ble_eq_true rfl) dX5_chisel_22 ?_
    refine V_if_neB 30 dX5_chisel_25 (by decide) (fun h25 => ?_) (fun h25 => ?_)
    · skip
      obtain ⟨m1, hm, rfl⟩ := bel_ex (by omega) h25
      exact hfin i1 m1 hi hm rfl rfl
    · skip
      refine V_iconst (-1) (by decide) dX5_chisel_28 ?_
      refine V_iret rfl rfl rfl ?_ dX5_chisel_29
      unfold stQ
      rw [show gChisel x tv W P K _ _ = (x, W, P, K, -1) from by first | exact ifb_neg h11 | exact (ifb_pos hi (by omega) rfl).trans (ifb_neg h25)]
      exact ⟨rfl, rfl, hC0, fun q _ => rfl⟩
end CCUT
/-! what stays well formed -/
theorem ifb_ind {x : Int32} {n : Nat} {α : Type} {a : Nat → α} {b : α} {p : α → Prop} (hn : n < 2147483648) (h1 : ∀ j, j < n → p (a j)) (h2 : p b) : p (ifb x n a b) := by
  by_cases h : bel x n
  · obtain ⟨j, hj, e⟩ := bel_ex hn h
    rw [ifb_pos hj hn e]; exact h1 j hj
  · rw [ifb_neg h]; exact h2
theorem pushS_ok {tv : TV} {M : Nat} {v : SV} {W : WV} (h : v.1 ≤ M ∧ ∀ i, i < v.1 → WKok tv (v.2 i)) (hW : WKok tv W) : (pushS M v W).1 ≤ M ∧ ∀ i, i < (pushS M v W).1 → WKok tv ((pushS M v W).2 i) := by
  unfold pushS
  by_cases c : v.1 < M
  · rw [if_pos c]
    refine ⟨c, fun i hi => ?_⟩
    show WKok tv (if i = v.1 then W else v.2 i)
    have hi2 : i < v.1 + 1 := hi
    by_cases e : i = v.1
    · rw [if_pos e]; exact hW
    · rw [if_neg e]; exact h.2 i (by omega)
  · rw [if_neg c]
    refine ⟨h.1, fun i hi => ?_⟩
    show WKok tv (if i + 1 = v.1 then W else v.2 (i + 1))
    have hi2 : i < v.1 := hi
    by_cases e : i + 1 = v.1
    · rw [if_pos e]; exact hW
    · rw [if_neg e]; exact h.2 (i + 1) (by omega)
theorem MKok.rm {T : TV} {tb : TB} {kk m : Nat} (h : MKok T tb kk) (hm : m < tb.1) : MKok T (rmTB tb m) kk := by
  obtain ⟨h1, h2, h3⟩ := h
  refine ⟨Nat.le_trans (Nat.sub_le _ _) h1, fun j hj => ?_, fun s hs => ?_⟩
  · have hj2 : j < tb.1 - 1 := hj
    show (if j < m then tb.2 j 0 else tb.2 (j + 1) 0) < _ ∧ (if j < m then tb.2 j 1 else tb.2 (j + 1) 1) < _ ∧ (if j < m then tb.2 j 2 else tb.2 (j + 1) 2) < _ ∧ (if j < m then tb.2 j 3 else tb.2 (j + 1) 3) ≤ _
    by_cases c : j < m
    · simp only [if_pos c]; exact h2 j (by omega)
    · simp only [if_neg c]; exact h2 (j + 1) (by omega)
  · have e : tb.1 = (tb.1 - 1) + 1 := by omega
    have h4 := h3 s hs
    rw [e, cnt_rm (p := fun k => decide (tb.2 k 1 = s)) (q := fun k => decide ((rmTB tb m).2 k 1 = s)) m (by omega) (fun k hk => by show decide ((if k < m then tb.2 k 1 else tb.2 (k + 1) 1) = s) = _; rw [if_pos hk]) (fun k hk => by show decide ((if k < m then tb.2 k 1 else tb.2 (k + 1) 1) = s) = _; rw [if_neg (by omega)])] at h4
    show cnt (tb.1 - 1) _ ≤ _
    omega
def RSok (tv : TV) (r0 : RS) : Prop := STok r0.1 tv r0.2.1 r0.2.2.1 r0.2.2.2.1
section OKS
variable {x : XV} {tv : TV} {W : WV} {P K : SV}
theorem ok_write {l : Int32} (hS : STok x tv W P K) : RSok tv (gWrite x W P K l) := by
  unfold gWrite
  split
  · rename_i hin
    split
    · rename_i h200
      obtain ⟨⟨a, b⟩, c⟩ := hS
      refine ⟨⟨h200, fun i hi => ?_⟩, c⟩
      have hi2 : i < x.1 + 1 := hi
      show 32 ≤ (if i = x.1 then ix l else x.2 i) ∧ (if i = x.1 then ix l else x.2 i) ≤ 126
      by_cases e : i = x.1
      · rw [if_pos e]
        have hl0 : ¬ l < 0 := fun z => absurd (Int32.lt_of_lt_of_le z (show (0 : Int32) ≤ nI 32 from by decide)) (by rw [Int32.not_lt]; exact hin.1)
        obtain ⟨m, hm, rfl⟩ := nn_ex hl0
        rw [ix_nI hm]
        exact ⟨(nI_leI (by decide) hm).mp hin.1, (nI_leI hm (by decide)).mp hin.2⟩
      · rw [if_neg e]; exact b i (by omega)
    · exact hS
  · exact hS
theorem ok_wipe (hS : STok x tv W P K) : RSok tv (gWipe x W P K) := ⟨⟨Nat.zero_le _, fun i hi => absurd hi (Nat.not_lt_zero i)⟩, hS.2⟩
theorem ok_deed {s : Int32} (hS : STok x tv W P K) : RSok tv (gDeed x tv W P K s) := by
  obtain ⟨a, b, c, d, e, f, k⟩ := id hS
  have h256 := p2_le8 b.2.1
  refine ifb_ind (p := RSok tv) (by omega) (fun j hj => ?_) hS
  split
  · rename_i hl
    exact ⟨a, b, c, d, ⟨⟨hj, hl, e.1.2.2⟩, e.2⟩, pushS_ok f e, k⟩
  · exact hS
theorem ok_bell (hS : STok x tv W P K) : RSok tv (gBell x tv W P K) := by
  obtain ⟨a, b, c, d, e, f, k⟩ := id hS
  unfold gBell
  split
  · rename_i hl
    exact ⟨a, b, c, d, ⟨WVok.ring b e.1 (by omega), hl⟩, pushS_ok f e, k⟩
  · exact hS
theorem ok_keep (hS : STok x tv W P K) : RSok tv (gKeep x W P K) := by
  obtain ⟨a, b, c, d, e, f, k⟩ := id hS
  unfold gKeep
  split
  · exact ⟨a, b, c, d, e, f, pushS_ok k e⟩
  · exact hS
theorem ok_undo (hS : STok x tv W P K) : RSok tv (gUndo x W P K) := by
  obtain ⟨a, b, c, d, e, f, k⟩ := id hS
  unfold gUndo
  split
  · exact hS
  · refine ⟨a, b, c, d, f.2 _ (by omega), ⟨?_, fun i hi => ?_⟩, k⟩
    · show P.1 - 1 ≤ 8; omega
    · have : i < P.1 - 1 := hi
      exact f.2 i (by omega)
theorem ok_back (hS : STok x tv W P K) : RSok tv (gBack x W P K) := by
  obtain ⟨a, b, c, d, e, f, k⟩ := id hS
  unfold gBack
  split
  · exact hS
  · refine ⟨a, b, c, d, k.2 _ (by omega), ⟨Nat.zero_le _, fun i hi => absurd hi (Nat.not_lt_zero i)⟩, ⟨?_, fun i hi => ?_⟩⟩
    · show K.1 - 1 ≤ 2; omega
    · have : i < K.1 - 1 := hi
      exact k.2 i (by omega)
theorem ok_carve {i s f t : Int32} (hS : STok x tv W P K) : RSok tv (gCarve x tv W P K i s f t) := by
  obtain ⟨a, b, c, d, e, p, k⟩ := id hS
  have nP5 := b.2.2.2.2.2.2.2.2.1
  have nS5 := b.2.2.2.2.2.2.2.2.2.1
  have hF8 := b.2.1
  refine ifb_ind (p := RSok tv) (by omega) (fun i1 hi => ?_) hS
  refine ifb_ind (p := RSok tv) (by omega) (fun s1 hs => ?_) hS
  refine ifb_ind (p := RSok tv) (by omega) (fun f1 hf => ?_) hS
  split
  · exact hS
  · split
    · exact hS
    · rename_i h1 h2
      have hn12 := e.1.2.2.2.1.1
      have hfr : 0 < freeN tv W s1 := by omega
      refine ⟨a, b, c, d, ⟨⟨e.1.1, e.1.2.1, e.1.2.2.1, e.1.2.2.2.1.add (by omega) ?_ hs hi ?_, fun j hj => ?_⟩, e.2⟩, pushS_ok p e, k⟩
      · split
        · exact xor1_lt (tsy_lt hf)
        · exact tsy_lt hf
      · unfold freeN at hfr
        have : cnt (wM W).1 (stB W s1) = cnt (wM W).1 (fun m => decide ((wM W).2 m 1 = s1)) := rfl
        omega
      · show (if j = i1 then wH W i1 - hrsN tv s1 else wH W j) ≤ 40
        have := e.1.2.2.2.2 i1 hi
        have := e.1.2.2.2.2 j hj
        split <;> omega
theorem ok_chisel {i m : Int32} (hS : STok x tv W P K) : RSok tv (gChisel x tv W P K i m) := by
  obtain ⟨a, b, c, d, e, p, k⟩ := id hS
  have nP5 := b.2.2.2.2.2.2.2.2.1
  have hn12 := e.1.2.2.2.1.1
  refine ifb_ind (p := RSok tv) (by omega) (fun i1 hi => ?_) hS
  refine ifb_ind (p := RSok tv) (by omega) (fun m1 hm => ?_) hS
  split
  · exact hS
  · refine ⟨a, b, c, d, ⟨⟨e.1.1, e.1.2.1, e.1.2.2.1, MKok.rm e.1.2.2.2.1 hm, fun j hj => ?_⟩, e.2⟩, pushS_ok p e, k⟩
    show (if j = i1 then wH W i1 - hrsN tv ((wM W).2 m1 1) else wH W j) ≤ 40
    have := e.1.2.2.2.2 i1 hi
    have := e.1.2.2.2.2 j hj
    split <;> omega
end OKS
