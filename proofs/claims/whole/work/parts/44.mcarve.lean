/-! CarvedWeeksModel: carve, chisel -/
section MCARVE
variable {g : GC} {sg : SG} {I : IM} {x : XV} {tv : TV} {W : WV} {P K : SV} {np : Nat}
theorem SlW.hr {s i v : Nat} (h : SlW I s W np) (hi : i < np) (h5 : np ≤ 5) : SlW (upI I 100 (56 * s + 3 + i) (nI v)) s (wT W, wK W, wM W, fun j => if j = i then v else wH W j) np := by
  obtain ⟨h1, h2, h3, h4, h6⟩ := h
  refine ⟨(upI_ne (Or.inr (by omega))).trans h1, (upI_ne (Or.inr (by omega))).trans h2, (upI_ne (Or.inr (by omega))).trans h3, fun j hj => ?_, fun k hk c hc => (upI_ne (Or.inr (by omega))).trans (h6 k hk c hc)⟩
  show _ = nI (if j = i then v else wH W j)
  by_cases e : j = i
  · rw [if_pos e, e]; exact upI_eq
  · rw [if_neg e, upI_ne (Or.inr (by omega))]; exact h4 j hj
theorem D_carve {i s f t : Int32} (hM : MSt sg I x tv W P K) (hS : STok x tv W P K) : Ct m_X6_carve g [rf g 92, .int i, .int s, .int f, .int t] sg I (mstQ sg I tv (gCarve x tv W P K i s f t)) := by
  have hM0 := hM
  have hS0 := hS
  obtain ⟨hX0, hok, hnp, hns, ⟨hWok, hwk⟩, hPok, hKok⟩ := hS
  obtain ⟨hK, ⟨mlen, mtx⟩, hT, hW, mkept, mKs, mdone, mPs⟩ := hM
  have hK0 := hK
  have hT0 := hT
  have hW0 := hW
  obtain ⟨m0, mR1, mR3, mR4, mR5, mR6, mR7, mR8, mR10, mR16, mR17, mA93, mA94, mA95, mA96, mA97, mA98, mA99, mA100, mA101, mA102⟩ := hK
  obtain ⟨mF, mnL, mnP, mnS, mnB, mL, mP, mS, mB, mWd, mnw⟩ := hT
  have hF1 := hok.1
  have hF8 := hok.2.1
  have h256 := p2_le8 hF8
  have h16 := p2_le16 hF8
  have nL10 := hok.2.2.2.2.2.2.2.1
  have nP5 := hok.2.2.2.2.2.2.2.2.1
  have nS5 := hok.2.2.2.2.2.2.2.2.2.1
  have nB6 := hok.2.2.2.2.2.2.2.2.2.2
  have hmk := hWok.2.2.2.1
  have hn12 := hmk.1
  have htr := hWok.1
  have hnw := nw_le hF8
  have hnw0 := nw_pos hWok
  obtain ⟨wT0, wK0, wM0, wH0, wC0⟩ := id hW
  have hpk := pushS_ok (M := 8) hPok (⟨hWok, hwk⟩ : WKok tv W)
  have hso := hok.2.2.2.2.2.1
  refine Ct.of rfl (Nat.le_of_ble_eq_true rfl) fun X => ?_
  show V X _ sg I 0 [some (rf g 92), some (.int i), some (.int s), some (.int f), some (.int t), none] []
  have hfin : ∀ i1 s1 f1, i1 < (tP tv).1 → s1 < (tS tv).1 → f1 < tF tv → i = nI i1 → s = nI s1 → f = nI f1 →
      V X (ZQ X (mstQ sg I tv (gCarve x tv W P K i s f t))) sg I 26 [some (rf g 92), some (.int (nI i1)), some (.int (nI s1)), some (.int (nI f1)), some (.int t), none] [] := by
    intro i1 s1 f1 hi hs hf ei es ef
    have hg : gCarve x tv W P K i s f t = if wH W i1 < hrsN tv s1 ∨ freeN tv W s1 = 0 then (x, W, P, K, -2) else if (wM W).1 = 12 then (x, W, P, K, -3) else
        (x, (wT W, wK W, addTB (wM W) (if t = 0 then tsy f1 (wT W) ^^^ 1 else tsy f1 (wT W)) s1 i1, fun j => if j = i1 then wH W i1 - hrsN tv s1 else wH W j), pushS 8 P W, K, nI (wM W).1) := by
      unfold gCarve
      rw [ifb_pos hi (by omega) ei, ifb_pos hs (by omega) es, ifb_pos hf (by omega) ef]
    rw [hg]
    have hhl : wH W i1 ≤ 40 := hWok.2.2.2.2 i1 hi
    have hrl : hrsN tv s1 ≤ 9 := by have := hso s1 hs; unfold hrsN; split <;> omega
    have hfl : freeN tv W s1 ≤ 6 := by have := hso s1 hs; unfold freeN; omega
    refine V_aload_n rfl dX6_carve_26 ?_
    refine gf_X6_33 (by assumption) (by assumption) rfl dX6_carve_27 ?_
    refine V_iconst (nI 3) (by decide) dX6_carve_30 ?_
    refine V_iload_n rfl dX6_carve_31 ?_
    refine V_iaddN dX6_carve_32 ?_
    refine V_iald _ (by assumption) rfl (by omega) (by omega) dX6_carve_33 ?_
    refine V_topi ((congrArg (I 100) (by omega)).trans (wH0 i1 hi)) ?_
    refine V_aload_n rfl dX6_carve_34 ?_
    refine V_iload_n rfl dX6_carve_35 ?_
    refine cf_X6_155 (D_costs hK0 hT0 hok hs) (by assumption) rfl rfl ft0 (Nat.le_of_ble_eq_true rfl) dX6_carve_36 ?_
    refine V_icmp_ltN 51 dX6_carve_39 (by decide) (by omega) (by omega) (fun h39 => ?_) (fun h39 => ?_)
    · skip
      refine V_bipush (-2) (by decide) dX6_carve_51 ?_
      refine V_iret rfl rfl rfl ?_ dX6_carve_53
      unfold mstQ
      rw [if_pos (by omega)]
      exact ⟨rfl, rfl, hM0, fun q _ => rfl⟩
    · skip
      refine V_aload_n rfl dX6_carve_42 ?_
      refine V_iconst (nI 0) (by decide) dX6_carve_43 ?_
      refine V_iload_n rfl dX6_carve_44 ?_
      refine cf_X6_127 (D_free hK0 hT0 hok hW0 (by decide) hmk hs) (by assumption) rfl rfl ft0 (Nat.le_of_ble_eq_true rfl) dX6_carve_45 ?_
      refine V_if_neN 54 dX6_carve_48 (by decide) (by omega) (fun h48 => ?_) (fun h48 => ?_)
      · skip
        refine V_aload_n rfl dX6_carve_54 ?_
        refine gf_X6_33 (by assumption) (by assumption) rfl dX6_carve_55 ?_
        refine V_iconst (nI 2) (by decide) dX6_carve_58 ?_
        refine V_iald _ (by assumption) rfl (by omega) (by omega) dX6_carve_59 ?_
        refine V_topi (wM0) ?_
        refine V_bipush (nI 12) (by decide) dX6_carve_60 ?_
        refine V_icmp_neN 68 dX6_carve_62 (by decide) (by omega) (by omega) (fun h62 => ?_) (fun h62 => ?_)
        · skip
          refine V_aload_n rfl dX6_carve_68 ?_
          refine cl_X6_146 (D_push hM0 hS0) (by assumption) rfl rfl ft0 (Nat.le_of_ble_eq_true rfl) dX6_carve_69 (fun rr s9 J1 hq => ?_)
          obtain ⟨rfl, hq0, hM1, hfr, -⟩ := hq
          have hq0 := hq0.symm
          subst hq0
          show V X _ sg J1 72 _ []
          obtain ⟨-, -, hT1, hW1, -, -, -, -⟩ := id hM1
          refine V_aload_n rfl dX6_carve_72 ?_
          refine gf_X6_33 (by assumption) (by assumption) rfl dX6_carve_73 ?_
          refine V_iconst (nI 3) (by decide) dX6_carve_76 ?_
          refine V_iload_n rfl dX6_carve_77 ?_
          refine V_iaddN dX6_carve_78 ?_
          refine V_dup2 rfl rfl dX6_carve_79 ?_
          refine V_iald _ (by assumption) rfl (by omega) (by omega) dX6_carve_80 ?_
          refine V_topi ((congrArg (J1 100) (by omega)).trans (hW1.2.2.2.1 i1 hi)) ?_
          refine V_aload_n rfl dX6_carve_81 ?_
          refine V_iload_n rfl dX6_carve_82 ?_
          refine cf_X6_155 (D_costs hK0 hT1 hok hs) (by assumption) rfl rfl ft0 (Nat.le_of_ble_eq_true rfl) dX6_carve_83 ?_
          refine V_isubN (by omega) dX6_carve_86 ?_
          refine V_iast _ (by assumption) rfl (by omega) (by omega) dX6_carve_87 ?_
          obtain ⟨J2, hJ2⟩ : ∃ J2, J2 = upI J1 100 (3 + i1) (nI (wH W i1 - hrsN tv s1)) := ⟨_, rfl⟩
          rw [← hJ2]
          have hW2 : SlW J2 0 (wT W, wK W, wM W, fun j => if j = i1 then wH W i1 - hrsN tv s1 else wH W j) (tP tv).1 := by
            rw [hJ2, show 3 + i1 = 56 * 0 + 3 + i1 by omega]; exact hW1.hr hi nP5
          have hf2 : slF J1 J2 0 := by rw [hJ2]; exact slF.up (by omega) (by omega)
          refine V_aload_n rfl dX6_carve_88 ?_
          refine V_iconst (nI 0) (by decide) dX6_carve_89 ?_
          refine V_iload_n rfl dX6_carve_90 ?_
          refine cf_X6_158 (D_trueOf hK0 hW2 (by decide) (by omega) (show wT W < 2147483648 by omega)) (by assumption) rfl rfl ft0 (Nat.le_of_ble_eq_true rfl) dX6_carve_91 ?_
          refine V_ist5 rfl rfl dX6_carve_94 ?_
          refine V_aload_n rfl dX6_carve_96 ?_
          refine V_iconst (nI 0) (by decide) dX6_carve_97 ?_
          refine V_iload rfl dX6_carve_98 ?_
          by_cases ht : t = 0
          · rw [if_pos ht, if_neg (by omega), if_neg (by omega)]
            refine V_if_eq 108 dX6_carve_100 (by decide) (fun _ => ?_) (fun h => absurd ht h)
            refine V_iload rfl dX6_carve_108 ?_
            refine V_iconst (nI 1) (by decide) dX6_carve_110 ?_
            refine V_ixorN dX6_carve_111 ?_
            refine V_iload_n rfl dX6_carve_112 ?_
            refine V_iload_n rfl dX6_carve_113 ?_
            refine cl_X6_161 (D_cuts hK0 hW2 (by decide) (show (wM W).1 < 12 by omega) nP5) (by assumption) rfl rfl ft0 (Nat.le_of_ble_eq_true rfl) dX6_carve_114 (fun rr s9 J3 hq => ?_)
            obtain ⟨rfl, hq0, q1, q2⟩ := hq
            have hq0 := hq0.symm
            subst hq0
            show V X _ sg J3 117 _ [.int (nI (wM W).1)]
            refine V_iret rfl rfl rfl ?_ dX6_carve_117
            exact ⟨rfl, rfl, hM1.slot0 (fun i hi => (hpk.2 i hi).1.2.2.2.1.1) (fun i hi => (hKok.2 i hi).1.2.2.2.1.1) nP5 (hf2.trans q2) q1, fun q hq => (q2.2 q (by omega)).trans ((hf2.2 q (by omega)).trans (hfr q hq))⟩
          · rw [if_neg ht, if_neg (by omega), if_neg (by omega)]
            refine V_if_eq 108 dX6_carve_100 (by decide) (fun h => absurd h ht) (fun _ => ?_)
            refine V_iload rfl dX6_carve_103 ?_
            refine V_goto 112 dX6_carve_105 (by decide) ?_
            refine V_iload_n rfl dX6_carve_112 ?_
            refine V_iload_n rfl dX6_carve_113 ?_
            refine cl_X6_161 (D_cuts hK0 hW2 (by decide) (show (wM W).1 < 12 by omega) nP5) (by assumption) rfl rfl ft0 (Nat.le_of_ble_eq_true rfl) dX6_carve_114 (fun rr s9 J3 hq => ?_)
            obtain ⟨rfl, hq0, q1, q2⟩ := hq
            have hq0 := hq0.symm
            subst hq0
            show V X _ sg J3 117 _ [.int (nI (wM W).1)]
            refine V_iret rfl rfl rfl ?_ dX6_carve_117
            exact ⟨rfl, rfl, hM1.slot0 (fun i hi => (hpk.2 i hi).1.2.2.2.1.1) (fun i hi => (hKok.2 i hi).1.2.2.2.1.1) nP5 (hf2.trans q2) q1, fun q hq => (q2.2 q (by omega)).trans ((hf2.2 q (by omega)).trans (hfr q hq))⟩
        · skip
          refine V_bipush (-3) (by decide) dX6_carve_65 ?_
          refine V_iret rfl rfl rfl ?_ dX6_carve_67
          unfold mstQ
          rw [if_neg (by omega), if_pos (by omega)]
          exact ⟨rfl, rfl, hM0, fun q _ => rfl⟩
      · skip
        refine V_bipush (-2) (by decide) dX6_carve_51 ?_
        refine V_iret rfl rfl rfl ?_ dX6_carve_53
        unfold mstQ
        rw [if_pos (by omega)]
        exact ⟨rfl, rfl, hM0, fun q _ => rfl⟩
  refine V_aload_n rfl dX6_carve_0 ?_
  refine V_iload_n rfl dX6_carve_1 ?_
  refine cf_X6_119 (D_isPerson hK0 hT0 hok) (by assumption) rfl rfl ft0 (Nat.le_of_ble_eq_true rfl) dX6_carve_2 ?_
  refine V_if_eqB 24 dX6_carve_5 (by decide) (fun h5 => ?_) (fun h5 => ?_)
  · skip
    refine V_iconst (-1) (by decide) dX6_carve_24 ?_
    refine V_iret rfl rfl rfl ?_ dX6_carve_25
    unfold mstQ
    rw [show gCarve x tv W P K _ _ _ t = (x, W, P, K, -1) from by first | exact ifb_neg h5 | exact (ifb_pos hi (by omega) rfl).trans (ifb_neg h13) | exact (ifb_pos hi (by omega) rfl).trans ((ifb_pos hs (by omega) rfl).trans (ifb_neg h21))]
    exact ⟨rfl, rfl, hM0, fun q _ => rfl⟩
  · skip
    obtain ⟨i1, hi, rfl⟩ := bel_ex (by omega) h5
    refine V_aload_n rfl dX6_carve_8 ?_
    refine V_iload_n rfl dX6_carve_9 ?_
    refine cf_X6_122 (D_isStone hK0 hT0 hok) (by assumption) rfl rfl ft0 (Nat.le_of_ble_eq_true rfl) dX6_carve_10 ?_
    refine V_if_eqB 24 dX6_carve_13 (by decide) (fun h13 => ?_) (fun h13 => ?_)
    · skip
      refine V_iconst (-1) (by decide) dX6_carve_24 ?_
      refine V_iret rfl rfl rfl ?_ dX6_carve_25
      unfold mstQ
      rw [show gCarve x tv W P K _ _ _ t = (x, W, P, K, -1) from by first | exact ifb_neg h5 | exact (ifb_pos hi (by omega) rfl).trans (ifb_neg h13) | exact (ifb_pos hi (by omega) rfl).trans ((ifb_pos hs (by omega) rfl).trans (ifb_neg h21))]
      exact ⟨rfl, rfl, hM0, fun q _ => rfl⟩
    · skip
      obtain ⟨s1, hs, rfl⟩ := bel_ex (by omega) h13
      refine V_aload_n rfl dX6_carve_16 ?_
      refine V_iload_n rfl dX6_carve_17 ?_
      refine cf_X6_152 (D_isFact hK0 hT0 hok) (by assumption) rfl rfl ft0 (Nat.le_of_ble_eq_true rfl) dX6_carve_18 ?_
      refine V_if_neB 26 dX6_carve_21 (by decide) (fun h21 => ?_) (fun h21 => ?_)
      · skip
        obtain ⟨f1, hf, rfl⟩ := bel_ex (by omega) h21
        exact hfin i1 s1 f1 hi hs hf rfl rfl rfl
      · skip
        refine V_iconst (-1) (by decide) dX6_carve_24 ?_
        refine V_iret rfl rfl rfl ?_ dX6_carve_25
        unfold mstQ
        rw [show gCarve x tv W P K _ _ _ t = (x, W, P, K, -1) from by first | exact ifb_neg h5 | exact (ifb_pos hi (by omega) rfl).trans (ifb_neg h13) | exact (ifb_pos hi (by omega) rfl).trans ((ifb_pos hs (by omega) rfl).trans (ifb_neg h21))]
        exact ⟨rfl, rfl, hM0, fun q _ => rfl⟩
theorem D_chisel {i m : Int32} (hM : MSt sg I x tv W P K) (hS : STok x tv W P K) : Ct m_X6_chisel g [rf g 92, .int i, .int m] sg I (mstQ sg I tv (gChisel x tv W P K i m)) := by
  have hM0 := hM
  have hS0 := hS
  obtain ⟨hX0, hok, hnp, hns, ⟨hWok, hwk⟩, hPok, hKok⟩ := hS
  obtain ⟨hK, ⟨mlen, mtx⟩, hT, hW, mkept, mKs, mdone, mPs⟩ := hM
  have hK0 := hK
  have hT0 := hT
  have hW0 := hW
  obtain ⟨m0, mR1, mR3, mR4, mR5, mR6, mR7, mR8, mR10, mR16, mR17, mA93, mA94, mA95, mA96, mA97, mA98, mA99, mA100, mA101, mA102⟩ := hK
  obtain ⟨mF, mnL, mnP, mnS, mnB, mL, mP, mS, mB, mWd, mnw⟩ := hT
  have hF1 := hok.1
  have hF8 := hok.2.1
  have h256 := p2_le8 hF8
  have h16 := p2_le16 hF8
  have nL10 := hok.2.2.2.2.2.2.2.1
  have nP5 := hok.2.2.2.2.2.2.2.2.1
  have nS5 := hok.2.2.2.2.2.2.2.2.2.1
  have nB6 := hok.2.2.2.2.2.2.2.2.2.2
  have hmk := hWok.2.2.2.1
  have hn12 := hmk.1
  have htr := hWok.1
  have hnw := nw_le hF8
  have hnw0 := nw_pos hWok
  obtain ⟨wT0, wK0, wM0, wH0, wC0⟩ := id hW
  have hpk := pushS_ok (M := 8) hPok (⟨hWok, hwk⟩ : WKok tv W)
  have hso := hok.2.2.2.2.2.1
  refine Ct.of rfl (Nat.le_of_ble_eq_true rfl) fun X => ?_
  show V X _ sg I 0 [some (rf g 92), some (.int i), some (.int m), none] []
  have hfin : ∀ i1 m1, i1 < (tP tv).1 → m1 < (wM W).1 → i = nI i1 → m = nI m1 →
      V X (ZQ X (mstQ sg I tv (gChisel x tv W P K i m))) sg I 18 [some (rf g 92), some (.int (nI i1)), some (.int (nI m1)), none] [] := by
    intro i1 m1 hi hm ei em
    have hg : gChisel x tv W P K i m = if wH W i1 < hrsN tv ((wM W).2 m1 1) then (x, W, P, K, -2) else
        (x, (wT W, wK W, rmTB (wM W) m1, fun j => if j = i1 then wH W i1 - hrsN tv ((wM W).2 m1 1) else wH W j), pushS 8 P W, K, nI ((wM W).1 - 1)) := by
      unfold gChisel
      rw [ifb_pos hi (by omega) ei, ifb_pos hm (by omega) em]
    rw [hg]
    have hst := (hmk.2.1 m1 hm).2.1
    have hhl : wH W i1 ≤ 40 := hWok.2.2.2.2 i1 hi
    have hrl : hrsN tv ((wM W).2 m1 1) ≤ 9 := by have := hso _ hst; unfold hrsN; split <;> omega
    refine V_aload_n rfl dX6_chisel_18 ?_
    refine V_aload_n rfl dX6_chisel_19 ?_
    refine gf_X6_33 (by assumption) (by assumption) rfl dX6_chisel_20 ?_
    refine V_bipush (nI 8) (by decide) dX6_chisel_23 ?_
    refine V_iconst (nI 4) (by decide) dX6_chisel_25 ?_
    refine V_iload_n rfl dX6_chisel_26 ?_
    refine V_imulN dX6_chisel_27 ?_
    refine V_iaddN dX6_chisel_28 ?_
    refine V_iconst (nI 1) (by decide) dX6_chisel_29 ?_
    refine V_iaddN dX6_chisel_30 ?_
    refine V_iald _ (by assumption) rfl (by omega) (by omega) dX6_chisel_31 ?_
    refine V_topi ((congrArg (I 100) (by omega)).trans (wC0 m1 hm 1 (by decide))) ?_
    refine cf_X6_155 (D_costs hK0 hT0 hok hst) (by assumption) rfl rfl ft0 (Nat.le_of_ble_eq_true rfl) dX6_chisel_32 ?_
    refine V_ist3 rfl rfl dX6_chisel_35 ?_
    refine V_aload_n rfl dX6_chisel_36 ?_
    refine gf_X6_33 (by assumption) (by assumption) rfl dX6_chisel_37 ?_
    refine V_iconst (nI 3) (by decide) dX6_chisel_40 ?_
    refine V_iload_n rfl dX6_chisel_41 ?_
    refine V_iaddN dX6_chisel_42 ?_
    refine V_iald _ (by assumption) rfl (by omega) (by omega) dX6_chisel_43 ?_
    refine V_topi ((congrArg (I 100) (by omega)).trans (wH0 i1 hi)) ?_
    refine V_iload_n rfl dX6_chisel_44 ?_
    refine V_icmp_geN 51 dX6_chisel_45 (by decide) (by omega) (by omega) (fun h45 => ?_) (fun h45 => ?_)
    · skip
      refine V_aload_n rfl dX6_chisel_51 ?_
      refine cl_X6_146 (D_push hM0 hS0) (by assumption) rfl rfl ft0 (Nat.le_of_ble_eq_true rfl) dX6_chisel_52 (fun rr s9 J1 hq => ?_)
      obtain ⟨rfl, hq0, hM1, hfr, -⟩ := hq
      have hq0 := hq0.symm
      subst hq0
      show V X _ sg J1 55 _ []
      obtain ⟨-, -, hT1, hW1, -, -, -, -⟩ := id hM1
      refine V_aload_n rfl dX6_chisel_55 ?_
      refine gf_X6_33 (by assumption) (by assumption) rfl dX6_chisel_56 ?_
      refine V_iconst (nI 3) (by decide) dX6_chisel_59 ?_
      refine V_iload_n rfl dX6_chisel_60 ?_
      refine V_iaddN dX6_chisel_61 ?_
      refine V_dup2 rfl rfl dX6_chisel_62 ?_
      refine V_iald _ (by assumption) rfl (by omega) (by omega) dX6_chisel_63 ?_
      refine V_topi ((congrArg (J1 100) (by omega)).trans (hW1.2.2.2.1 i1 hi)) ?_
      refine V_iload_n rfl dX6_chisel_64 ?_
      refine V_isubN (by omega) dX6_chisel_65 ?_
      refine V_iast _ (by assumption) rfl (by omega) (by omega) dX6_chisel_66 ?_
      obtain ⟨J2, hJ2⟩ : ∃ J2, J2 = upI J1 100 (3 + i1) (nI (wH W i1 - hrsN tv ((wM W).2 m1 1))) := ⟨_, rfl⟩
      rw [← hJ2]
      have hW2 : SlW J2 0 (wT W, wK W, wM W, fun j => if j = i1 then wH W i1 - hrsN tv ((wM W).2 m1 1) else wH W j) (tP tv).1 := by
        rw [hJ2, show 3 + i1 = 56 * 0 + 3 + i1 by omega]; exact hW1.hr hi nP5
      have hf2 : slF J1 J2 0 := by rw [hJ2]; exact slF.up (by omega) (by omega)
      refine V_aload_n rfl dX6_chisel_67 ?_
      refine V_iconst (nI 0) (by decide) dX6_chisel_68 ?_
      refine V_iload_n rfl dX6_chisel_69 ?_
      refine cl_X6_165 (D_goes hK0 hW2 (by decide) hn12 hm nP5) (by assumption) rfl rfl ft0 (Nat.le_of_ble_eq_true rfl) dX6_chisel_70 (fun rr s9 J3 hq => ?_)
      obtain ⟨rfl, hq0, q1, q2⟩ := hq
      have hq0 := hq0.symm
      subst hq0
      show V X _ sg J3 73 _ []
      refine V_aload_n rfl dX6_chisel_73 ?_
      refine gf_X6_33 (by assumption) (by assumption) rfl dX6_chisel_74 ?_
      refine V_iconst (nI 2) (by decide) dX6_chisel_77 ?_
      refine V_iald _ (by assumption) rfl (by omega) (by omega) dX6_chisel_78 ?_
      refine V_topi (q1.2.2.1) ?_
      refine V_iret rfl rfl rfl ?_ dX6_chisel_79
      unfold mstQ
      rw [if_neg (by omega)]
      exact ⟨rfl, rfl, hM1.slot0 (fun i hi => (hpk.2 i hi).1.2.2.2.1.1) (fun i hi => (hKok.2 i hi).1.2.2.2.1.1) nP5 (hf2.trans q2) q1, fun q hq => (q2.2 q (by omega)).trans ((hf2.2 q (by omega)).trans (hfr q hq))⟩
    · skip
      refine V_bipush (-2) (by decide) dX6_chisel_48 ?_
      refine V_iret rfl rfl rfl ?_ dX6_chisel_50
      unfold mstQ
      rw [if_pos (by omega)]
      exact ⟨rfl, rfl, hM0, fun q _ => rfl⟩
  refine V_aload_n rfl dX6_chisel_0 ?_
  refine V_iload_n rfl dX6_chisel_1 ?_
  refine cf_X6_119 (D_isPerson hK0 hT0 hok) (by assumption) rfl rfl ft0 (Nat.le_of_ble_eq_true rfl) dX6_chisel_2 ?_
  refine V_if_eqB 16 dX6_chisel_5 (by decide) (fun h5 => ?_) (fun h5 => ?_)
  · skip
    refine V_iconst (-1) (by decide) dX6_chisel_16 ?_
    refine V_iret rfl rfl rfl ?_ dX6_chisel_17
    unfold mstQ
    rw [show gChisel x tv W P K _ _ = (x, W, P, K, -1) from by first | exact ifb_neg h5 | exact (ifb_pos hi (by omega) rfl).trans (ifb_neg h13)]
    exact ⟨rfl, rfl, hM0, fun q _ => rfl⟩
  · skip
    obtain ⟨i1, hi, rfl⟩ := bel_ex (by omega) h5
    refine V_aload_n rfl dX6_chisel_8 ?_
    refine V_iload_n rfl dX6_chisel_9 ?_
    refine cf_X6_131 (D_isMark hK0 hW0 hn12) (by assumption) rfl rfl ft0 (Nat.le_of_ble_eq_true rfl) dX6_chisel_10 ?_
    refine V_if_neB 18 dX6_chisel_13 (by decide) (fun h13 => ?_) (fun h13 => ?_)
    · skip
      obtain ⟨m1, hm, rfl⟩ := bel_ex (by omega) h13
      exact hfin i1 m1 hi hm rfl rfl
    · skip
      refine V_iconst (-1) (by decide) dX6_chisel_16 ?_
      refine V_iret rfl rfl rfl ?_ dX6_chisel_17
      unfold mstQ
      rw [show gChisel x tv W P K _ _ = (x, W, P, K, -1) from by first | exact ifb_neg h5 | exact (ifb_pos hi (by omega) rfl).trans (ifb_neg h13)]
      exact ⟨rfl, rfl, hM0, fun q _ => rfl⟩
end MCARVE
