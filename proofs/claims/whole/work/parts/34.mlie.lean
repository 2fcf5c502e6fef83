/-! CarvedWeeksModel: soonest, lies -/
section MLIE
variable {g : GC} {sg : SG} {I : IM} {x : XV} {tv : TV} {W : WV} {P K : SV} {np : Nat}
theorem D_soonest {s : Int32} (hM : MSt sg I x tv W P K) (hS : STok x tv W P K) : Ct m_X6_soonest g [rf g 92, .int s] sg I (knQ sg I (fSoonest tv W s)) := by
  have hM0 := hM
  have hS0 := hS
  obtain ⟨hX0, hok, hnp, hns, ⟨hWok, hwk⟩, hPok, hKok⟩ := hS
  obtain ⟨hK, ⟨mlen, mtx⟩, hT, hW, mkept, mKs, mdone, mPs⟩ := hM
  have hK0 := hK
  have hT0 := hT
  have hW0 := hW
  obtain ⟨m0, mR1, mR3, mR4, mR5, mR6, mR7, mR8, mR10, mR16, mR17, mA93, mA94, mA95, mA96, mA97, mA98, mA99, mA100, mA101, mA102⟩ := hK
  obtain ⟨mF, mnL, mnP, mnS, mnB, mL, mP, mS, mB, mWd, mnw⟩ := hT
  have hF1 := hok.1
  have hF8 := hok.2.1
  have h256 := p2_le8 hF8
  have h16 := p2_le16 hF8
  have nL10 := hok.2.2.2.2.2.2.2.1
  have nP5 := hok.2.2.2.2.2.2.2.2.1
  have nS5 := hok.2.2.2.2.2.2.2.2.2.1
  have nB6 := hok.2.2.2.2.2.2.2.2.2.2
  have hmk := hWok.2.2.2.1
  have hn12 := hmk.1
  have htr := hWok.1
  have hnw := nw_le hF8
  have hnw0 := nw_pos hWok
  obtain ⟨wT0, wK0, wM0, wH0, wC0⟩ := id hW
  refine Ct.of rfl (Nat.le_of_ble_eq_true rfl) fun X => ?_
  show V X _ sg I 0 [some (rf g 92), some (.int s), none, none, none, none, none] []
  have hfin : ∀ j, j < 2 ^ tF tv → s = nI j → ∀ J, knF I J → V X (ZQ X (knQ sg I (fSoonest tv W s))) sg J 24 [some (rf g 92), some (.int s), some (.int (nI (pc16 (lstN tv W j)))), some (.int (nI 0)), some (.int (nI 1)), none, none] [] := by
    intro j hj es J hf
    have hT1 := hT0.kn hf
    have hW1 := hW0.kn hf
    have hnS := hT1.2.2.2.1
    have hpj : pc16 (lstN tv W j) ≤ 8 := Nat.le_trans (pc_lt (lst_spec (W := W) hj).1 (by omega)) hF8
    obtain ⟨z0, hz0⟩ : ∃ z0, z0 = (pc16 (lstN tv W j), 0) := ⟨_, rfl⟩
    have hff : fSoonest tv W s = if 0 < (snC tv W 9 z0).1 then -4 else nI (snC tv W 9 z0).2 := by unfold fSoonest; rw [ifb_pos hj (by omega) es, hz0]
    rw [hff]
    have hS1 : ∀ c n z, (snS tv W c n z).1 ≤ z.1 := by
      intro c n z
      induction n with
      | zero => exact Nat.le_refl _
      | succ n ih => unfold snS; split; exact Nat.le_trans (Nat.sub_le _ _) ih; exact ih
    have hC1 : ∀ c, (snC tv W c z0).1 ≤ 8 := by
      intro c
      induction c with
      | zero => rw [hz0]; exact hpj
      | succ c ih => exact Nat.le_trans (hS1 _ _ _) ih
    have inner : ∀ (c : Nat), c < 9 → (∀ z1 z2, okp z1 = true → okp z2 = true → V X (ZQ X (knQ sg I (if 0 < (snC tv W 9 z0).1 then -4 else nI (snC tv W 9 z0).2))) sg J 102 [some (rf g 92), some (.int s), some (.int (nI (snC tv W (c + 1) z0).1)), some (.int (nI (snC tv W (c + 1) z0).2)), some (.int (nI (c + 1))), z1, z2] []) →
        ∀ (d k a b : Nat) (z : Option Value), okp z = true → (tS tv).1 - k = d → k ≤ (tS tv).1 → a = (snS tv W (c + 1) k (snC tv W c z0)).1 → b = (snS tv W (c + 1) k (snC tv W c z0)).2 →
        V X (ZQ X (knQ sg I (if 0 < (snC tv W 9 z0).1 then -4 else nI (snC tv W 9 z0).2))) sg J 34 [some (rf g 92), some (.int s), some (.int (nI a)), some (.int (nI b)), some (.int (nI (c + 1))), some (.int (nI k)), z] [] := by
      intro c hc hexit d
      induction d with
      | zero =>
        intro k a b z hz hd hkn ea eb
        have e : k = (tS tv).1 := by omega
        subst e
        subst ea
        subst eb
        refine V_iload rfl dX6_soonest_34 ?_
        refine V_aload_n rfl dX6_soonest_36 ?_
        refine gf_X6_13 (by assumption) (by assumption) rfl dX6_soonest_37 ?_
        refine V_iconst (nI 3) (by decide) dX6_soonest_40 ?_
        refine V_iald _ (by assumption) rfl (by omega) (by omega) dX6_soonest_41 ?_
        refine V_topi (hnS) ?_
        refine V_icmp_geN 102 dX6_soonest_42 (by decide) (by omega) (by omega) (fun h42 => ?_) (fun h42 => absurd h42 (by omega))
        exact hexit _ _ rfl hz
      | succ d ih =>
        intro k a b z hz hd hkn ea eb
        have hkl : k < (tS tv).1 := by omega
        have hih := fun a b z hz => ih (k + 1) a b z hz (by omega) (by omega)
        have hle := Nat.le_trans (hS1 (c + 1) k (snC tv W c z0)) (hC1 c)
        have hhr : hrsN tv k ≤ 9 := by
          have := hok.2.2.2.2.2.1 k hkl
          unfold hrsN; split <;> omega
        have hfr : freeN tv W k ≤ 6 := Nat.le_trans (Nat.sub_le _ _) (hok.2.2.2.2.2.1 k hkl).2.1
        have e1 : snS tv W (c + 1) (k + 1) (snC tv W c z0) = if hrsN tv k = c + 1 then (a - min a (freeN tv W k), b + min a (freeN tv W k) * (c + 1)) else (a, b) := by
          rw [ea, eb]; rfl
        rw [e1] at hih
        refine V_iload rfl dX6_soonest_34 ?_
        refine V_aload_n rfl dX6_soonest_36 ?_
        refine gf_X6_13 (by assumption) (by assumption) rfl dX6_soonest_37 ?_
        refine V_iconst (nI 3) (by decide) dX6_soonest_40 ?_
        refine V_iald _ (by assumption) rfl (by omega) (by omega) dX6_soonest_41 ?_
        refine V_topi (hnS) ?_
        refine V_icmp_geN 102 dX6_soonest_42 (by decide) (by omega) (by omega) (fun h42 => absurd h42 (by omega)) (fun h42 => ?_)
        refine V_aload_n rfl dX6_soonest_45 ?_
        refine V_iload rfl dX6_soonest_46 ?_
        refine cf_X6_155 (D_costs hK0 hT1 hok hkl) (by assumption) rfl rfl ft0 (Nat.le_of_ble_eq_true rfl) dX6_soonest_48 ?_
        refine V_iload rfl dX6_soonest_51 ?_
        refine V_icmp_neN 66 dX6_soonest_53 (by decide) (by omega) (by omega) (fun h53 => ?_) (fun h53 => ?_)
        · skip
          refine V_iconst (nI 0) (by decide) dX6_soonest_66 ?_
          refine V_ist6 rfl rfl dX6_soonest_67 ?_
          refine V_iload rfl dX6_soonest_69 ?_
          refine V_iload_n rfl dX6_soonest_71 ?_
          refine V_icmp_geN 80 dX6_soonest_72 (by decide) (by omega) (by omega) (fun h72 => ?_) (fun h72 => ?_)
          · skip
            refine V_iload_n rfl dX6_soonest_80 ?_
            refine V_ist6 rfl rfl dX6_soonest_81 ?_
            refine V_iload_n rfl dX6_soonest_83 ?_
            refine V_iload rfl dX6_soonest_84 ?_
            refine V_iload rfl dX6_soonest_86 ?_
            refine V_imulN dX6_soonest_88 ?_
            refine V_iaddN dX6_soonest_89 ?_
            refine V_ist3 rfl rfl dX6_soonest_90 ?_
            refine V_iload_n rfl dX6_soonest_91 ?_
            refine V_iload rfl dX6_soonest_92 ?_
            refine V_isubN (by omega) dX6_soonest_94 ?_
            refine V_ist2 rfl rfl dX6_soonest_95 ?_
            refine V_iinc5_ _ (nI_inc _) rfl rfl dX6_soonest_96 ?_
            refine V_goto 34 dX6_soonest_99 (by decide) ?_
            first
            | (rw [if_neg h53] at hih; exact hih _ _ _ rfl (by show a - _ = a; omega) (by first | (rw [Nat.zero_mul]; rfl) | (rw [show a = 0 by omega, Nat.zero_mul]; rfl)))
            | (rw [if_pos h53] at hih; exact hih _ _ _ rfl (by show a - _ = a - min a _; omega) (by first | (rw [Nat.min_eq_right (show freeN tv W k ≤ a by omega)]) | (rw [Nat.min_eq_left (show a ≤ freeN tv W k by omega)])))
          · skip
            refine V_iload rfl dX6_soonest_75 ?_
            refine V_goto 81 dX6_soonest_77 (by decide) ?_
            refine V_ist6 rfl rfl dX6_soonest_81 ?_
            refine V_iload_n rfl dX6_soonest_83 ?_
            refine V_iload rfl dX6_soonest_84 ?_
            refine V_iload rfl dX6_soonest_86 ?_
            refine V_imulN dX6_soonest_88 ?_
            refine V_iaddN dX6_soonest_89 ?_
            refine V_ist3 rfl rfl dX6_soonest_90 ?_
            refine V_iload_n rfl dX6_soonest_91 ?_
            refine V_iload rfl dX6_soonest_92 ?_
            refine V_isubN (by omega) dX6_soonest_94 ?_
            refine V_ist2 rfl rfl dX6_soonest_95 ?_
            refine V_iinc5_ _ (nI_inc _) rfl rfl dX6_soonest_96 ?_
            refine V_goto 34 dX6_soonest_99 (by decide) ?_
            first
            | (rw [if_neg h53] at hih; exact hih _ _ _ rfl (by show a - _ = a; omega) (by first | (rw [Nat.zero_mul]; rfl) | (rw [show a = 0 by omega, Nat.zero_mul]; rfl)))
            | (rw [if_pos h53] at hih; exact hih _ _ _ rfl (by show a - _ = a - min a _; omega) (by first | (rw [Nat.min_eq_right (show freeN tv W k ≤ a by omega)]) | (rw [Nat.min_eq_left (show a ≤ freeN tv W k by omega)])))
        · skip
          refine V_aload_n rfl dX6_soonest_56 ?_
          refine V_iconst (nI 0) (by decide) dX6_soonest_57 ?_
          refine V_iload rfl dX6_soonest_58 ?_
          refine cf_X6_127 (D_free hK0 hT1 hok hW1 (by decide) hmk hkl) (by assumption) rfl rfl ft0 (Nat.le_of_ble_eq_true rfl) dX6_soonest_60 ?_
          refine V_goto 67 dX6_soonest_63 (by decide) ?_
          refine V_ist6 rfl rfl dX6_soonest_67 ?_
          refine V_iload rfl dX6_soonest_69 ?_
          refine V_iload_n rfl dX6_soonest_71 ?_
          refine V_icmp_geN 80 dX6_soonest_72 (by decide) (by omega) (by omega) (fun h72 => ?_) (fun h72 => ?_)
          · skip
            refine V_iload_n rfl dX6_soonest_80 ?_
            refine V_ist6 rfl rfl dX6_soonest_81 ?_
            refine V_iload_n rfl dX6_soonest_83 ?_
            refine V_iload rfl dX6_soonest_84 ?_
            refine V_iload rfl dX6_soonest_86 ?_
            refine V_imulN dX6_soonest_88 ?_
            refine V_iaddN dX6_soonest_89 ?_
            refine V_ist3 rfl rfl dX6_soonest_90 ?_
            refine V_iload_n rfl dX6_soonest_91 ?_
            refine V_iload rfl dX6_soonest_92 ?_
            refine V_isubN (by omega) dX6_soonest_94 ?_
            refine V_ist2 rfl rfl dX6_soonest_95 ?_
            refine V_iinc5_ _ (nI_inc _) rfl rfl dX6_soonest_96 ?_
            refine V_goto 34 dX6_soonest_99 (by decide) ?_
            first
            | (rw [if_neg h53] at hih; exact hih _ _ _ rfl (by show a - _ = a; omega) (by first | (rw [Nat.zero_mul]; rfl) | (rw [show a = 0 by omega, Nat.zero_mul]; rfl)))
            | (rw [if_pos h53] at hih; exact hih _ _ _ rfl (by show a - _ = a - min a _; omega) (by first | (rw [Nat.min_eq_right (show freeN tv W k ≤ a by omega)]) | (rw [Nat.min_eq_left (show a ≤ freeN tv W k by omega)])))
          · skip
            refine V_iload rfl dX6_soonest_75 ?_
            refine V_goto 81 dX6_soonest_77 (by decide) ?_
            refine V_ist6 rfl rfl dX6_soonest_81 ?_
            refine V_iload_n rfl dX6_soonest_83 ?_
            refine V_iload rfl dX6_soonest_84 ?_
            refine V_iload rfl dX6_soonest_86 ?_
            refine V_imulN dX6_soonest_88 ?_
            refine V_iaddN dX6_soonest_89 ?_
            refine V_ist3 rfl rfl dX6_soonest_90 ?_
            refine V_iload_n rfl dX6_soonest_91 ?_
            refine V_iload rfl dX6_soonest_92 ?_
            refine V_isubN (by omega) dX6_soonest_94 ?_
            refine V_ist2 rfl rfl dX6_soonest_95 ?_
            refine V_iinc5_ _ (nI_inc _) rfl rfl dX6_soonest_96 ?_
            refine V_goto 34 dX6_soonest_99 (by decide) ?_
            first
            | (rw [if_neg h53] at hih; exact hih _ _ _ rfl (by show a - _ = a; omega) (by first | (rw [Nat.zero_mul]; rfl) | (rw [show a = 0 by omega, Nat.zero_mul]; rfl)))
            | (rw [if_pos h53] at hih; exact hih _ _ _ rfl (by show a - _ = a - min a _; omega) (by first | (rw [Nat.min_eq_right (show freeN tv W k ≤ a by omega)]) | (rw [Nat.min_eq_left (show a ≤ freeN tv W k by omega)])))
    have outer : ∀ (d c : Nat) (z z' : Option Value), okp z = true → okp z' = true → 9 - c = d → c ≤ 9 →
        V X (ZQ X (knQ sg I (if 0 < (snC tv W 9 z0).1 then -4 else nI (snC tv W 9 z0).2))) sg J 24 [some (rf g 92), some (.int s), some (.int (nI (snC tv W c z0).1)), some (.int (nI (snC tv W c z0).2)), some (.int (nI (c + 1))), z, z'] [] := by
      intro d
      induction d with
      | zero =>
        intro c z z' hz hz' hd hc
        have e : c = 9 := by omega
        subst e
        have h9 := hC1 9
        refine V_iload rfl dX6_soonest_24 ?_
        refine V_bipush (nI 10) (by decide) dX6_soonest_26 ?_
        refine V_icmp_geN 108 dX6_soonest_28 (by decide) (by omega) (by omega) (fun h28 => ?_) (fun h28 => absurd h28 (by omega))
        refine V_iload_n rfl dX6_soonest_108 ?_
        refine V_if_neN 116 dX6_soonest_109 (by decide) (by omega) (fun h109 => ?_) (fun h109 => ?_)
        · skip
          refine V_bipush (-4) (by decide) dX6_soonest_116 ?_
          refine V_iret rfl rfl rfl ?_ dX6_soonest_118
          first
          | (rw [if_pos (by omega)]; exact ⟨rfl, rfl, hf⟩)
          | (rw [if_neg (by omega)]; exact ⟨rfl, rfl, hf⟩)
        · skip
          refine V_iload_n rfl dX6_soonest_112 ?_
          refine V_goto 118 dX6_soonest_113 (by decide) ?_
          refine V_iret rfl rfl rfl ?_ dX6_soonest_118
          first
          | (rw [if_pos (by omega)]; exact ⟨rfl, rfl, hf⟩)
          | (rw [if_neg (by omega)]; exact ⟨rfl, rfl, hf⟩)
      | succ d ih =>
        intro c z z' hz hz' hd hc
        refine V_iload rfl dX6_soonest_24 ?_
        refine V_bipush (nI 10) (by decide) dX6_soonest_26 ?_
        refine V_icmp_geN 108 dX6_soonest_28 (by decide) (by omega) (by omega) (fun h28 => absurd h28 (by omega)) (fun h28 => ?_)
        refine V_iconst (nI 0) (by decide) dX6_soonest_31 ?_
        refine V_ist5 rfl rfl dX6_soonest_32 ?_
        refine inner c (by omega) (fun z1 z2 hz1 hz2 => ?_) (tS tv).1 0 _ _ _ hz' (by omega) (by omega) rfl rfl
        refine V_iinc4_ _ (nI_inc _) rfl rfl dX6_soonest_102 ?_
        refine V_goto 24 dX6_soonest_105 (by decide) ?_
        exact ih (c + 1) _ _ hz1 hz2 (by omega) (by omega)
    rw [show pc16 (lstN tv W j) = (snC tv W 0 z0).1 by rw [hz0]; rfl]
    have h7 := outer 9 0 none none rfl rfl (by omega) (by omega)
    rw [show (snC tv W 0 z0).2 = 0 by rw [hz0]; rfl] at h7
    exact h7
  refine V_aload_n rfl dX6_soonest_0 ?_
  refine V_iload_n rfl dX6_soonest_1 ?_
  refine cf_X6_143 (D_isSet hK0 hT0 hok) (by assumption) rfl rfl ft0 (Nat.le_of_ble_eq_true rfl) dX6_soonest_2 ?_
  refine V_if_neB 10 dX6_soonest_5 (by decide) (fun h5 => ?_) (fun h5 => ?_)
  · skip
    obtain ⟨j, hj, rfl⟩ := bel_ex (by omega) h5
    refine V_aload_n rfl dX6_soonest_10 ?_
    refine V_iload_n rfl dX6_soonest_11 ?_
    refine cl_X6_215 (D_leastOf hM0 hS0 hj) (by assumption) rfl rfl ft0 (Nat.le_of_ble_eq_true rfl) dX6_soonest_12 (fun rr s9 J1 hq => ?_)
    obtain ⟨rfl, hs9, hkn⟩ := hq
    have hs9 := hs9.symm
    subst hs9
    show V X _ sg J1 15 _ [.int (nI (lstN tv W j))]
    refine cf_X6_149 (D_many (Nat.lt_of_lt_of_le (lst_spec (W := W) hj).1 (by omega))) rfl rfl ft0 (Nat.le_of_ble_eq_true rfl) dX6_soonest_15 ?_
    refine V_ist2 rfl rfl dX6_soonest_18 ?_
    refine V_iconst (nI 0) (by decide) dX6_soonest_19 ?_
    refine V_ist3 rfl rfl dX6_soonest_20 ?_
    refine V_iconst (nI 1) (by decide) dX6_soonest_21 ?_
    refine V_ist4 rfl rfl dX6_soonest_22 ?_
    exact hfin j hj rfl J1 hkn
  · skip
    refine V_iconst (-1) (by decide) dX6_soonest_8 ?_
    refine V_iret rfl rfl rfl ?_ dX6_soonest_9
    exact ⟨by unfold fSoonest; rw [ifb_neg h5], rfl, knF.refl⟩
theorem D_lieOf {i h : Nat} (hM : MSt sg I x tv W P K) (hS : STok x tv W P K) (hi : i < (tP tv).1) (hh : h = 1 ∨ h = 2) : Ct m_X6_lieOf g [rf g 92, .int (nI i), .int (nI h)] sg I (fun r0 s0 J => r0 = some (.int (o4 (blF tv W i h (tF tv)).1)) ∧ s0 = sg ∧ knF I J ∧ J 92 18 = nI (blF tv W i h (tF tv)).2) := by
  obtain ⟨hX0, hok, hnp, hns, ⟨hWok, hwk⟩, hPok, hKok⟩ := hS
  obtain ⟨hK, ⟨mlen, mtx⟩, hT, hW, mkept, mKs, mdone, mPs⟩ := hM
  have hK0 := hK
  have hT0 := hT
  have hW0 := hW
  obtain ⟨m0, mR1, mR3, mR4, mR5, mR6, mR7, mR8, mR10, mR16, mR17, mA93, mA94, mA95, mA96, mA97, mA98, mA99, mA100, mA101, mA102⟩ := hK
  obtain ⟨mF, mnL, mnP, mnS, mnB, mL, mP, mS, mB, mWd, mnw⟩ := hT
  have hF1 := hok.1
  have hF8 := hok.2.1
  have h256 := p2_le8 hF8
  have h16 := p2_le16 hF8
  have nL10 := hok.2.2.2.2.2.2.2.1
  have nP5 := hok.2.2.2.2.2.2.2.2.1
  have nS5 := hok.2.2.2.2.2.2.2.2.2.1
  have nB6 := hok.2.2.2.2.2.2.2.2.2.2
  have hmk := hWok.2.2.2.1
  have hn12 := hmk.1
  have htr := hWok.1
  have hnw := nw_le hF8
  have hnw0 := nw_pos hWok
  obtain ⟨wT0, wK0, wM0, wH0, wC0⟩ := id hW
  refine Ct.of rfl (Nat.le_of_ble_eq_true rfl) fun X => ?_
  show V X _ sg I 0 [some (rf g 92), some (.int (nI i)), some (.int (nI h)), none, none, none] []
  have hrd : rdN tv W h 99 < 2 ^ (2 * tF tv) := rd_lt
  have hrd2 : rdN tv W h 99 < 65536 := Nat.lt_of_lt_of_le rd_lt h16
  obtain ⟨QQ, hQQ⟩ : ∃ QQ : Option Value → SG → IM → Prop, QQ = (fun r0 s0 J => r0 = some (.int (o4 (blF tv W i h (tF tv)).1)) ∧ s0 = sg ∧ knF I J ∧ J 92 18 = nI (blF tv W i h (tF tv)).2) := ⟨_, rfl⟩
  rw [← hQQ]
  have step : ∀ (u m : Nat) (J : IM) (o : Option Nat), u < 2 * tF tv → knF I J → J 92 18 = nI m → m ≤ 16 →
      (so u (wT W) = true → V X (ZQ X QQ) sg J 29 [some (rf g 92), some (.int (nI i)), some (.int (nI h)), some (.int (nI (rdN tv W h 99))), some (.int (o4 o)), some (.int (nI (u + 1)))] []) →
      (so u (wT W) = false → ∀ J', knF I J' → J' 92 18 = nI (if m < lieW tv W i h u then lieW tv W i h u else m) → V X (ZQ X QQ) sg J' 29 [some (rf g 92), some (.int (nI i)), some (.int (nI h)), some (.int (nI (rdN tv W h 99))), some (.int (o4 (if m < lieW tv W i h u then some u else o))), some (.int (nI (u + 1)))] []) →
      V X (ZQ X QQ) sg J 29 [some (rf g 92), some (.int (nI i)), some (.int (nI h)), some (.int (nI (rdN tv W h 99))), some (.int (o4 o)), some (.int (nI u))] [] := by
    intro u m J o hu hf h18 hm16 kt kf
    have hT1 := hT0.kn hf
    have hW1 := hW0.kn hf
    have hF := hT1.1
    have hT00 : J 100 0 = nI (wT W) := hW1.1
    have hl : hdsN tv W u 99 i ≤ 9 := hds_le
    obtain ⟨rd, hrdd⟩ : ∃ rd, rd = (if h ≤ hdsN tv W u 99 i then rdN tv W h 99 ||| 2 ^ u else rdN tv W h 99) := ⟨_, rfl⟩
    have hlw : lieW tv W i h u = wrgN tv (wT W) rd := by unfold lieW; rw [hrdd]
    have hrl : rd < 65536 := by
      rw [hrdd]; split
      · exact Nat.lt_of_lt_of_le (knw_or (tv := tv) u hu hrd) h16
      · exact hrd2
    have hwl : wrgN tv (wT W) rd ≤ 2 * tF tv := wrg_le
    have hfin : so u (wT W) = false → V X (ZQ X QQ) sg J 80 [some (rf g 92), some (.int (nI i)), some (.int (nI h)), some (.int (nI (rdN tv W h 99))), some (.int (o4 o)), some (.int (nI u))] [.int (nI rd), rf g 92] := by
      intro hso
      have kf2 := kf hso
      rw [hlw] at kf2
      refine cl_X6_196 (D_knows hK0 hT1 hok hrl) (by assumption) rfl rfl ft0 (Nat.le_of_ble_eq_true rfl) dX6_lieOf_80 (fun rr s9 J1 hq2 => ?_)
      have hkn2 := hf.trans (kw_kn hq2)
      obtain ⟨rfl, hs, q13, q14, q15, q92, qk⟩ := id hq2
      have hs := hs.symm
      subst hs
      show V X _ sg J1 83 _ []
      have hW2 := hW0.kn hkn2
      have h181 : J1 92 18 = nI m := by rw [qk 18 (by decide) (by decide) (by decide)]; exact h18
      have kf3 := fun v hv => kf2 (upI J1 92 18 v) (hkn2.trans ⟨fun q hq => funext fun k => upI_ne (Or.inl hq), fun k _ _ _ h4 => upI_ne (Or.inr h4)⟩) hv
      refine V_aload_n rfl dX6_lieOf_83 ?_
      refine V_iconst (nI 0) (by decide) dX6_lieOf_84 ?_
      refine cf_X6_202 (D_wrong hK0 hok hW2 (by decide) htr hq2.2.2.2.1 hq2.2.2.2.2.1) (by assumption) rfl rfl ft0 (Nat.le_of_ble_eq_true rfl) dX6_lieOf_85 ?_
      refine V_aload_n rfl dX6_lieOf_88 ?_
      refine gfe_X6_218 (by assumption) (by assumption) rfl dX6_lieOf_89 ?_
      refine V_icmp_leN 100 dX6_lieOf_92 (by decide) (by omega) (by omega) (fun h92 => ?_) (fun h92 => ?_)
      · skip
        refine V_iload rfl dX6_lieOf_100 ?_
        refine V_ist4 rfl rfl dX6_lieOf_102 ?_
        refine V_aload_n rfl dX6_lieOf_104 ?_
        refine V_aload_n rfl dX6_lieOf_105 ?_
        refine V_iconst (nI 0) (by decide) dX6_lieOf_106 ?_
        refine cf_X6_202 (D_wrong hK0 hok hW2 (by decide) htr hq2.2.2.2.1 hq2.2.2.2.2.1) (by assumption) rfl rfl ft0 (Nat.le_of_ble_eq_true rfl) dX6_lieOf_107 ?_
        refine V_aload_n rfl dX6_lieOf_110 ?_
        refine gfe_X6_218 (by assumption) (by assumption) rfl dX6_lieOf_111 ?_
        refine V_icmp_leN 125 dX6_lieOf_114 (by decide) (by omega) (by omega) (fun h114 => ?_) (fun h114 => ?_)
        · skip
          refine V_aload_n rfl dX6_lieOf_125 ?_
          refine gfe_X6_218 (by assumption) (by assumption) rfl dX6_lieOf_126 ?_
          refine pf_X6_218 (by assumption) rfl dX6_lieOf_129 ?_
          refine V_iinc5_ _ (nI_inc _) rfl rfl dX6_lieOf_132 ?_
          refine V_goto 29 dX6_lieOf_135 (by decide) ?_
          first
          | (exfalso; omega)
          | (rw [if_pos (show m < wrgN tv (wT W) rd by omega), if_pos (show m < wrgN tv (wT W) rd by omega)] at kf3; exact kf3 _ upI_eq)
          | (rw [if_neg (show ¬ m < wrgN tv (wT W) rd by omega), if_neg (show ¬ m < wrgN tv (wT W) rd by omega)] at kf3; exact kf3 _ upI_eq)
        · skip
          refine V_aload_n rfl dX6_lieOf_117 ?_
          refine V_iconst (nI 0) (by decide) dX6_lieOf_118 ?_
          refine cf_X6_202 (D_wrong hK0 hok hW2 (by decide) htr hq2.2.2.2.1 hq2.2.2.2.2.1) (by assumption) rfl rfl ft0 (Nat.le_of_ble_eq_true rfl) dX6_lieOf_119 ?_
          refine V_goto 129 dX6_lieOf_122 (by decide) ?_
          refine pf_X6_218 (by assumption) rfl dX6_lieOf_129 ?_
          refine V_iinc5_ _ (nI_inc _) rfl rfl dX6_lieOf_132 ?_
          refine V_goto 29 dX6_lieOf_135 (by decide) ?_
          first
          | (exfalso; omega)
          | (rw [if_pos (show m < wrgN tv (wT W) rd by omega), if_pos (show m < wrgN tv (wT W) rd by omega)] at kf3; exact kf3 _ upI_eq)
          | (rw [if_neg (show ¬ m < wrgN tv (wT W) rd by omega), if_neg (show ¬ m < wrgN tv (wT W) rd by omega)] at kf3; exact kf3 _ upI_eq)
      · skip
        refine V_iload rfl dX6_lieOf_95 ?_
        refine V_goto 102 dX6_lieOf_97 (by decide) ?_
        refine V_ist4 rfl rfl dX6_lieOf_102 ?_
        refine V_aload_n rfl dX6_lieOf_104 ?_
        refine V_aload_n rfl dX6_lieOf_105 ?_
        refine V_iconst (nI 0) (by decide) dX6_lieOf_106 ?_
        refine cf_X6_202 (D_wrong hK0 hok hW2 (by decide) htr hq2.2.2.2.1 hq2.2.2.2.2.1) (by assumption) rfl rfl ft0 (Nat.le_of_ble_eq_true rfl) dX6_lieOf_107 ?_
        refine V_aload_n rfl dX6_lieOf_110 ?_
        refine gfe_X6_218 (by assumption) (by assumption) rfl dX6_lieOf_111 ?_
        refine V_icmp_leN 125 dX6_lieOf_114 (by decide) (by omega) (by omega) (fun h114 => ?_) (fun h114 => ?_)
        · skip
          refine V_aload_n rfl dX6_lieOf_125 ?_
          refine gfe_X6_218 (by assumption) (by assumption) rfl dX6_lieOf_126 ?_
          refine pf_X6_218 (by assumption) rfl dX6_lieOf_129 ?_
          refine V_iinc5_ _ (nI_inc _) rfl rfl dX6_lieOf_132 ?_
          refine V_goto 29 dX6_lieOf_135 (by decide) ?_
          first
          | (exfalso; omega)
          | (rw [if_pos (show m < wrgN tv (wT W) rd by omega), if_pos (show m < wrgN tv (wT W) rd by omega)] at kf3; exact kf3 _ upI_eq)
          | (rw [if_neg (show ¬ m < wrgN tv (wT W) rd by omega), if_neg (show ¬ m < wrgN tv (wT W) rd by omega)] at kf3; exact kf3 _ upI_eq)
        · skip
          refine V_aload_n rfl dX6_lieOf_117 ?_
          refine V_iconst (nI 0) (by decide) dX6_lieOf_118 ?_
          refine cf_X6_202 (D_wrong hK0 hok hW2 (by decide) htr hq2.2.2.2.1 hq2.2.2.2.2.1) (by assumption) rfl rfl ft0 (Nat.le_of_ble_eq_true rfl) dX6_lieOf_119 ?_
          refine V_goto 129 dX6_lieOf_122 (by decide) ?_
          refine pf_X6_218 (by assumption) rfl dX6_lieOf_129 ?_
          refine V_iinc5_ _ (nI_inc _) rfl rfl dX6_lieOf_132 ?_
          refine V_goto 29 dX6_lieOf_135 (by decide) ?_
          first
          | (exfalso; omega)
          | (rw [if_pos (show m < wrgN tv (wT W) rd by omega), if_pos (show m < wrgN tv (wT W) rd by omega)] at kf3; exact kf3 _ upI_eq)
          | (rw [if_neg (show ¬ m < wrgN tv (wT W) rd by omega), if_neg (show ¬ m < wrgN tv (wT W) rd by omega)] at kf3; exact kf3 _ upI_eq)
    refine V_iload rfl dX6_lieOf_29 ?_
    refine V_iconst (nI 2) (by decide) dX6_lieOf_31 ?_
    refine V_aload_n rfl dX6_lieOf_32 ?_
    refine gf_X6_13 (by assumption) (by assumption) rfl dX6_lieOf_33 ?_
    refine V_iconst (nI 0) (by decide) dX6_lieOf_36 ?_
    refine V_iald _ (by assumption) rfl (by omega) (by omega) dX6_lieOf_37 ?_
    refine V_topi (hF) ?_
    refine V_imulN dX6_lieOf_38 ?_
    refine V_icmp_geN 138 dX6_lieOf_39 (by decide) (by omega) (by omega) (fun h39 => absurd h39 (by omega)) (fun h39 => ?_)
    refine V_iload rfl dX6_lieOf_42 ?_
    refine V_aload_n rfl dX6_lieOf_44 ?_
    refine gf_X6_33 (by assumption) (by assumption) rfl dX6_lieOf_45 ?_
    refine V_iconst (nI 0) (by decide) dX6_lieOf_48 ?_
    refine V_iald _ (by assumption) rfl (by omega) (by omega) dX6_lieOf_49 ?_
    refine V_topi (hT00) ?_
    refine cf_X6_91 (D_isSo (by omega) (by omega)) rfl rfl ft0 (Nat.le_of_ble_eq_true rfl) dX6_lieOf_50 ?_
    refine V_if_neB 132 dX6_lieOf_53 (by decide) (fun h53 => ?_) (fun h53 => ?_)
    · skip
      refine V_iinc5_ _ (nI_inc _) rfl rfl dX6_lieOf_132 ?_
      refine V_goto 29 dX6_lieOf_135 (by decide) ?_
      exact kt h53
    · skip
      refine V_aload_n rfl dX6_lieOf_56 ?_
      refine V_aload_n rfl dX6_lieOf_57 ?_
      refine V_iconst (nI 0) (by decide) dX6_lieOf_58 ?_
      refine V_iload rfl dX6_lieOf_59 ?_
      refine V_iconst (-1) (by decide) dX6_lieOf_61 ?_
      refine V_iload_n rfl dX6_lieOf_62 ?_
      refine cf_X6_171 (D_handsOf hK0 hT1 hok hW1 (by decide) hmk (by omega) (Or.inl ⟨rfl, rfl⟩) (Or.inr ⟨rfl, by omega⟩)) (by assumption) rfl rfl ft0 (Nat.le_of_ble_eq_true rfl) dX6_lieOf_63 ?_
      refine V_iload_n rfl dX6_lieOf_66 ?_
      refine V_icmp_ltN 79 dX6_lieOf_67 (by decide) (by omega) (by omega) (fun h67 => ?_) (fun h67 => ?_)
      · skip
        refine V_iload_n rfl dX6_lieOf_79 ?_
        refine V_same rfl ?_
        have hso : so u (wT W) = false := by rw [Bool.not_eq_true] at h53; exact h53
        have h9 := hfin hso
        first
        | (rw [hrdd, if_pos (by omega)] at h9; exact h9)
        | (rw [hrdd, if_neg (by omega)] at h9; exact h9)
      · skip
        refine V_iload_n rfl dX6_lieOf_70 ?_
        refine V_iconst (nI 1) (by decide) dX6_lieOf_71 ?_
        refine V_iload rfl dX6_lieOf_72 ?_
        refine V_ishl1N (by omega) dX6_lieOf_74 ?_
        refine V_iorN dX6_lieOf_75 ?_
        refine V_goto 80 dX6_lieOf_76 (by decide) ?_
        refine V_same rfl ?_
        have hso : so u (wT W) = false := by rw [Bool.not_eq_true] at h53; exact h53
        have h9 := hfin hso
        first
        | (rw [hrdd, if_pos (by omega)] at h9; exact h9)
        | (rw [hrdd, if_neg (by omega)] at h9; exact h9)
  have hb16 : ∀ k, (blF tv W i h k).2 ≤ 2 * tF tv := by
    intro k
    induction k with
    | zero => exact wrg_le
    | succ k ih => unfold blF; split; exact wrg_le; exact ih
  have loop : ∀ (d k : Nat) (J : IM), tF tv - k = d → k ≤ tF tv → knF I J → J 92 18 = nI (blF tv W i h k).2 → V X (ZQ X QQ) sg J 29 [some (rf g 92), some (.int (nI i)), some (.int (nI h)), some (.int (nI (rdN tv W h 99))), some (.int (o4 (blF tv W i h k).1)), some (.int (nI (2 * k)))] [] := by
    intro d
    induction d with
    | zero =>
      intro k J hd hkn hf h18
      have e : k = tF tv := by omega
      subst e
      have hF := (hT0.kn hf).1
      refine V_iload rfl dX6_lieOf_29 ?_
      refine V_iconst (nI 2) (by decide) dX6_lieOf_31 ?_
      refine V_aload_n rfl dX6_lieOf_32 ?_
      refine gf_X6_13 (by assumption) (by assumption) rfl dX6_lieOf_33 ?_
      refine V_iconst (nI 0) (by decide) dX6_lieOf_36 ?_
      refine V_iald _ (by assumption) rfl (by omega) (by omega) dX6_lieOf_37 ?_
      refine V_topi (hF) ?_
      refine V_imulN dX6_lieOf_38 ?_
      refine V_icmp_geN 138 dX6_lieOf_39 (by decide) (by omega) (by omega) (fun h39 => ?_) (fun h39 => absurd h39 (by omega))
      refine V_iload rfl dX6_lieOf_138 ?_
      refine V_iret rfl rfl rfl ?_ dX6_lieOf_140
      rw [hQQ]
      exact ⟨rfl, rfl, hf, h18⟩
    | succ d ih =>
      intro k J hd hkn hf h18
      have hb1 := hb16 k
      have e1 : blF tv W i h (k + 1) = if (blF tv W i h k).2 < lieW tv W i h (tsy k (wT W) ^^^ 1) then (some (tsy k (wT W) ^^^ 1), lieW tv W i h (tsy k (wT W) ^^^ 1)) else blF tv W i h k := rfl
      have hih := fun J hf hv => ih (k + 1) J (by omega) (by omega) hf hv
      have x1 : (2 * k + 1) ^^^ 1 = 2 * k := by
        apply Nat.eq_of_testBit_eq
        intro b
        cases b with
        | zero => simp
        | succ b =>
          have a1 : (2 * k + 1) / 2 = k := by omega
          have a2 : 2 * k / 2 = k := by omega
          rw [Nat.testBit_xor, Nat.testBit_succ, Nat.testBit_succ, Nat.testBit_succ, a1, a2]; simp
      have x2 : (2 * k) ^^^ 1 = 2 * k + 1 := by
        have x3 : ((2 * k + 1) ^^^ 1) ^^^ 1 = 2 * k + 1 := by rw [Nat.xor_assoc, Nat.xor_self, Nat.xor_zero]
        rw [x1] at x3; exact x3
      have e3 : ∀ (c : Prop) [Decidable c] (a b : Option Nat × Nat), (if c then a else b).1 = if c then a.1 else b.1 := fun c _ a b => by split <;> rfl
      have e4 : ∀ (c : Prop) [Decidable c] (a b : Option Nat × Nat), (if c then a else b).2 = if c then a.2 else b.2 := fun c _ a b => by split <;> rfl
      rw [e1, e3, e4, show 2 * (k + 1) = 2 * k + 1 + 1 by omega] at hih
      cases hb : (wT W).testBit k with
      | true =>
        have ht : tsy k (wT W) = 2 * k := by unfold tsy; rw [if_pos hb]
        rw [ht, x2] at hih
        refine step (2 * k) _ J _ (by omega) hf h18 (by omega) (fun _ => ?_) (fun z => by rw [so_even, hb] at z; cases z)
        refine step (2 * k + 1) _ J _ (by omega) hf h18 (by omega) (fun z => by rw [so_odd, hb] at z; cases z) (fun _ J' hf' h18' => hih J' hf' h18')
      | false =>
        have ht : tsy k (wT W) = 2 * k + 1 := by unfold tsy; rw [if_neg (by rw [hb]; decide)]
        rw [ht, x1] at hih
        refine step (2 * k) _ J _ (by omega) hf h18 (by omega) (fun z => by rw [so_even, hb] at z; cases z) (fun _ J' hf' h18' => ?_)
        have hl2 : lieW tv W i h (2 * k) ≤ 2 * tF tv := wrg_le
        refine step (2 * k + 1) _ J' _ (by omega) hf' h18' (by split <;> omega) (fun _ => hih J' hf' h18') (fun z => by rw [so_odd, hb] at z; cases z)
  refine V_aload_n rfl dX6_lieOf_0 ?_
  refine V_iconst (nI 0) (by decide) dX6_lieOf_1 ?_
  refine V_iload_n rfl dX6_lieOf_2 ?_
  refine V_iconst (-1) (by decide) dX6_lieOf_3 ?_
  refine cf_X6_192 (D_readBy hK0 hT0 hok hW0 (by decide) hmk (by omega) (Or.inl ⟨rfl, rfl⟩)) (by assumption) rfl rfl ft0 (Nat.le_of_ble_eq_true rfl) dX6_lieOf_4 ?_
  refine V_ist3 rfl rfl dX6_lieOf_7 ?_
  refine V_aload_n rfl dX6_lieOf_8 ?_
  refine V_iload_n rfl dX6_lieOf_9 ?_
  refine cl_X6_196 (D_knows hK0 hT0 hok hrd2) (by assumption) rfl rfl ft0 (Nat.le_of_ble_eq_true rfl) dX6_lieOf_10 (fun rr s9 J1 hq2 => ?_)
  have hkn2 := kw_kn hq2
  obtain ⟨rfl, hs, -⟩ := id hq2
  have hs := hs.symm
  subst hs
  show V X _ sg J1 13 _ []
  have hW2 := hW0.kn hkn2
  refine V_aload_n rfl dX6_lieOf_13 ?_
  refine V_aload_n rfl dX6_lieOf_14 ?_
  refine V_iconst (nI 0) (by decide) dX6_lieOf_15 ?_
  refine cf_X6_202 (D_wrong hK0 hok hW2 (by decide) htr hq2.2.2.2.1 hq2.2.2.2.2.1) (by assumption) rfl rfl ft0 (Nat.le_of_ble_eq_true rfl) dX6_lieOf_16 ?_
  refine pf_X6_218 (by assumption) rfl dX6_lieOf_19 ?_
  refine V_bipush (-4) (by decide) dX6_lieOf_22 ?_
  refine V_ist4 rfl rfl dX6_lieOf_24 ?_
  refine V_iconst (nI 0) (by decide) dX6_lieOf_26 ?_
  refine V_ist5 rfl rfl dX6_lieOf_27 ?_
  exact loop (tF tv) 0 _ rfl (Nat.zero_le _) (hkn2.trans ⟨fun q hq => funext fun k => upI_ne (Or.inl hq), fun k _ _ _ h4 => upI_ne (Or.inr h4)⟩) upI_eq
theorem D_lie {i h w : Int32} (hM : MSt sg I x tv W P K) (hS : STok x tv W P K) : Ct m_X6_lie g [rf g 92, .int i, .int h, .int w] sg I (knQ sg I (fLie tv W i h w)) := by
  have hM0 := hM
  have hS0 := hS
  obtain ⟨hX0, hok, hnp, hns, ⟨hWok, hwk⟩, hPok, hKok⟩ := hS
  obtain ⟨hK, ⟨mlen, mtx⟩, hT, hW, mkept, mKs, mdone, mPs⟩ := hM
  have hK0 := hK
  have hT0 := hT
  have hW0 := hW
  obtain ⟨m0, mR1, mR3, mR4, mR5, mR6, mR7, mR8, mR10, mR16, mR17, mA93, mA94, mA95, mA96, mA97, mA98, mA99, mA100, mA101, mA102⟩ := hK
  obtain ⟨mF, mnL, mnP, mnS, mnB, mL, mP, mS, mB, mWd, mnw⟩ := hT
  have hF1 := hok.1
  have hF8 := hok.2.1
  have h256 := p2_le8 hF8
  have h16 := p2_le16 hF8
  have nL10 := hok.2.2.2.2.2.2.2.1
  have nP5 := hok.2.2.2.2.2.2.2.2.1
  have nS5 := hok.2.2.2.2.2.2.2.2.2.1
  have nB6 := hok.2.2.2.2.2.2.2.2.2.2
  have hmk := hWok.2.2.2.1
  have hn12 := hmk.1
  have htr := hWok.1
  have hnw := nw_le hF8
  have hnw0 := nw_pos hWok
  obtain ⟨wT0, wK0, wM0, wH0, wC0⟩ := id hW
  refine Ct.of rfl (Nat.le_of_ble_eq_true rfl) fun X => ?_
  show V X _ sg I 0 [some (rf g 92), some (.int i), some (.int h), some (.int w), none] []
  have hfin : ∀ i1 h1 w1, i1 < (tP tv).1 → (h1 = 1 ∨ h1 = 2) → w1 < 2 → i = nI i1 → h = nI h1 → w = nI w1 → V X (ZQ X (knQ sg I (fLie tv W i h w))) sg I 27 [some (rf g 92), some (.int (nI i1)), some (.int (nI h1)), some (.int (nI w1)), none] [] := by
    intro i1 h1 w1 hi1 hh1 hw1 ei eh ew
    have hf : fLie tv W i h w = (match (blF tv W i1 h1 (tF tv)).1 with
      | none => -4
      | some v => if w1 = 0 then nI v else nI (lieW tv W i1 h1 v)) := by
      unfold fLie
      rw [ifb_pos hi1 (by omega) ei, if_pos (by rw [eh]; rcases hh1 with rfl | rfl; exact Or.inl rfl; exact Or.inr rfl), ifb_pos hw1 (by decide) ew, eh, ix_nI (by omega)]; rfl
    rw [hf]
    cases hb : (blF tv W i1 h1 (tF tv)).1 with
    | none =>
      refine V_aload_n rfl dX6_lie_27 ?_
      refine V_iload_n rfl dX6_lie_28 ?_
      refine V_iload_n rfl dX6_lie_29 ?_
      refine cl_X6_221 (D_lieOf hM0 hS0 hi1 hh1) (by assumption) rfl rfl ft0 (Nat.le_of_ble_eq_true rfl) dX6_lie_30 (fun rr s9 J1 hq => ?_)
      obtain ⟨rfl, hs, hkn, -⟩ := hq
      have hs := hs.symm
      subst hs
      rw [hb]
      show V X _ sg J1 33 _ [.int (-4)]
      refine V_ist4 rfl rfl dX6_lie_33 ?_
      refine V_iload rfl dX6_lie_35 ?_
      refine V_if_lt 44 dX6_lie_37 (by decide) (fun h37 => ?_) (fun h37 => absurd h37 (by exact fun z => z (show (-4 : Int32) < 0 by decide)))
      refine V_iload rfl dX6_lie_44 ?_
      refine V_goto 53 dX6_lie_46 (by decide) ?_
      refine V_iret rfl rfl rfl ?_ dX6_lie_53
      exact ⟨rfl, rfl, hkn⟩
    | some v =>
      have hv := bl_lt (Nat.le_refl _) hb
      refine V_aload_n rfl dX6_lie_27 ?_
      refine V_iload_n rfl dX6_lie_28 ?_
      refine V_iload_n rfl dX6_lie_29 ?_
      refine cl_X6_221 (D_lieOf hM0 hS0 hi1 hh1) (by assumption) rfl rfl ft0 (Nat.le_of_ble_eq_true rfl) dX6_lie_30 (fun rr s9 J1 hq => ?_)
      obtain ⟨rfl, hs, hkn, h18⟩ := hq
      have hs := hs.symm
      subst hs
      rw [hv.2] at h18
      rw [hb]
      show V X _ sg J1 33 _ [.int (nI v)]
      refine V_ist4 rfl rfl dX6_lie_33 ?_
      refine V_iload rfl dX6_lie_35 ?_
      refine V_if_ltN 44 dX6_lie_37 (by decide) (by omega) ?_
      refine V_iload_n rfl dX6_lie_40 ?_
      refine V_if_neN 49 dX6_lie_41 (by decide) (by omega) (fun h41 => ?_) (fun h41 => ?_)
      · skip
        refine V_aload_n rfl dX6_lie_49 ?_
        refine gfe_X6_218 (by assumption) (by assumption) rfl dX6_lie_50 ?_
        refine V_iret rfl rfl rfl ?_ dX6_lie_53
        refine ⟨?_, rfl, hkn⟩
        first
        | exact congrArg (fun z => some (Value.int z)) (if_pos (show w1 = 0 by omega)).symm
        | exact congrArg (fun z => some (Value.int z)) (if_neg (show ¬ w1 = 0 by omega)).symm
      · skip
        refine V_iload rfl dX6_lie_44 ?_
        refine V_goto 53 dX6_lie_46 (by decide) ?_
        refine V_iret rfl rfl rfl ?_ dX6_lie_53
        refine ⟨?_, rfl, hkn⟩
        first
        | exact congrArg (fun z => some (Value.int z)) (if_pos (show w1 = 0 by omega)).symm
        | exact congrArg (fun z => some (Value.int z)) (if_neg (show ¬ w1 = 0 by omega)).symm
  refine V_aload_n rfl dX6_lie_0 ?_
  refine V_iload_n rfl dX6_lie_1 ?_
  refine cf_X6_119 (D_isPerson hK0 hT0 hok) (by assumption) rfl rfl ft0 (Nat.le_of_ble_eq_true rfl) dX6_lie_2 ?_
  refine V_if_eqB 25 dX6_lie_5 (by decide) (fun h5 => ?_) (fun h5 => ?_)
  · skip
    refine V_iconst (-1) (by decide) dX6_lie_25 ?_
    refine V_iret rfl rfl rfl ?_ dX6_lie_26
    refine ⟨?_, rfl, knF.refl⟩
    unfold fLie
    first
    | rw [ifb_neg h5]
    | rw [ifb_pos hi1 (by omega) rfl, if_neg h12]
    | rw [ifb_pos hi1 (by omega) rfl, if_pos h12, ifb_neg h22]
  · skip
    obtain ⟨i1, hi1, rfl⟩ := bel_ex (by omega) h5
    refine V_iload_n rfl dX6_lie_8 ?_
    refine cf_X6_187 (D_isRule) rfl rfl ft0 (Nat.le_of_ble_eq_true rfl) dX6_lie_9 ?_
    refine V_if_eqB 25 dX6_lie_12 (by decide) (fun h12 => ?_) (fun h12 => ?_)
    · skip
      refine V_iconst (-1) (by decide) dX6_lie_25 ?_
      refine V_iret rfl rfl rfl ?_ dX6_lie_26
      refine ⟨?_, rfl, knF.refl⟩
      unfold fLie
      first
      | rw [ifb_neg h5]
      | rw [ifb_pos hi1 (by omega) rfl, if_neg h12]
      | rw [ifb_pos hi1 (by omega) rfl, if_pos h12, ifb_neg h22]
    · skip
      obtain ⟨h1, hh1, rfl, -⟩ := isR_ix h12
      refine V_iload_n rfl dX6_lie_15 ?_
      refine V_i2l dX6_lie_16 ?_
      refine V_lconst (lN 0) rfl dX6_lie_17 ?_
      refine V_lconst (lN 1) rfl dX6_lie_18 ?_
      refine cf_X6_52 (C_in0k (k := 1) (by decide)) rfl rfl ft0 (Nat.le_of_ble_eq_true rfl) dX6_lie_19 ?_
      refine V_if_neB 27 dX6_lie_22 (by decide) (fun h22 => ?_) (fun h22 => ?_)
      · skip
        obtain ⟨w1, hw1, rfl⟩ := bel_ex (by decide) h22
        exact hfin i1 h1 w1 hi1 hh1 hw1 rfl rfl rfl
      · skip
        refine V_iconst (-1) (by decide) dX6_lie_25 ?_
        refine V_iret rfl rfl rfl ?_ dX6_lie_26
        refine ⟨?_, rfl, knF.refl⟩
        unfold fLie
        first
        | rw [ifb_neg h5]
        | rw [ifb_pos hi1 (by omega) rfl, if_neg h12]
        | rw [ifb_pos hi1 (by omega) rfl, if_pos h12, ifb_neg h22]
theorem D_safe {h : Int32} (hM : MSt sg I x tv W P K) (hS : STok x tv W P K) : Ct m_X6_safe g [rf g 92, .int h] sg I (knQ sg I (fSafe tv W h)) := by
  have hM0 := hM
  have hS0 := hS
  obtain ⟨hX0, hok, hnp, hns, ⟨hWok, hwk⟩, hPok, hKok⟩ := hS
  obtain ⟨hK, ⟨mlen, mtx⟩, hT, hW, mkept, mKs, mdone, mPs⟩ := hM
  have hK0 := hK
  have hT0 := hT
  have hW0 := hW
  obtain ⟨m0, mR1, mR3, mR4, mR5, mR6, mR7, mR8, mR10, mR16, mR17, mA93, mA94, mA95, mA96, mA97, mA98, mA99, mA100, mA101, mA102⟩ := hK
  obtain ⟨mF, mnL, mnP, mnS, mnB, mL, mP, mS, mB, mWd, mnw⟩ := hT
  have hF1 := hok.1
  have hF8 := hok.2.1
  have h256 := p2_le8 hF8
  have h16 := p2_le16 hF8
  have nL10 := hok.2.2.2.2.2.2.2.1
  have nP5 := hok.2.2.2.2.2.2.2.2.1
  have nS5 := hok.2.2.2.2.2.2.2.2.2.1
  have nB6 := hok.2.2.2.2.2.2.2.2.2.2
  have hmk := hWok.2.2.2.1
  have hn12 := hmk.1
  have htr := hWok.1
  have hnw := nw_le hF8
  have hnw0 := nw_pos hWok
  obtain ⟨wT0, wK0, wM0, wH0, wC0⟩ := id hW
  refine Ct.of rfl (Nat.le_of_ble_eq_true rfl) fun X => ?_
  show V X _ sg I 0 [some (rf g 92), some (.int h), none, none] []
  have hfin : ∀ h1, (h1 = 1 ∨ h1 = 2) → h = nI h1 → ∀ d k J, (tP tv).1 - k = d → k ≤ (tP tv).1 → knF I J → V X (ZQ X (knQ sg I (fSafe tv W h))) sg J 13 [some (rf g 92), some (.int (nI h1)), some (.int (bI (allB k (fun i => (blF tv W i h1 (tF tv)).1.isNone) = true))), some (.int (nI k))] [] := by
    intro h1 hh1 eh
    have hf : fSafe tv W h = bI (allB (tP tv).1 (fun i => (blF tv W i h1 (tF tv)).1.isNone) = true) := by
      unfold fSafe
      rw [if_pos (by rw [eh]; rcases hh1 with rfl | rfl; exact Or.inl rfl; exact Or.inr rfl), eh, ix_nI (by omega)]
    rw [hf]
    intro d
    induction d with
    | zero =>
      intro k J hd hkn hkf
      have e : k = (tP tv).1 := by omega
      subst e
      have hT1 := hT0.kn hkf
      refine V_iload_n rfl dX6_safe_13 ?_
      refine V_aload_n rfl dX6_safe_14 ?_
      refine gf_X6_13 (by assumption) (by assumption) rfl dX6_safe_15 ?_
      refine V_iconst (nI 2) (by decide) dX6_safe_18 ?_
      refine V_iald _ (by assumption) rfl (by omega) (by omega) dX6_safe_19 ?_
      refine V_topi (hT1.2.2.1) ?_
      refine V_icmp_geN 48 dX6_safe_20 (by decide) (by omega) (by omega) (fun h20 => ?_) (fun h20 => absurd h20 (by omega))
      refine V_iload_n rfl dX6_safe_48 ?_
      refine V_if_eqB 56 dX6_safe_49 (by decide) (fun h49 => ?_) (fun h49 => ?_)
      · skip
        refine V_iconst (nI 0) (by decide) dX6_safe_56 ?_
        refine V_iret rfl rfl rfl ?_ dX6_safe_57
        first
        | (rw [bI_t h49]; exact ⟨rfl, rfl, hkf⟩)
        | (rw [bI_f h49]; exact ⟨rfl, rfl, hkf⟩)
      · skip
        refine V_iconst (nI 1) (by decide) dX6_safe_52 ?_
        refine V_goto 57 dX6_safe_53 (by decide) ?_
        refine V_iret rfl rfl rfl ?_ dX6_safe_57
        first
        | (rw [bI_t h49]; exact ⟨rfl, rfl, hkf⟩)
        | (rw [bI_f h49]; exact ⟨rfl, rfl, hkf⟩)
    | succ d ih =>
      intro k J hd hkn hkf
      have hkl : k < (tP tv).1 := by omega
      have hT1 := hT0.kn hkf
      have hM1 := hM0.kn hkf
      have ha : allB (k + 1) (fun i => (blF tv W i h1 (tF tv)).1.isNone) = (allB k (fun i => (blF tv W i h1 (tF tv)).1.isNone) && (blF tv W k h1 (tF tv)).1.isNone) := rfl
      have hih := fun J hkf => ih (k + 1) J (by omega) (by omega) hkf
      rw [ha] at hih
      cases hb : (blF tv W k h1 (tF tv)).1 with
      | none =>
        rw [hb] at hih
        have hE1 : allB k (fun i => (blF tv W i h1 (tF tv)).1.isNone) = true → bI ((allB k (fun i => (blF tv W i h1 (tF tv)).1.isNone) && (none : Option Nat).isNone) = true) = nI 1 := fun z => bI_t (by rw [z]; rfl)
        have hE0 : ¬ allB k (fun i => (blF tv W i h1 (tF tv)).1.isNone) = true → bI ((allB k (fun i => (blF tv W i h1 (tF tv)).1.isNone) && (none : Option Nat).isNone) = true) = nI 0 := fun z => bI_f (fun y => by rw [Bool.and_eq_true] at y; exact z y.1)
        refine V_iload_n rfl dX6_safe_13 ?_
        refine V_aload_n rfl dX6_safe_14 ?_
        refine gf_X6_13 (by assumption) (by assumption) rfl dX6_safe_15 ?_
        refine V_iconst (nI 2) (by decide) dX6_safe_18 ?_
        refine V_iald _ (by assumption) rfl (by omega) (by omega) dX6_safe_19 ?_
        refine V_topi (hT1.2.2.1) ?_
        refine V_icmp_geN 48 dX6_safe_20 (by decide) (by omega) (by omega) (fun h20 => absurd h20 (by omega)) (fun h20 => ?_)
        refine V_iload_n rfl dX6_safe_23 ?_
        refine V_if_eqB 40 dX6_safe_24 (by decide) (fun h24 => ?_) (fun h24 => ?_)
        · skip
          refine V_iconst (nI 0) (by decide) dX6_safe_40 ?_
          refine V_ist2 rfl rfl dX6_safe_41 ?_
          refine V_iinc3_ _ (nI_inc _) rfl rfl dX6_safe_42 ?_
          refine V_goto 13 dX6_safe_45 (by decide) ?_
          first
          | (have h9 := hih J hkf; rw [hE0 h24] at h9; exact h9)
          | (rw [hE1 h24] at h9; exact h9)
        · skip
          refine V_aload_n rfl dX6_safe_27 ?_
          refine V_iload_n rfl dX6_safe_28 ?_
          refine V_iload_n rfl dX6_safe_29 ?_
          refine cl_X6_221 (D_lieOf hM1 hS0 hkl hh1) (by assumption) rfl rfl ft0 (Nat.le_of_ble_eq_true rfl) dX6_safe_30 (fun rr s9 J1 hq => ?_)
          obtain ⟨rfl, hs, hkn1, -⟩ := hq
          have hs := hs.symm
          subst hs
          rw [hb]
          show V X _ sg J1 33 _ [.int (-4)]
          have h9 := hih J1 (hkf.trans hkn1)
          refine V_if_ge 40 dX6_safe_33 (by decide) (fun h33 => absurd h33 (by exact fun z => absurd (show (-4 : Int32) < 0 by decide) (by rw [Int32.not_lt]; exact z))) (fun h33 => ?_)
          refine V_iconst (nI 1) (by decide) dX6_safe_36 ?_
          refine V_goto 41 dX6_safe_37 (by decide) ?_
          refine V_ist2 rfl rfl dX6_safe_41 ?_
          refine V_iinc3_ _ (nI_inc _) rfl rfl dX6_safe_42 ?_
          refine V_goto 13 dX6_safe_45 (by decide) ?_
          first
          | (have h9 := hih J hkf; rw [hE0 h24] at h9; exact h9)
          | (rw [hE1 h24] at h9; exact h9)
      | some v =>
        rw [hb] at hih
        have hE2 : bI ((allB k (fun i => (blF tv W i h1 (tF tv)).1.isNone) && (some v).isNone) = true) = nI 0 := bI_f (fun y => by rw [Bool.and_eq_true] at y; cases y.2)
        have hv := (bl_lt (Nat.le_refl _) hb).1
        refine V_iload_n rfl dX6_safe_13 ?_
        refine V_aload_n rfl dX6_safe_14 ?_
        refine gf_X6_13 (by assumption) (by assumption) rfl dX6_safe_15 ?_
        refine V_iconst (nI 2) (by decide) dX6_safe_18 ?_
        refine V_iald _ (by assumption) rfl (by omega) (by omega) dX6_safe_19 ?_
        refine V_topi (hT1.2.2.1) ?_
        refine V_icmp_geN 48 dX6_safe_20 (by decide) (by omega) (by omega) (fun h20 => absurd h20 (by omega)) (fun h20 => ?_)
        refine V_iload_n rfl dX6_safe_23 ?_
        refine V_if_eqB 40 dX6_safe_24 (by decide) (fun h24 => ?_) (fun h24 => ?_)
        · skip
          refine V_iconst (nI 0) (by decide) dX6_safe_40 ?_
          refine V_ist2 rfl rfl dX6_safe_41 ?_
          refine V_iinc3_ _ (nI_inc _) rfl rfl dX6_safe_42 ?_
          refine V_goto 13 dX6_safe_45 (by decide) ?_
          first
          | (have h9 := hih J hkf; rw [hE2] at h9; exact h9)
          | (rw [hE2] at h9; exact h9)
        · skip
          refine V_aload_n rfl dX6_safe_27 ?_
          refine V_iload_n rfl dX6_safe_28 ?_
          refine V_iload_n rfl dX6_safe_29 ?_
          refine cl_X6_221 (D_lieOf hM1 hS0 hkl hh1) (by assumption) rfl rfl ft0 (Nat.le_of_ble_eq_true rfl) dX6_safe_30 (fun rr s9 J1 hq => ?_)
          obtain ⟨rfl, hs, hkn1, -⟩ := hq
          have hs := hs.symm
          subst hs
          rw [hb]
          show V X _ sg J1 33 _ [.int (nI v)]
          have h9 := hih J1 (hkf.trans hkn1)
          refine V_if_geN 40 dX6_safe_33 (by decide) (by omega) ?_
          refine V_iconst (nI 0) (by decide) dX6_safe_40 ?_
          refine V_ist2 rfl rfl dX6_safe_41 ?_
          refine V_iinc3_ _ (nI_inc _) rfl rfl dX6_safe_42 ?_
          refine V_goto 13 dX6_safe_45 (by decide) ?_
          first
          | (have h9 := hih J hkf; rw [hE2] at h9; exact h9)
          | (rw [hE2] at h9; exact h9)
  refine V_iload_n rfl dX6_safe_0 ?_
  refine cf_X6_187 (D_isRule) rfl rfl ft0 (Nat.le_of_ble_eq_true rfl) dX6_safe_1 ?_
  refine V_if_neB 9 dX6_safe_4 (by decide) (fun h4 => ?_) (fun h4 => ?_)
  · skip
    obtain ⟨h1, hh1, rfl, -⟩ := isR_ix h4
    refine V_iconst (nI 1) (by decide) dX6_safe_9 ?_
    refine V_ist2 rfl rfl dX6_safe_10 ?_
    refine V_iconst (nI 0) (by decide) dX6_safe_11 ?_
    refine V_ist3 rfl rfl dX6_safe_12 ?_
    exact hfin h1 hh1 rfl _ 0 I rfl (Nat.zero_le _) knF.refl
  · skip
    refine V_iconst (-1) (by decide) dX6_safe_7 ?_
    refine V_iret rfl rfl rfl ?_ dX6_safe_8
    exact ⟨by unfold fSafe; rw [if_neg h4], rfl, knF.refl⟩
end MLIE
