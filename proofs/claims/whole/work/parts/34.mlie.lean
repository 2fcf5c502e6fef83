/-! CarvedWeeksModel: soonest, lies -/
section MLIE
variable {g : GC} {sg : SG} {I : IM} {x : XV} {tv : TV} {W : WV} {P K : SV} {np : Nat}
theorem D_soonest {s : Int32} (hM : MSt sg I x tv W P K) (hS : STok x tv W P K) : Ct m_X6_soonest g [rf g 92, .int s] sg I (knQ sg I (fSoonest tv W s)) := by
  have hM0 := hM
  have hS0 := hS
  obtain ⟨hX0, hok, hnp, hns, ⟨hWok, hwk⟩, hPok, hKok⟩ := hS
  obtain ⟨hK, ⟨mlen, mtx⟩, hT, hW, mkept, mKs, mdone, mPs⟩ := hM
  have hK0 := hK
  have hT0 := hT
  have hW0 := hW
  obtain ⟨m0, mR1, mR3, mR4, mR5, mR6, mR7, mR8, mR10, mR16, mR17, mA93, mA94, mA95, mA96, mA97, mA98, mA99, mA100, mA101, mA102⟩ := hK
  obtain ⟨mF, mnL, mnP, mnS, mnB, mL, mP, mS, mB, mWd, mnw⟩ := hT
  have hF1 := hok.1
  have hF8 := hok.2.1
  have h256 := p2_le8 hF8
  have h16 := p2_le16 hF8
  have nL10 := hok.2.2.2.2.2.2.2.1
  have nP5 := hok.2.2.2.2.2.2.2.2.1
  have nS5 := hok.2.2.2.2.2.2.2.2.2.1
  have nB6 := hok.2.2.2.2.2.2.2.2.2.2
  have hmk := hWok.2.2.2.1
  have hn12 := hmk.1
  have htr := hWok.1
  have hnw := nw_le hF8
  have hnw0 := nw_pos hWok
  obtain ⟨wT0, wK0, wM0, wH0, wC0⟩ := id hW
  refine Ct.of rfl (Nat.le_of_ble_eq_true rfl) fun X => ?_
  show V X _ sg I 0 [some (rf g 92), some (.int s), none, none, none, none, none] []
  have hfin : ∀ j, j < 2 ^ tF tv → s = nI j → ∀ J, knF I J → V X (ZQ X (knQ sg I (fSoonest tv W s))) sg J 24 [some (rf g 92), some (.int s), some (.int (nI (pc16 (lstN tv W j)))), some (.int (nI 0)), some (.int (nI 1)), none, none] [] := by
    intro j hj es J hf
    have hT1 := hT0.kn hf
    have hW1 := hW0.kn hf
    have hnS := hT1.2.2.2.1
    have hpj : pc16 (lstN tv W j) ≤ 8 := Nat.le_trans (pc_lt (lst_spec (W := W) hj).1 (by omega)) hF8
    obtain ⟨z0, hz0⟩ : ∃ z0, z0 = (pc16 (lstN tv W j), 0) := ⟨_, rfl⟩
    have hff : fSoonest tv W s = if 0 < (snC tv W 9 z0).1 then -4 else nI (snC tv W 9 z0).2 := by unfold fSoonest; rw [ifb_pos hj (by omega) es, hz0]
    rw [hff]
    have hS1 : ∀ c n z, (snS tv W c n z).1 ≤ z.1 := by
      intro c n z
      induction n with
      | zero => exact Nat.le_refl _
      | succ n ih => unfold snS; split; exact Nat.le_trans (Nat.sub_le _ _) ih; exact ih
    have hC1 : ∀ c, (snC tv W c z0).1 ≤ 8 := by
      intro c
      induction c with
      | zero => rw [hz0]; exact hpj
      | succ c ih => exact Nat.le_trans (hS1 _ _ _) ih
    have inner : ∀ (c : Nat), c < 9 → (∀ z1 z2, okp z1 = true → okp z2 = true → V X (ZQ X (knQ sg I (if 0 < (snC tv W 9 z0).1 then -4 else nI (snC tv W 9 z0).2))) sg J 102 [some (rf g 92), some (.int s), some (.int (nI (snC tv W (c + 1) z0).1)), some (.int (nI (snC tv W (c + 1) z0).2)), some (.int (nI (c + 1))), z1, z2] []) →
        ∀ (d k a b : Nat) (z : Option Value), okp z = true → (tS tv).1 - k = d → k ≤ (tS tv).1 → a = (snS tv W (c + 1) k (snC tv W c z0)).1 → b = (snS tv W (c + 1) k (snC tv W c z0)).2 →
        V X (ZQ X (knQ sg I (if 0 < (snC tv W 9 z0).1 then -4 else nI (snC tv W 9 z0).2))) sg J 34 [some (rf g 92), some (.int s), some (.int (nI a)), some (.int (nI b)), some (.int (nI (c + 1))), some (.int (nI k)), z] [] := by
      intro c hc hexit d
      induction d with
      | zero =>
        intro k a b z hz hd hkn ea eb
        have e : k = (tS tv).1 := by omega
        subst e
        subst ea
        subst eb
        refine V_iload rfl dX6_soonest_34 ?_
        refine V_aload_n rfl dX6_soonest_36 ?_
        refine gf_X6_13 (by assumption) (by assumption) rfl dX6_soonest_37 ?_
        refine V_iconst (nI 3) (by decide) dX6_soonest_40 ?_
        refine V_iald _ (by assumption) rfl (by omega) (by omega) dX6_soonest_41 ?_
        refine V_topi (hnS) ?_
        refine V_icmp_geN 102 dX6_soonest_42 (by decide) (by omega) (by omega) (fun h42 => ?_) (fun h42 => absurd h42 (by omega))
        exact hexit _ _ rfl hz
      | succ d ih =>
        intro k a b z hz hd hkn ea eb
        have hkl : k < (tS tv).1 := by omega
        have hih := fun a b z hz => ih (k + 1) a b z hz (by omega) (by omega)
        have hle := Nat.le_trans (hS1 (c + 1) k (snC tv W c z0)) (hC1 c)
        have hhr : hrsN tv k ≤ 9 := by
          have := hok.2.2.2.2.2.1 k hkl
          unfold hrsN; split <;> omega
        have hfr : freeN tv W k ≤ 6 := Nat.le_trans (Nat.sub_le _ _) (hok.2.2.2.2.2.1 k hkl).2.1
        have e1 : snS tv W (c + 1) (k + 1) (snC tv W c z0) = if hrsN tv k = c + 1 then (a - min a (freeN tv W k), b + min a (freeN tv W k) * (c + 1)) else (a, b) := by
          rw [ea, eb]; rfl
        rw [e1] at hih
        refine V_iload rfl dX6_soonest_34 ?_
        refine V_aload_n rfl dX6_soonest_36 ?_
        refine gf_X6_13 (by assumption) (by assumption) rfl dX6_soonest_37 ?_
        refine V_iconst (nI 3) (by decide) dX6_soonest_40 ?_
        refine V_iald _ (by assumption) rfl (by omega) (by omega) dX6_soonest_41 ?_
        refine V_topi (hnS) ?_
        refine V_icmp_geN 102 dX6_soonest_42 (by decide) (by omega) (by omega) (fun h42 => absurd h42 (by omega)) (fun h42 => ?_)
        refine V_aload_n rfl dX6_soonest_45 ?_
        refine V_iload rfl dX6_soonest_46 ?_
        refine cf_X6_155 (D_costs hK0 hT1 hok hkl) (by assumption) rfl rfl ft0 (Nat.le_of_ble_eq_true rfl) dX6_soonest_48 ?_
        refine V_iload rfl dX6_soonest_51 ?_
        refine V_icmp_neN 66 dX6_soonest_53 (by decide) (by omega) (by omega) (fun h53 => ?_) (fun h53 => ?_)
        · skip
          refine V_iconst (nI 0) (by decide) dX6_soonest_66 ?_
          refine V_ist6 rfl rfl dX6_soonest_67 ?_
          refine V_iload rfl dX6_soonest_69 ?_
          refine V_iload_n rfl dX6_soonest_71 ?_
          refine V_icmp_geN 80 dX6_soonest_72 (by decide) (by omega) (by omega) (fun h72 => ?_) (fun h72 => ?_)
          · skip
            refine V_iload_n rfl dX6_soonest_80 ?_
            refine V_ist6 rfl rfl dX6_soonest_81 ?_
            refine V_iload_n rfl dX6_soonest_83 ?_
            refine V_iload rfl dX6_soonest_84 ?_
            refine V_iload rfl dX6_soonest_86 ?_
            refine V_imulN dX6_soonest_88 ?_
            refine V_iaddN dX6_soonest_89 ?_
            refine V_ist3 rfl rfl dX6_soonest_90 ?_
            refine V_iload_n rfl dX6_soonest_91 ?_
            refine V_iload rfl dX6_soonest_92 ?_
            refine V_isubN (by omega) dX6_soonest_94 ?_
            refine V_ist2 rfl rfl dX6_soonest_95 ?_
            refine V_iinc5_ _ (nI_inc _) rfl rfl dX6_soonest_96 ?_
            refine V_goto 34 dX6_soonest_99 (by decide) ?_
            first
            | (rw [if_neg h53] at hih; exact hih _ _ _ rfl (by show a - _ = a; omega) (by first | (rw [Nat.zero_mul]; rfl) | (rw [show a = 0 by omega, Nat.zero_mul]; rfl)))
            | (rw [if_pos h53] at hih; exact hih _ _ _ rfl (by show a - _ = a - min a _; omega) (by first | (rw [Nat.min_eq_right (show freeN tv W k ≤ a by omega)]) | (rw [Nat.min_eq_left (show a ≤ freeN tv W k by omega)])))
          · skip
            refine V_iload rfl dX6_soonest_75 ?_
            refine V_goto 81 dX6_soonest_77 (by decide) ?_
            refine V_ist6 rfl rfl dX6_soonest_81 ?_
            refine V_iload_n rfl dX6_soonest_83 ?_
            refine V_iload rfl dX6_soonest_84 ?_
            refine V_iload rfl dX6_soonest_86 ?_
            refine V_imulN dX6_soonest_88 ?_
            refine V_iaddN dX6_soonest_89 ?_
            refine V_ist3 rfl rfl dX6_soonest_90 ?_
            refine V_iload_n rfl dX6_soonest_91 ?_
            refine V_iload rfl dX6_soonest_92 ?_
            refine V_isubN (by omega) dX6_soonest_94 ?_
            refine V_ist2 rfl rfl dX6_soonest_95 ?_
            refine V_iinc5_ _ (nI_inc _) rfl rfl dX6_soonest_96 ?_
            refine V_goto 34 dX6_soonest_99 (by decide) ?_
            first
            | (rw [if_neg h53] at hih; exact hih _ _ _ rfl (by show a - _ = a; omega) (by first | (rw [Nat.zero_mul]; rfl) | (rw [show a = 0 by omega, Nat.zero_mul]; rfl)))
            | (rw [if_pos h53] at hih; exact hih _ _ _ rfl (by show a - _ = a - min a _; omega) (by first | (rw [Nat.min_eq_right (show freeN tv W k ≤ a by omega)]) | (rw [Nat.min_eq_left (show a ≤ freeN tv W k by omega)])))
        · skip
          refine V_aload_n rfl dX6_soonest_56 ?_
          refine V_iconst (nI 0) (by decide) dX6_soonest_57 ?_
          refine V_iload rfl dX6_soonest_58 ?_
          refine cf_X6_127 (D_free hK0 hT1 hok hW1 (by decide) hmk hkl) (by assumption) rfl rfl ft0 (Nat.le_of_ble_eq_true rfl) dX6_soonest_60 ?_
          refine V_goto 67 dX6_soonest_63 (by decide) ?_
          refine V_ist6 rfl rfl dX6_soonest_67 ?_
          refine V_iload rfl dX6_soonest_69 ?_
          refine V_iload_n rfl dX6_soonest_71 ?_
          refine V_icmp_geN 80 dX6_soonest_72 (by decide) (by omega) (by omega) (fun h72 => ?_) (fun h72 => ?_)
          · skip
            refine V_iload_n rfl dX6_soonest_80 ?_
            refine V_ist6 rfl rfl dX6_soonest_81 ?_
            refine V_iload_n rfl dX6_soonest_83 ?_
            refine V_iload rfl dX6_soonest_84 ?_
            refine V_iload rfl dX6_soonest_86 ?_
            refine V_imulN dX6_soonest_88 ?_
            refine V_iaddN dX6_soonest_89 ?_
            refine V_ist3 rfl rfl dX6_soonest_90 ?_
            refine V_iload_n rfl dX6_soonest_91 ?_
            refine V_iload rfl dX6_soonest_92 ?_
            refine V_isubN (by omega) dX6_soonest_94 ?_
            refine V_ist2 rfl rfl dX6_soonest_95 ?_
            refine V_iinc5_ _ (nI_inc _) rfl rfl dX6_soonest_96 ?_
            refine V_goto 34 dX6_soonest_99 (by decide) ?_
            first
            | (rw [if_neg h53] at hih; exact hih _ _ _ rfl (by show a - _ = a; omega) (by first | (rw [Nat.zero_mul]; rfl) | (rw [show a = 0 by omega, Nat.zero_mul]; rfl)))
            | (rw [if_pos h53] at hih; exact hih _ _ _ rfl (by show a - _ = a - min a _; omega) (by first | (rw [Nat.min_eq_right (show freeN tv W k ≤ a by omega)]) | (rw [Nat.min_eq_left (show a ≤ freeN tv W k by omega)])))
          · skip
            refine V_iload rfl dX6_soonest_75 ?_
            refine V_goto 81 dX6_soonest_77 (by decide) ?_
            refine V_ist6 rfl rfl dX6_soonest_81 ?_
            refine V_iload_n rfl dX6_soonest_83 ?_
            refine V_iload rfl dX6_soonest_84 ?_
            refine V_iload rfl dX6_soonest_86 ?_
            refine V_imulN dX6_soonest_88 ?_
            refine V_iaddN dX6_soonest_89 ?_
            refine V_ist3 rfl rfl dX6_soonest_90 ?_
            refine V_iload_n rfl dX6_soonest_91 ?_
            refine V_iload rfl dX6_soonest_92 ?_
            refine V_isubN (by omega) dX6_soonest_94 ?_
            refine V_ist2 rfl rfl dX6_soonest_95 ?_
            refine V_iinc5_ _ (nI_inc _) rfl rfl dX6_soonest_96 ?_
            refine V_goto 34 dX6_soonest_99 (by decide) ?_
            first
            | (rw [if_neg h53] at hih; exact hih _ _ _ rfl (by show a - _ = a; omega) (by first | (rw [Nat.zero_mul]; rfl) | (rw [show a = 0 by omega, Nat.zero_mul]; rfl)))
            | (rw [if_pos h53] at hih; exact hih _ _ _ rfl (by show a - _ = a - min a _; omega) (by first | (rw [Nat.min_eq_right (show freeN tv W k ≤ a by omega)]) | (rw [Nat.min_eq_left (show a ≤ freeN tv W k by omega)])))
    have outer : ∀ (d c : Nat) (z z' : Option Value), okp z = true → okp z' = true → 9 - c = d → c ≤ 9 →
        V X (ZQ X (knQ sg I (if 0 < (snC tv W 9 z0).1 then -4 else nI (snC tv W 9 z0).2))) sg J 24 [some (rf g 92), some (.int s), some (.int (nI (snC tv W c z0).1)), some (.int (nI (snC tv W c z0).2)), some (.int (nI (c + 1))), z, z'] [] := by
      intro d
      induction d with
      | zero =>
        intro c z z' hz hz' hd hc
        have e : c = 9 := by omega
        subst e
        have h9 := hC1 9
        refine V_iload rfl dX6_soonest_24 ?_
        refine V_bipush (nI 10) (by decide) dX6_soonest_26 ?_
        refine V_icmp_geN 108 dX6_soonest_28 (by decide) (by omega) (by omega) (fun h28 => ?_) (fun h28 => absurd h28 (by omega))
        refine V_iload_n rfl dX6_soonest_108 ?_
        refine V_if_neN 116 dX6_soonest_109 (by decide) (by omega) (fun h109 => ?_) (fun h109 => ?_)
        · skip
          refine V_bipush (-4) (by decide) dX6_soonest_116 ?_
          refine V_iret rfl rfl rfl ?_ dX6_soonest_118
          first
          | (rw [if_pos (by omega)]; exact ⟨rfl, rfl, hf⟩)
          | (rw [if_neg (by omega)]; exact ⟨rfl, rfl, hf⟩)
        · skip
          refine V_iload_n rfl dX6_soonest_112 ?_
          refine V_goto 118 dX6_soonest_113 (by decide) ?_
          refine V_iret rfl rfl rfl ?_ dX6_soonest_118
          first
          | (rw [if_pos (by omega)]; exact ⟨rfl, rfl, hf⟩)
          | (rw [if_neg (by omega)]; exact ⟨rfl, rfl, hf⟩)
      | succ d ih =>
        intro c z z' hz hz' hd hc
        refine V_iload rfl dX6_soonest_24 ?_
        refine V_bipush (nI 10) (by decide) dX6_soonest_26 ?_
        refine V_icmp_geN 108 dX6_soonest_28 (by decide) (by omega) (by omega) (fun h28 => absurd h28 (by omega)) (fun h28 => ?_)
        refine V_iconst (nI 0) (by decide) dX6_soonest_31 ?_
        refine V_ist5 rfl rfl dX6_soonest_32 ?_
        refine inner c (by omega) (fun z1 z2 hz1 hz2 => ?_) (tS tv).1 0 _ _ _ hz' (by omega) (by omega) rfl rfl
        refine V_iinc4_ _ (nI_inc _) rfl rfl dX6_soonest_102 ?_
        refine V_goto 24 dX6_soonest_105 (by decide) ?_
        exact ih (c + 1) _ _ hz1 hz2 (by omega) (by omega)
    rw [show pc16 (lstN tv W j) = (snC tv W 0 z0).1 by rw [hz0]; rfl]
    have h7 := outer 9 0 none none rfl rfl (by omega) (by omega)
    rw [show (snC tv W 0 z0).2 = 0 by rw [hz0]; rfl] at h7
    exact h7
  refine V_aload_n rfl dX6_soonest_0 ?_
  refine V_iload_n rfl dX6_soonest_1 ?_
  refine cf_X6_143 (D_isSet hK0 hT0 hok) (by assumption) rfl rfl ft0 (Nat.le_of_ble_eq_true rfl) dX6_soonest_2 ?_
  refine V_if_neB 10 dX6_soonest_5 (by decide) (fun h5 => ?_) (fun h5 => ?_)
  · skip
    obtain ⟨j, hj, rfl⟩ := bel_ex (by omega) h5
    refine V_aload_n rfl dX6_soonest_10 ?_
    refine V_iload_n rfl dX6_soonest_11 ?_
    refine cl_X6_215 (D_leastOf hM0 hS0 hj) (by assumption) rfl rfl ft0 (Nat.le_of_ble_eq_true rfl) dX6_soonest_12 (fun rr s9 J1 hq => ?_)
    obtain ⟨rfl, hs9, hkn⟩ := hq
    have hs9 := hs9.symm
    subst hs9
    show V X _ sg J1 15 _ [.int (nI (lstN tv W j))]
    refine cf_X6_149 (D_many (Nat.lt_of_lt_of_le (lst_spec (W := W) hj).1 (by omega))) rfl rfl ft0 (Nat.le_of_ble_eq_true rfl) dX6_soonest_15 ?_
    refine V_ist2 rfl rfl dX6_soonest_18 ?_
    refine V_iconst (nI 0) (by decide) dX6_soonest_19 ?_
    refine V_ist3 rfl rfl dX6_soonest_20 ?_
    refine V_iconst (nI 1) (by decide) dX6_soonest_21 ?_
    refine V_ist4 rfl rfl dX6_soonest_22 ?_
    exact hfin j hj rfl J1 hkn
  · skip
    refine V_iconst (-1) (by decide) dX6_soonest_8 ?_
    refine V_iret rfl rfl rfl ?_ dX6_soonest_9
    exact ⟨by unfold fSoonest; rw [ifb_neg h5], rfl, knF.refl⟩
end MLIE
