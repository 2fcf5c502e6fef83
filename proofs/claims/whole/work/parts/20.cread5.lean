/-! CarvedWeeks: lies, safe, sale -/
def lieW (tv : TV) (W : WV) (i h v : Nat) : Nat := wrgN tv (wT W) (if h ≤ hdsN tv W v 99 i then rdN tv W h 99 ||| 2 ^ v else rdN tv W h 99)
def blF (tv : TV) (W : WV) (i h : Nat) : Nat → Option Nat × Nat
  | 0 => (none, wrgN tv (wT W) (rdN tv W h 99))
  | k + 1 => if (blF tv W i h k).2 < lieW tv W i h (tsy k (wT W) ^^^ 1) then (some (tsy k (wT W) ^^^ 1), lieW tv W i h (tsy k (wT W) ^^^ 1)) else blF tv W i h k
noncomputable def fLie (tv : TV) (W : WV) (i h w : Int32) : Int32 := ifb i (tP tv).1 (fun i => if h = nI 1 ∨ h = nI 2 then ifb w 2 (fun w => match (blF tv W i (ix h) (tF tv)).1 with
  | none => -4
  | some v => if w = 0 then nI v else nI (lieW tv W i (ix h) v)) (-1) else -1) (-1)
noncomputable def fSafe (tv : TV) (W : WV) (h : Int32) : Int32 := if h = nI 1 ∨ h = nI 2 then bI (allB (tP tv).1 (fun i => (blF tv W i (ix h) (tF tv)).1.isNone) = true) else -1
theorem xor1_lt {v n : Nat} (h : v < 2 * n) : v ^^^ 1 < 2 * n := by
  have h1 : (v ^^^ 1) / 2 = v / 2 := by
    have e : (v ^^^ 1) >>> 1 = (v >>> 1) ^^^ (1 >>> 1) := Nat.shiftRight_xor_distrib
    rw [Nat.shiftRight_eq_div_pow, Nat.shiftRight_eq_div_pow] at e
    exact e.trans (Nat.xor_zero _)
  have h2 := Nat.div_add_mod (v ^^^ 1) 2
  have h3 := Nat.mod_lt (v ^^^ 1) (show 2 > 0 by decide)
  omega
theorem bl_lt {tv : TV} {W : WV} {i h v : Nat} : ∀ {k : Nat}, k ≤ tF tv → (blF tv W i h k).1 = some v → v < 2 * tF tv ∧ (blF tv W i h k).2 = lieW tv W i h v
  | 0, _, z => by cases z
  | k + 1, hk, z => by
    have e1 : blF tv W i h (k + 1) = if (blF tv W i h k).2 < lieW tv W i h (tsy k (wT W) ^^^ 1) then (some (tsy k (wT W) ^^^ 1), lieW tv W i h (tsy k (wT W) ^^^ 1)) else blF tv W i h k := rfl
    rw [e1] at z ⊢
    by_cases c : (blF tv W i h k).2 < lieW tv W i h (tsy k (wT W) ^^^ 1)
    · rw [if_pos c] at z ⊢
      cases z
      exact ⟨xor1_lt (tsy_lt (by omega)), rfl⟩
    · rw [if_neg c] at z ⊢
      exact bl_lt (by omega) z
theorem wrg_le {tv : TV} {tr rd : Nat} : wrgN tv tr rd ≤ 2 * tF tv := cnt_le _ _
theorem isR_ix {h : Int32} (e : h = nI 1 ∨ h = nI 2) : ∃ j, (j = 1 ∨ j = 2) ∧ h = nI j ∧ ix h = j := by
  rcases e with rfl | rfl
  · exact ⟨1, Or.inl rfl, rfl, rfl⟩
  · exact ⟨2, Or.inr rfl, rfl, rfl⟩
section CREAD5
variable {g : GC} {sg : SG} {I : IM} {A B : Nat} {x : XV} {tv : TV} {W : WV} {P K : SV}
theorem X_wrongByLie {i h v : Nat} (hC : CSt sg I A B x tv W P K) (hS : STok x tv W P K) (hi : i < (tP tv).1) (hh : h = 1 ∨ h = 2) (hv : v < 2 * tF tv) : Fn m_X5_wrongByLie g [rf g 0, .int (nI i), .int (nI h), .int (nI v), .int (nI (rdN tv W h 99))] sg I (some (.int (nI (lieW tv W i h v)))) sg I := by
  have hC0 := hC
  have hS0 := hS
  obtain ⟨hX0, hok, hnp, hns, ⟨hWok, hwk⟩, hPok, hKok⟩ := hS
  obtain ⟨⟨kc, c0, c1, c2, c3, c4, c5, c6, hAB, kt, u0, u1⟩, ⟨hXt, cX⟩, ⟨nn, hNt⟩, hPs, hKs, hW, hD, ⟨hT, hWl⟩, hB⟩ := hC
  have hmk := hWok.2.2.2.1
  have hn12 := hmk.1
  have hF1 := hok.1
  have hF8 := hok.2.1
  have h256 := p2_le8 hF8
  have h16 := p2_le16 hF8
  have hnw := nw_le hF8
  have hnw0 := nw_pos hWok
  have htr := hWok.1
  obtain ⟨⟨wk, w0, w1⟩, we2, we3, ⟨hM, cM⟩, hH, cH⟩ := id hW
  obtain ⟨⟨tk, t0, t1, t2, t3, t4⟩, tF5, tX6, ⟨hLt, cL⟩, ⟨hPt, cP⟩, ⟨hSt, cS⟩, ⟨hBt, cB⟩⟩ := id hT
  obtain ⟨hWt, cW⟩ := id hWl
  have kX := hXt.1
  have kM := hM.1
  have kH := hH.1
  have kL := hLt.1
  have kP := hPt.1
  have kS := hSt.1
  have kB := hBt.1
  have kW := hWt.1
  have nL10 := hLt.2.2.2.2.2.2.1
  have nP5 := hPt.2.2.2.2.2.2.1
  have nS5 := hSt.2.2.2.2.2.2.1
  have nB6 := hBt.2.2.2.2.2.2.1
  have kP0 := hPs.1.1
  have kK0 := hKs.1.1
  have hl : hdsN tv W v 99 i ≤ 9 := hds_le
  have hrl : rdN tv W h 99 < 2 ^ (2 * tF tv) := rd_lt
  have hro := knw_or (tv := tv) v hv hrl
  refine Ct.of rfl (Nat.le_of_ble_eq_true rfl) fun X => ?_
  show V X _ sg I 0 [some (rf g 0), some (.int (nI i)), some (.int (nI h)), some (.int (nI v)), some (.int (nI (rdN tv W h 99))), none] []
  by_cases hx : h ≤ hdsN tv W v 99 i
  · have e : lieW tv W i h v = wrgN tv (wT W) (rdN tv W h 99 ||| 2 ^ v) := by unfold lieW; rw [if_pos hx]
    rw [e]
    refine V_aload_n rfl dX5_wrongByLie_0 ?_
    refine gf_X5_31 (by assumption) (by assumption) rfl dX5_wrongByLie_1 ?_
    refine V_aload_n rfl dX5_wrongByLie_4 ?_
    refine gf_X5_41 (by assumption) (by assumption) rfl dX5_wrongByLie_5 ?_
    refine V_iload_n rfl dX5_wrongByLie_8 ?_
    refine V_iload_n rfl dX5_wrongByLie_9 ?_
    refine cf_X5_203 (C_handsOf hT hW hok hmk (by omega) (Or.inr ⟨rfl, by omega⟩)) (by assumption) rfl rfl ft0 (Nat.le_of_ble_eq_true rfl) dX5_wrongByLie_10 ?_
    refine V_iload_n rfl dX5_wrongByLie_13 ?_
    refine V_icmp_ltN 21 dX5_wrongByLie_14 (by decide) (by omega) (by omega) (fun h14 => absurd h14 (by omega)) (fun h14 => ?_)
    refine V_iconst (nI 1) (by decide) dX5_wrongByLie_17 ?_
    refine V_goto 22 dX5_wrongByLie_18 (by decide) ?_
    refine V_ist5 rfl rfl dX5_wrongByLie_22 ?_
    refine V_aload_n rfl dX5_wrongByLie_24 ?_
    refine V_aload_n rfl dX5_wrongByLie_25 ?_
    refine gf_X5_31 (by assumption) (by assumption) rfl dX5_wrongByLie_26 ?_
    refine V_iload rfl dX5_wrongByLie_29 ?_
    refine V_if_eqN 43 dX5_wrongByLie_31 (by decide) (by omega) (fun h31 => absurd h31 (by decide)) (fun h31 => ?_)
    refine V_iload rfl dX5_wrongByLie_34 ?_
    refine V_iconst (nI 1) (by decide) dX5_wrongByLie_36 ?_
    refine V_iload_n rfl dX5_wrongByLie_37 ?_
    refine V_ishl1N (by omega) dX5_wrongByLie_38 ?_
    refine V_iorN dX5_wrongByLie_39 ?_
    refine V_goto 45 dX5_wrongByLie_40 (by decide) ?_
    refine cf_X5_193 (X_wrongFrom hC0 hS0 hW htr hro) (by assumption) rfl rfl ft0 (Nat.le_of_ble_eq_true rfl) dX5_wrongByLie_45 ?_
    refine V_iret rfl rfl rfl ?_ dX5_wrongByLie_48
    exact ⟨rfl, rfl, rfl⟩
  · have e : lieW tv W i h v = wrgN tv (wT W) (rdN tv W h 99) := by unfold lieW; rw [if_neg hx]
    rw [e]
    refine V_aload_n rfl dX5_wrongByLie_0 ?_
    refine gf_X5_31 (by assumption) (by assumption) rfl dX5_wrongByLie_1 ?_
    refine V_aload_n rfl dX5_wrongByLie_4 ?_
    refine gf_X5_41 (by assumption) (by assumption) rfl dX5_wrongByLie_5 ?_
    refine V_iload_n rfl dX5_wrongByLie_8 ?_
    refine V_iload_n rfl dX5_wrongByLie_9 ?_
    refine cf_X5_203 (C_handsOf hT hW hok hmk (by omega) (Or.inr ⟨rfl, by omega⟩)) (by assumption) rfl rfl ft0 (Nat.le_of_ble_eq_true rfl) dX5_wrongByLie_10 ?_
    refine V_iload_n rfl dX5_wrongByLie_13 ?_
    refine V_icmp_ltN 21 dX5_wrongByLie_14 (by decide) (by omega) (by omega) (fun h14 => ?_) (fun h14 => absurd h14 (by omega))
    refine V_iconst (nI 0) (by decide) dX5_wrongByLie_21 ?_
    refine V_ist5 rfl rfl dX5_wrongByLie_22 ?_
    refine V_aload_n rfl dX5_wrongByLie_24 ?_
    refine V_aload_n rfl dX5_wrongByLie_25 ?_
    refine gf_X5_31 (by assumption) (by assumption) rfl dX5_wrongByLie_26 ?_
    refine V_iload rfl dX5_wrongByLie_29 ?_
    refine V_if_eqN 43 dX5_wrongByLie_31 (by decide) (by omega) (fun h31 => ?_) (fun h31 => absurd h31 (by decide))
    refine V_iload rfl dX5_wrongByLie_43 ?_
    refine cf_X5_193 (X_wrongFrom hC0 hS0 hW htr hrl) (by assumption) rfl rfl ft0 (Nat.le_of_ble_eq_true rfl) dX5_wrongByLie_45 ?_
    refine V_iret rfl rfl rfl ?_ dX5_wrongByLie_48
    exact ⟨rfl, rfl, rfl⟩
theorem X_bestLie {i h : Nat} (hC : CSt sg I A B x tv W P K) (hS : STok x tv W P K) (hi : i < (tP tv).1) (hh : h = 1 ∨ h = 2) : Fn m_X5_bestLie g [rf g 0, .int (nI i), .int (nI h)] sg I (some (.int (o4 (blF tv W i h (tF tv)).1))) sg I := by
  have hC0 := hC
  have hS0 := hS
  obtain ⟨hX0, hok, hnp, hns, ⟨hWok, hwk⟩, hPok, hKok⟩ := hS
  obtain ⟨⟨kc, c0, c1, c2, c3, c4, c5, c6, hAB, kt, u0, u1⟩, ⟨hXt, cX⟩, ⟨nn, hNt⟩, hPs, hKs, hW, hD, ⟨hT, hWl⟩, hB⟩ := hC
  have hmk := hWok.2.2.2.1
  have hn12 := hmk.1
  have hF1 := hok.1
  have hF8 := hok.2.1
  have h256 := p2_le8 hF8
  have h16 := p2_le16 hF8
  have hnw := nw_le hF8
  have hnw0 := nw_pos hWok
  have htr := hWok.1
  obtain ⟨⟨wk, w0, w1⟩, we2, we3, ⟨hM, cM⟩, hH, cH⟩ := id hW
  obtain ⟨⟨tk, t0, t1, t2, t3, t4⟩, tF5, tX6, ⟨hLt, cL⟩, ⟨hPt, cP⟩, ⟨hSt, cS⟩, ⟨hBt, cB⟩⟩ := id hT
  obtain ⟨hWt, cW⟩ := id hWl
  have kX := hXt.1
  have kM := hM.1
  have kH := hH.1
  have kL := hLt.1
  have kP := hPt.1
  have kS := hSt.1
  have kB := hBt.1
  have kW := hWt.1
  have nL10 := hLt.2.2.2.2.2.2.1
  have nP5 := hPt.2.2.2.2.2.2.1
  have nS5 := hSt.2.2.2.2.2.2.1
  have nB6 := hBt.2.2.2.2.2.2.1
  have kP0 := hPs.1.1
  have kK0 := hKs.1.1
  have hrl : rdN tv W h 99 < 2 ^ (2 * tF tv) := rd_lt
  have hls : ∀ k, (blF tv W i h k).2 ≤ 2 * tF tv := by
    intro k
    induction k with
    | zero => exact wrg_le
    | succ k ih => unfold blF; split; exact wrg_le; exact ih
  refine Ct.of rfl (Nat.le_of_ble_eq_true rfl) fun X => ?_
  show V X _ sg I 0 [some (rf g 0), some (.int (nI i)), some (.int (nI h)), none, none, none, none, none, none] []
  have loop : ∀ (d k : Nat) (z z2 : Option Value), okp z = true → okp z2 = true → tF tv - k = d → k ≤ tF tv →
      V X (ZQ X (fun r0 s0 I0 => r0 = some (.int (o4 (blF tv W i h (tF tv)).1)) ∧ s0 = sg ∧ I0 = I)) sg I 31 [some (rf g 0), some (.int (nI i)), some (.int (nI h)), some (.int (nI (rdN tv W h 99))), some (.int (nI (blF tv W i h k).2)), some (.int (o4 (blF tv W i h k).1)), some (.int (nI k)), z, z2] [] := by
    intro d
    induction d with
    | zero =>
      intro k z z2 hz hz2 hd hkn
      have e : k = tF tv := by omega
      subst e
      refine V_iload rfl dX5_bestLie_31 ?_
      refine V_aload_n rfl dX5_bestLie_33 ?_
      refine gf_X5_41 (by assumption) (by assumption) rfl dX5_bestLie_34 ?_
      refine gfe_X5_249 (by assumption) (by assumption) rfl dX5_bestLie_37 ?_
      refine V_icmp_geN 92 dX5_bestLie_40 (by decide) (by omega) (by omega) (fun h40 => ?_) (fun h40 => absurd h40 (by omega))
      refine V_iload rfl dX5_bestLie_92 ?_
      refine V_iret rfl rfl rfl ?_ dX5_bestLie_94
      exact ⟨rfl, rfl, rfl⟩
    | succ d ih =>
      intro k z z2 hz hz2 hd hkn
      have h8 := fun z z2 hz hz2 => ih (k + 1) z z2 hz hz2 (by omega) (by omega)
      have hvl : tsy k (wT W) ^^^ 1 < 2 * tF tv := xor1_lt (tsy_lt (by omega))
      have hlw : lieW tv W i h (tsy k (wT W) ^^^ 1) ≤ 2 * tF tv := wrg_le
      have hl9 := hls k
      have e1 : blF tv W i h (k + 1) = if (blF tv W i h k).2 < lieW tv W i h (tsy k (wT W) ^^^ 1) then (some (tsy k (wT W) ^^^ 1), lieW tv W i h (tsy k (wT W) ^^^ 1)) else blF tv W i h k := rfl
      rw [e1] at h8
      refine V_iload rfl dX5_bestLie_31 ?_
      refine V_aload_n rfl dX5_bestLie_33 ?_
      refine gf_X5_41 (by assumption) (by assumption) rfl dX5_bestLie_34 ?_
      refine gfe_X5_249 (by assumption) (by assumption) rfl dX5_bestLie_37 ?_
      refine V_icmp_geN 92 dX5_bestLie_40 (by decide) (by omega) (by omega) (fun h40 => absurd h40 (by omega)) (fun h40 => ?_)
      refine V_iload rfl dX5_bestLie_43 ?_
      refine V_aload_n rfl dX5_bestLie_45 ?_
      refine gf_X5_31 (by assumption) (by assumption) rfl dX5_bestLie_46 ?_
      refine gfe_X5_125 (by assumption) (by assumption) rfl dX5_bestLie_49 ?_
      refine cf_X5_159 (C_trueSaying (by omega) (by omega)) rfl rfl ft0 (Nat.le_of_ble_eq_true rfl) dX5_bestLie_52 ?_
      refine cf_X5_162 (C_opposite) rfl rfl ft0 (Nat.le_of_ble_eq_true rfl) dX5_bestLie_55 ?_
      refine V_ist7 rfl rfl dX5_bestLie_58 ?_
      refine V_aload_n rfl dX5_bestLie_60 ?_
      refine V_iload_n rfl dX5_bestLie_61 ?_
      refine V_iload_n rfl dX5_bestLie_62 ?_
      refine V_iload rfl dX5_bestLie_63 ?_
      refine V_iload_n rfl dX5_bestLie_65 ?_
      refine cf_X5_230 (X_wrongByLie hC0 hS0 hi hh hvl) (by assumption) rfl rfl ft0 (Nat.le_of_ble_eq_true rfl) dX5_bestLie_66 ?_
      refine V_ist8 rfl rfl dX5_bestLie_69 ?_
      refine V_iload rfl dX5_bestLie_71 ?_
      refine V_iload rfl dX5_bestLie_73 ?_
      refine V_icmp_leN 86 dX5_bestLie_75 (by decide) (by omega) (by omega) (fun h75 => ?_) (fun h75 => ?_)
      · skip
        refine V_iinc6_ _ (nI_inc _) rfl rfl dX5_bestLie_86 ?_
        refine V_goto 31 dX5_bestLie_89 (by decide) ?_
        first
        | (rw [if_pos (by omega)] at h8; exact h8 _ _ rfl rfl)
        | (rw [if_neg (by omega)] at h8; exact h8 _ _ rfl rfl)
      · skip
        refine V_iload rfl dX5_bestLie_78 ?_
        refine V_ist4 rfl rfl dX5_bestLie_80 ?_
        refine V_iload rfl dX5_bestLie_82 ?_
        refine V_ist5 rfl rfl dX5_bestLie_84 ?_
        refine V_iinc6_ _ (nI_inc _) rfl rfl dX5_bestLie_86 ?_
        refine V_goto 31 dX5_bestLie_89 (by decide) ?_
        first
        | (rw [if_pos (by omega)] at h8; exact h8 _ _ rfl rfl)
        | (rw [if_neg (by omega)] at h8; exact h8 _ _ rfl rfl)
  refine V_aload_n rfl dX5_bestLie_0 ?_
  refine gf_X5_31 (by assumption) (by assumption) rfl dX5_bestLie_1 ?_
  refine V_aload_n rfl dX5_bestLie_4 ?_
  refine gf_X5_41 (by assumption) (by assumption) rfl dX5_bestLie_5 ?_
  refine V_iload_n rfl dX5_bestLie_8 ?_
  refine cf_X5_181 (C_readBy hT hW hok hmk (by omega)) (by assumption) rfl rfl ft0 (Nat.le_of_ble_eq_true rfl) dX5_bestLie_9 ?_
  refine V_ist3 rfl rfl dX5_bestLie_12 ?_
  refine V_aload_n rfl dX5_bestLie_13 ?_
  refine V_aload_n rfl dX5_bestLie_14 ?_
  refine gf_X5_31 (by assumption) (by assumption) rfl dX5_bestLie_15 ?_
  refine V_iload_n rfl dX5_bestLie_18 ?_
  refine cf_X5_193 (X_wrongFrom hC0 hS0 hW htr hrl) (by assumption) rfl rfl ft0 (Nat.le_of_ble_eq_true rfl) dX5_bestLie_19 ?_
  refine V_ist4 rfl rfl dX5_bestLie_22 ?_
  refine V_bipush (-4) (by decide) dX5_bestLie_24 ?_
  refine V_ist5 rfl rfl dX5_bestLie_26 ?_
  refine V_iconst (nI 0) (by decide) dX5_bestLie_28 ?_
  refine V_ist6 rfl rfl dX5_bestLie_29 ?_
  exact loop (tF tv) 0 _ _ rfl rfl (by omega) (by omega)
theorem X_lie {i h w : Int32} (hC : CSt sg I A B x tv W P K) (hS : STok x tv W P K) : Fn m_X5_lie g [rf g 0, .int i, .int h, .int w] sg I (some (.int (fLie tv W i h w))) sg I := by
  have hC0 := hC
  have hS0 := hS
  obtain ⟨hX0, hok, hnp, hns, ⟨hWok, hwk⟩, hPok, hKok⟩ := hS
  obtain ⟨⟨kc, c0, c1, c2, c3, c4, c5, c6, hAB, kt, u0, u1⟩, ⟨hXt, cX⟩, ⟨nn, hNt⟩, hPs, hKs, hW, hD, ⟨hT, hWl⟩, hB⟩ := hC
  have hmk := hWok.2.2.2.1
  have hn12 := hmk.1
  have hF1 := hok.1
  have hF8 := hok.2.1
  have h256 := p2_le8 hF8
  have h16 := p2_le16 hF8
  have hnw := nw_le hF8
  have hnw0 := nw_pos hWok
  have htr := hWok.1
  obtain ⟨⟨wk, w0, w1⟩, we2, we3, ⟨hM, cM⟩, hH, cH⟩ := id hW
  obtain ⟨⟨tk, t0, t1, t2, t3, t4⟩, tF5, tX6, ⟨hLt, cL⟩, ⟨hPt, cP⟩, ⟨hSt, cS⟩, ⟨hBt, cB⟩⟩ := id hT
  obtain ⟨hWt, cW⟩ := id hWl
  have kX := hXt.1
  have kM := hM.1
  have kH := hH.1
  have kL := hLt.1
  have kP := hPt.1
  have kS := hSt.1
  have kB := hBt.1
  have kW := hWt.1
  have nL10 := hLt.2.2.2.2.2.2.1
  have nP5 := hPt.2.2.2.2.2.2.1
  have nS5 := hSt.2.2.2.2.2.2.1
  have nB6 := hBt.2.2.2.2.2.2.1
  have kP0 := hPs.1.1
  have kK0 := hKs.1.1
  refine Ct.of rfl (Nat.le_of_ble_eq_true rfl) fun X => ?_
  show V X _ sg I 0 [some (rf g 0), some (.int i), some (.int h), some (.int w), none] []
  have hfin : ∀ i1 h1 w1, i1 < (tP tv).1 → (h1 = 1 ∨ h1 = 2) → w1 < 2 → i = nI i1 → h = nI h1 → w = nI w1 → V X (ZQ X (fun r0 s0 I0 => r0 = some (.int (fLie tv W i h w)) ∧ s0 = sg ∧ I0 = I)) sg I 32 [some (rf g 0), some (.int (nI i1)), some (.int (nI h1)), some (.int (nI w1)), none] [] := by
    intro i1 h1 w1 hi1 hh1 hw1 ei eh ew
    have hf : fLie tv W i h w = (match (blF tv W i1 h1 (tF tv)).1 with
      | none => -4
      | some v => if w1 = 0 then nI v else nI (lieW tv W i1 h1 v)) := by
      unfold fLie
      rw [ifb_pos hi1 (by omega) ei, if_pos (by rw [eh]; rcases hh1 with rfl | rfl; exact Or.inl rfl; exact Or.inr rfl), ifb_pos hw1 (by decide) ew, eh, ix_nI (by omega)]
    rw [hf]
    cases hb : (blF tv W i1 h1 (tF tv)).1 with
    | none =>
      have hcl := X_bestLie (g := g) hC0 hS0 hi1 hh1
      rw [hb] at hcl
      refine V_aload_n rfl dX5_lie_32 ?_
      refine V_iload_n rfl dX5_lie_33 ?_
      refine V_iload_n rfl dX5_lie_34 ?_
      refine cf_X5_227 (hcl) (by assumption) rfl rfl ft0 (Nat.le_of_ble_eq_true rfl) dX5_lie_35 ?_
      refine V_ist4 rfl rfl dX5_lie_38 ?_
      refine V_iload rfl dX5_lie_40 ?_
      refine V_bipush (-4) (by decide) dX5_lie_42 ?_
      refine V_icmp_eq 51 dX5_lie_44 (by decide) (fun h44 => ?_) (fun h44 => absurd h44 (by exact fun z => z rfl))
      refine V_iload rfl dX5_lie_51 ?_
      refine V_iret rfl rfl rfl ?_ dX5_lie_53
      exact ⟨rfl, rfl, rfl⟩
    | some v =>
      have hcl := X_bestLie (g := g) hC0 hS0 hi1 hh1
      rw [hb] at hcl
      have hv := (bl_lt (Nat.le_refl _) hb).1
      have hn4 : ¬ nI v = -4 := fun e => absurd (nI_ge0 (show v < 2147483648 by omega)) (by rw [e]; decide)
      refine V_aload_n rfl dX5_lie_32 ?_
      refine V_iload_n rfl dX5_lie_33 ?_
      refine V_iload_n rfl dX5_lie_34 ?_
      refine cf_X5_227 (hcl) (by assumption) rfl rfl ft0 (Nat.le_of_ble_eq_true rfl) dX5_lie_35 ?_
      refine V_ist4 rfl rfl dX5_lie_38 ?_
      refine V_iload rfl dX5_lie_40 ?_
      refine V_bipush (-4) (by decide) dX5_lie_42 ?_
      refine V_icmp_eq 51 dX5_lie_44 (by decide) (fun h44 => absurd h44 (by exact hn4)) (fun h44 => ?_)
      refine V_iload_n rfl dX5_lie_47 ?_
      refine V_if_neN 54 dX5_lie_48 (by decide) (by omega) (fun h48 => ?_) (fun h48 => ?_)
      · skip
        refine V_aload_n rfl dX5_lie_54 ?_
        refine V_iload_n rfl dX5_lie_55 ?_
        refine V_iload_n rfl dX5_lie_56 ?_
        refine V_iload rfl dX5_lie_57 ?_
        refine V_aload_n rfl dX5_lie_59 ?_
        refine gf_X5_31 (by assumption) (by assumption) rfl dX5_lie_60 ?_
        refine V_aload_n rfl dX5_lie_63 ?_
        refine gf_X5_41 (by assumption) (by assumption) rfl dX5_lie_64 ?_
        refine V_iload_n rfl dX5_lie_67 ?_
        refine cf_X5_181 (C_readBy hT hW hok hmk (by omega)) (by assumption) rfl rfl ft0 (Nat.le_of_ble_eq_true rfl) dX5_lie_68 ?_
        refine cf_X5_230 (X_wrongByLie hC0 hS0 hi1 hh1 hv) (by assumption) rfl rfl ft0 (Nat.le_of_ble_eq_true rfl) dX5_lie_71 ?_
        refine V_iret rfl rfl rfl ?_ dX5_lie_74
        refine ⟨?_, rfl, rfl⟩
        first
        | exact congrArg (fun z => some (Value.int z)) (if_pos h48).symm
        | exact congrArg (fun z => some (Value.int z)) (if_neg h48).symm
      · skip
        refine V_iload rfl dX5_lie_51 ?_
        refine V_iret rfl rfl rfl ?_ dX5_lie_53
        refine ⟨?_, rfl, rfl⟩
        first
        | exact congrArg (fun z => some (Value.int z)) (if_pos h48).symm
        | exact congrArg (fun z => some (Value.int z)) (if_neg h48).symm
  refine V_aload_n rfl dX5_lie_0 ?_
  refine gf_X5_41 (by assumption) (by assumption) rfl dX5_lie_1 ?_
  refine gf_X5_87 (by assumption) (by assumption) rfl dX5_lie_4 ?_
  refine V_iload_n rfl dX5_lie_7 ?_
  refine cf_X5_108 (C_has hPt) (by assumption) rfl rfl ft0 (Nat.le_of_ble_eq_true rfl) dX5_lie_8 ?_
  refine V_if_eqB 30 dX5_lie_11 (by decide) (fun h11 => ?_) (fun h11 => ?_)
  · skip
    refine V_iconst (-1) (by decide) dX5_lie_30 ?_
    refine V_iret rfl rfl rfl ?_ dX5_lie_31
    refine ⟨?_, rfl, rfl⟩
    unfold fLie
    first
    | rw [ifb_neg h11]
    | rw [ifb_pos hi1 (by omega) rfl, if_neg h18]
    | rw [ifb_pos hi1 (by omega) rfl, if_pos h18, ifb_lt0 h22]
    | rw [ifb_pos hi1 (by omega) rfl, if_pos h18, ifb_big hw1 (by decide) (by omega)]
  · skip
    obtain ⟨i1, hi1, rfl⟩ := bel_ex (by omega) h11
    refine V_iload_n rfl dX5_lie_14 ?_
    refine cf_X5_178 (C_isRule) rfl rfl ft0 (Nat.le_of_ble_eq_true rfl) dX5_lie_15 ?_
    refine V_if_eqB 30 dX5_lie_18 (by decide) (fun h18 => ?_) (fun h18 => ?_)
    · skip
      refine V_iconst (-1) (by decide) dX5_lie_30 ?_
      refine V_iret rfl rfl rfl ?_ dX5_lie_31
      refine ⟨?_, rfl, rfl⟩
      unfold fLie
      first
      | rw [ifb_neg h11]
      | rw [ifb_pos hi1 (by omega) rfl, if_neg h18]
      | rw [ifb_pos hi1 (by omega) rfl, if_pos h18, ifb_lt0 h22]
      | rw [ifb_pos hi1 (by omega) rfl, if_pos h18, ifb_big hw1 (by decide) (by omega)]
    · skip
      obtain ⟨h1, hh1, rfl, -⟩ := isR_ix h18
      refine V_iload_n rfl dX5_lie_21 ?_
      refine V_if_lt 30 dX5_lie_22 (by decide) (fun h22 => ?_) (fun h22 => ?_)
      · skip
        refine V_iconst (-1) (by decide) dX5_lie_30 ?_
        refine V_iret rfl rfl rfl ?_ dX5_lie_31
        refine ⟨?_, rfl, rfl⟩
        unfold fLie
        first
        | rw [ifb_neg h11]
        | rw [ifb_pos hi1 (by omega) rfl, if_neg h18]
        | rw [ifb_pos hi1 (by omega) rfl, if_pos h18, ifb_lt0 h22]
        | rw [ifb_pos hi1 (by omega) rfl, if_pos h18, ifb_big hw1 (by decide) (by omega)]
      · skip
        obtain ⟨w1, hw1, rfl⟩ := nn_ex h22
        refine V_iload_n rfl dX5_lie_25 ?_
        refine V_iconst (nI 1) (by decide) dX5_lie_26 ?_
        refine V_icmp_leN 32 dX5_lie_27 (by decide) (by omega) (by omega) (fun h27 => ?_) (fun h27 => ?_)
        · skip
          exact hfin i1 h1 w1 hi1 hh1 (by omega) rfl rfl rfl
        · skip
          refine V_iconst (-1) (by decide) dX5_lie_30 ?_
          refine V_iret rfl rfl rfl ?_ dX5_lie_31
          refine ⟨?_, rfl, rfl⟩
          unfold fLie
          first
          | rw [ifb_neg h11]
          | rw [ifb_pos hi1 (by omega) rfl, if_neg h18]
          | rw [ifb_pos hi1 (by omega) rfl, if_pos h18, ifb_lt0 h22]
          | rw [ifb_pos hi1 (by omega) rfl, if_pos h18, ifb_big hw1 (by decide) (by omega)]
theorem X_safe {h : Int32} (hC : CSt sg I A B x tv W P K) (hS : STok x tv W P K) : Fn m_X5_safe g [rf g 0, .int h] sg I (some (.int (fSafe tv W h))) sg I := by
  have hC0 := hC
  have hS0 := hS
  obtain ⟨hX0, hok, hnp, hns, ⟨hWok, hwk⟩, hPok, hKok⟩ := hS
  obtain ⟨⟨kc, c0, c1, c2, c3, c4, c5, c6, hAB, kt, u0, u1⟩, ⟨hXt, cX⟩, ⟨nn, hNt⟩, hPs, hKs, hW, hD, ⟨hT, hWl⟩, hB⟩ := hC
  have hmk := hWok.2.2.2.1
  have hn12 := hmk.1
  have hF1 := hok.1
  have hF8 := hok.2.1
  have h256 := p2_le8 hF8
  have h16 := p2_le16 hF8
  have hnw := nw_le hF8
  have hnw0 := nw_pos hWok
  have htr := hWok.1
  obtain ⟨⟨wk, w0, w1⟩, we2, we3, ⟨hM, cM⟩, hH, cH⟩ := id hW
  obtain ⟨⟨tk, t0, t1, t2, t3, t4⟩, tF5, tX6, ⟨hLt, cL⟩, ⟨hPt, cP⟩, ⟨hSt, cS⟩, ⟨hBt, cB⟩⟩ := id hT
  obtain ⟨hWt, cW⟩ := id hWl
  have kX := hXt.1
  have kM := hM.1
  have kH := hH.1
  have kL := hLt.1
  have kP := hPt.1
  have kS := hSt.1
  have kB := hBt.1
  have kW := hWt.1
  have nL10 := hLt.2.2.2.2.2.2.1
  have nP5 := hPt.2.2.2.2.2.2.1
  have nS5 := hSt.2.2.2.2.2.2.1
  have nB6 := hBt.2.2.2.2.2.2.1
  have kP0 := hPs.1.1
  have kK0 := hKs.1.1
  refine Ct.of rfl (Nat.le_of_ble_eq_true rfl) fun X => ?_
  show V X _ sg I 0 [some (rf g 0), some (.int h), none] []
  have hfin : ∀ h1, (h1 = 1 ∨ h1 = 2) → h = nI h1 → ∀ d k, (tP tv).1 - k = d → k ≤ (tP tv).1 → (∀ j, j < k → (blF tv W j h1 (tF tv)).1.isNone = true) → V X (ZQ X (fun r0 s0 I0 => r0 = some (.int (fSafe tv W h)) ∧ s0 = sg ∧ I0 = I)) sg I 11 [some (rf g 0), some (.int (nI h1)), some (.int (nI k))] [] := by
    intro h1 hh1 eh
    have hf : fSafe tv W h = bI (allB (tP tv).1 (fun i => (blF tv W i h1 (tF tv)).1.isNone) = true) := by
      unfold fSafe
      rw [if_pos (by rw [eh]; rcases hh1 with rfl | rfl; exact Or.inl rfl; exact Or.inr rfl), eh, ix_nI (by omega)]
    rw [hf]
    intro d
    induction d with
    | zero =>
      intro k hd hkn hall
      have e : k = (tP tv).1 := by omega
      subst e
      refine V_iload_n rfl dX5_safe_11 ?_
      refine V_aload_n rfl dX5_safe_12 ?_
      refine gf_X5_41 (by assumption) (by assumption) rfl dX5_safe_13 ?_
      refine gf_X5_87 (by assumption) (by assumption) rfl dX5_safe_16 ?_
      refine cf_X5_84 (C_size hPt) (by assumption) rfl rfl ft0 (Nat.le_of_ble_eq_true rfl) dX5_safe_19 ?_
      refine V_icmp_geN 44 dX5_safe_22 (by decide) (by omega) (by omega) (fun h22 => ?_) (fun h22 => absurd h22 (by omega))
      refine V_iconst (nI 1) (by decide) dX5_safe_44 ?_
      refine V_iret rfl rfl rfl ?_ dX5_safe_45
      exact ⟨by rw [bI_t (allB_iff.mpr hall)], rfl, rfl⟩
    | succ d ih =>
      intro k hd hkn hall
      have hkl : k < (tP tv).1 := by omega
      have hcl := X_bestLie (g := g) hC0 hS0 hkl hh1
      cases hb : (blF tv W k h1 (tF tv)).1 with
      | none =>
        rw [hb] at hcl
        refine V_iload_n rfl dX5_safe_11 ?_
        refine V_aload_n rfl dX5_safe_12 ?_
        refine gf_X5_41 (by assumption) (by assumption) rfl dX5_safe_13 ?_
        refine gf_X5_87 (by assumption) (by assumption) rfl dX5_safe_16 ?_
        refine cf_X5_84 (C_size hPt) (by assumption) rfl rfl ft0 (Nat.le_of_ble_eq_true rfl) dX5_safe_19 ?_
        refine V_icmp_geN 44 dX5_safe_22 (by decide) (by omega) (by omega) (fun h22 => absurd h22 (by omega)) (fun h22 => ?_)
        refine V_aload_n rfl dX5_safe_25 ?_
        refine V_iload_n rfl dX5_safe_26 ?_
        refine V_iload_n rfl dX5_safe_27 ?_
        refine cf_X5_227 (hcl) (by assumption) rfl rfl ft0 (Nat.le_of_ble_eq_true rfl) dX5_safe_28 ?_
        refine V_bipush (-4) (by decide) dX5_safe_31 ?_
        refine V_icmp_eq 38 dX5_safe_33 (by decide) (fun h33 => ?_) (fun h33 => absurd h33 (by exact fun z => z rfl))
        refine V_iinc2_ _ (nI_inc _) rfl rfl dX5_safe_38 ?_
        refine V_goto 11 dX5_safe_41 (by decide) ?_
        refine ih (k + 1) (by omega) (by omega) (fun j hj => ?_)
        by_cases e : j = k
        · subst e; rw [hb]; rfl
        · exact hall j (by omega)
      | some v =>
        rw [hb] at hcl
        have hv := (bl_lt (Nat.le_refl _) hb).1
        have hn4 : ¬ nI v = -4 := fun e => absurd (nI_ge0 (show v < 2147483648 by omega)) (by rw [e]; decide)
        refine V_iload_n rfl dX5_safe_11 ?_
        refine V_aload_n rfl dX5_safe_12 ?_
        refine gf_X5_41 (by assumption) (by assumption) rfl dX5_safe_13 ?_
        refine gf_X5_87 (by assumption) (by assumption) rfl dX5_safe_16 ?_
        refine cf_X5_84 (C_size hPt) (by assumption) rfl rfl ft0 (Nat.le_of_ble_eq_true rfl) dX5_safe_19 ?_
        refine V_icmp_geN 44 dX5_safe_22 (by decide) (by omega) (by omega) (fun h22 => absurd h22 (by omega)) (fun h22 => ?_)
        refine V_aload_n rfl dX5_safe_25 ?_
        refine V_iload_n rfl dX5_safe_26 ?_
        refine V_iload_n rfl dX5_safe_27 ?_
        refine cf_X5_227 (hcl) (by assumption) rfl rfl ft0 (Nat.le_of_ble_eq_true rfl) dX5_safe_28 ?_
        refine V_bipush (-4) (by decide) dX5_safe_31 ?_
        refine V_icmp_eq 38 dX5_safe_33 (by decide) (fun h33 => absurd h33 (by exact hn4)) (fun h33 => ?_)
        refine V_iconst (nI 0) (by decide) dX5_safe_36 ?_
        refine V_iret rfl rfl rfl ?_ dX5_safe_37
        exact ⟨by rw [bI_f (fun z => by have := allB_iff.mp z k hkl; rw [hb] at this; cases this)], rfl, rfl⟩
  refine V_iload_n rfl dX5_safe_0 ?_
  refine cf_X5_178 (C_isRule) rfl rfl ft0 (Nat.le_of_ble_eq_true rfl) dX5_safe_1 ?_
  refine V_if_neB 9 dX5_safe_4 (by decide) (fun h4 => ?_) (fun h4 => ?_)
  · skip
    obtain ⟨h1, hh1, rfl, -⟩ := isR_ix h4
    refine V_iconst (nI 0) (by decide) dX5_safe_9 ?_
    refine V_ist2 rfl rfl dX5_safe_10 ?_
    exact hfin h1 hh1 rfl _ 0 rfl (by omega) (fun j hj => absurd hj (Nat.not_lt_zero j))
  · skip
    refine V_iconst (-1) (by decide) dX5_safe_7 ?_
    refine V_iret rfl rfl rfl ?_ dX5_safe_8
    exact ⟨by unfold fSafe; rw [if_neg h4], rfl, rfl⟩
end CREAD5
