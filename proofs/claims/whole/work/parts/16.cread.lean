/-! CarvedWeeks: the state's picture; answers that change nothing -/
abbrev XV : Type := Nat × (Nat → Nat)
abbrev ST : Type := XV × TV × WV × SV × SV
def bel (x : Int32) (n : Nat) : Prop := 0 ≤ x ∧ x < nI n
theorem bel_dec (x : Int32) (n : Nat) : bel x n ∨ ¬ bel x n := Classical.em _
theorem bel_neg {x : Int32} {n : Nat} (h : x < 0) : ¬ bel x n := fun z => absurd z.1 (by rw [Int32.not_le]; exact h)
theorem bel_nI {j n : Nat} (hj : j < 2147483648) (hn : n < 2147483648) : bel (nI j) n ↔ j < n := ⟨fun z => (nI_ltI hj hn).mp z.2, fun z => ⟨nI_ge0 hj, (nI_ltI hj hn).mpr z⟩⟩
theorem bel_ex {x : Int32} {n : Nat} (hn : n < 2147483648) (h : bel x n) : ∃ j, j < n ∧ x = nI j := by
  obtain ⟨j, hj, e⟩ := nI_of (x := x) (by rw [Int32.not_lt]; exact h.1)
  subst e
  have hj' : j < 2147483648 := hj
  exact ⟨j, (bel_nI hj' hn).mp h, rfl⟩
abbrev ix (x : Int32) : Nat := x.toNatClampNeg
theorem ix_nI {j : Nat} (h : j < 2147483648) : ix (nI j) = j := nI_clamp h
theorem nn_ex {x : Int32} (h : ¬ x < 0) : ∃ j, j < 2147483648 ∧ x = nI j := nI_of h
noncomputable def ifb (x : Int32) (n : Nat) {α : Type} (a : Nat → α) (b : α) : α := if 0 ≤ x ∧ x < nI n then a (ix x) else b
theorem ifb_pos {x : Int32} {n j : Nat} {α : Type} {a : Nat → α} {b : α} (hj : j < n) (hn : n < 2147483648) (e : x = nI j) : ifb x n a b = a j := by
  subst e
  unfold ifb
  rw [if_pos (show 0 ≤ nI j ∧ nI j < nI n from (bel_nI (by omega) hn).mpr hj), ix_nI (by omega)]
theorem ifb_neg {x : Int32} {n : Nat} {α : Type} {a : Nat → α} {b : α} (h : ¬ bel x n) : ifb x n a b = b := if_neg h
theorem ifb_big {n j : Nat} {α : Type} {a : Nat → α} {b : α} (hj : j < 2147483648) (hn : n < 2147483648) (h : n ≤ j) : ifb (nI j) n a b = b := ifb_neg (fun z => by have := (bel_nI hj hn).mp z; omega)
theorem ifb_lt0 {x : Int32} {n : Nat} {α : Type} {a : Nat → α} {b : α} (h : x < 0) : ifb x n a b = b := ifb_neg (bel_neg h)
def ClsK (sg : SG) (A B : Nat) : Prop := (sg.2.2.1 0).1 = 5 ∧ sg.2.2.2 0 0 = some 1 ∧ sg.2.2.2 0 1 = some 6 ∧ sg.2.2.2 0 2 = some 48 ∧ sg.2.2.2 0 3 = some 60 ∧ sg.2.2.2 0 4 = some 65 ∧ sg.2.2.2 0 5 = some A ∧ sg.2.2.2 0 6 = some B ∧ ((A = 70 ∧ B = 81) ∨ (A = 81 ∧ B = 70)) ∧ (sg.2.2.1 1).1 = 2 ∧ sg.2.2.2 1 0 = some 2 ∧ sg.2.2.2 1 1 = some 4
def TownSh (sg : SG) (I : IM) (T : Nat) : Prop := TownK sg T ∧ (∃ n, Tab sg I (T + 1) (T + 2) 10 2 n) ∧ (∃ n, Tab sg I (T + 3) (T + 4) 5 2 n) ∧ (∃ n, Tab sg I (T + 5) (T + 6) 5 3 n) ∧ (∃ n, Tab sg I (T + 7) (T + 8) 6 3 n) ∧ (∃ n, Tab sg I (T + 9) (T + 10) 256 2 n)
theorem TownSh.other {sg : SG} {I J : IM} {T : Nat} (h : TownSh sg I T) (e : ∀ q, T ≤ q → q < T + 11 → J q = I q) : TownSh sg J T := by
  obtain ⟨h1, ⟨a, ha⟩, ⟨b, hb⟩, ⟨c, hc⟩, ⟨d, hd⟩, ⟨f, hf⟩⟩ := h
  exact ⟨h1, ⟨a, ha.other (e _ (by omega) (by omega))⟩, ⟨b, hb.other (e _ (by omega) (by omega))⟩, ⟨c, hc.other (e _ (by omega) (by omega))⟩, ⟨d, hd.other (e _ (by omega) (by omega))⟩, ⟨f, hf.other (e _ (by omega) (by omega))⟩⟩
theorem CTown.sh {sg : SG} {I : IM} {T : Nat} {tv : TV} (h : CTown sg I T tv) (hw : CWlds sg I T tv) : TownSh sg I T := ⟨h.1, ⟨_, h.2.2.2.1.1⟩, ⟨_, h.2.2.2.2.1.1⟩, ⟨_, h.2.2.2.2.2.1.1⟩, ⟨_, h.2.2.2.2.2.2.1⟩, ⟨_, hw.1⟩⟩
def CTxt (sg : SG) (I : IM) (x : XV) : Prop := Tab sg I 2 3 200 1 x.1 ∧ ∀ i, i < x.1 → I 3 (i * 1 + 0) = nI (x.2 i)
def CSt (sg : SG) (I : IM) (A B : Nat) (x : XV) (tv : TV) (W : WV) (P K : SV) : Prop := ClsK sg A B ∧ CTxt sg I x ∧ (∃ m, Tab sg I 4 5 3 1 m) ∧ CShelf sg I 6 8 (tP tv).1 P ∧ CShelf sg I 48 2 (tP tv).1 K ∧ CWeek sg I 60 W (tP tv).1 ∧ WeekSh sg I 65 ∧ (CTown sg I A tv ∧ CWlds sg I A tv) ∧ TownSh sg I B
def XVok (x : XV) : Prop := x.1 ≤ 200 ∧ ∀ i, i < x.1 → 32 ≤ x.2 i ∧ x.2 i ≤ 126
def WKok (tv : TV) (W : WV) : Prop := WVok tv W ∧ wK W ≤ 999
def STok (x : XV) (tv : TV) (W : WV) (P K : SV) : Prop := XVok x ∧ TVok tv ∧ 0 < (tP tv).1 ∧ 0 < (tS tv).1 ∧ WKok tv W ∧ (P.1 ≤ 8 ∧ ∀ i, i < P.1 → WKok tv (P.2 i)) ∧ (K.1 ≤ 2 ∧ ∀ i, i < K.1 → WKok tv (K.2 i))
theorem nw_pos {tv : TV} {W : WV} (h : WVok tv W) : 0 < nw' tv := by
  have : wT W ∈ wls tv := List.mem_filter.mpr ⟨List.mem_range.mpr h.1, h.2.1⟩
  exact List.length_pos_of_mem this
noncomputable def fLaw (tv : TV) (k w : Int32) : Int32 := ifb k (tL tv).1 (fun k => ifb w 2 (fun w => nI ((tL tv).2 k w)) (-1)) (-1)
noncomputable def fPerson (tv : TV) (W : WV) (i w : Int32) : Int32 := ifb i (tP tv).1 (fun i => ifb w 3 (fun w => if w = 2 then nI (wH W i) else nI ((tP tv).2 i w)) (-1)) (-1)
noncomputable def fStone (tv : TV) (W : WV) (s w : Int32) : Int32 := ifb s (tS tv).1 (fun s => ifb w 4 (fun w => if w = 3 then nI (freeN tv W s) else nI ((tS tv).2 s w)) (-1)) (-1)
noncomputable def fMark (W : WV) (m w : Int32) : Int32 := ifb m (wM W).1 (fun m => ifb w 5 (fun w => if w = 4 then bI (so ((wM W).2 m 0) (wT W) = true) else nI ((wM W).2 m w)) (-1)) (-1)
noncomputable def fWorld (tv : TV) (k : Int32) : Int32 := if k < 0 then -1 else ifb k (nw' tv) (fun k => nI (wl tv k)) (-4)
noncomputable def fHands (tv : TV) (W : WV) (v : Int32) : Int32 := ifb v (2 * tF tv) (fun v => nI (hdsN tv W v 99 99)) (-1)
/-- how much is right, wrong, of what is known by what is read -/
def rgtN (tv : TV) (tr rd : Nat) : Nat := cnt (2 * tF tv) (fun v => knw tv rd v && so v tr)
def wrgN (tv : TV) (tr rd : Nat) : Nat := cnt (2 * tF tv) (fun v => knw tv rd v && !so v tr)
noncomputable def fKnown (tv : TV) (W : WV) (h w : Int32) : Int32 := if h = nI 1 ∨ h = nI 2 then ifb w 6 (fun w =>
  if w = 0 then nI (bm (tF tv) (fun f => knw tv (rdN tv W (ix h) 99) (2 * f))) else if w = 1 then nI (bm (tF tv) (fun f => knw tv (rdN tv W (ix h) 99) (2 * f + 1)))
  else if w = 2 then nI (rgtN tv (wT W) (rdN tv W (ix h) 99)) else if w = 3 then nI (wrgN tv (wT W) (rdN tv W (ix h) 99)) else if w = 4 then nI (rdN tv W (ix h) 99) else bI (¬ anyW tv (rdN tv W (ix h) 99) = true)) (-1) else -1
section CREAD
variable {g : GC} {sg : SG} {I : IM} {A B : Nat} {x : XV} {tv : TV} {W : WV} {P K : SV}
theorem X_law {k w : Int32} (hC : CSt sg I A B x tv W P K) (hS : STok x tv W P K) : Fn m_X5_law g [rf g 0, .int k, .int w] sg I (some (.int (fLaw tv k w))) sg I := by
  obtain ⟨hX0, hok, hnp, hns, ⟨hWok, hwk⟩, hPok, hKok⟩ := hS
  obtain ⟨⟨kc, c0, c1, c2, c3, c4, c5, c6, hAB, kt, u0, u1⟩, ⟨hXt, cX⟩, ⟨nn, hNt⟩, hPs, hKs, hW, hD, ⟨hT, hWl⟩, hB⟩ := hC
  have hmk := hWok.2.2.2.1
  have hn12 := hmk.1
  have hF1 := hok.1
  have hF8 := hok.2.1
  have h256 := p2_le8 hF8
  have h16 := p2_le16 hF8
  have hnw := nw_le hF8
  have hnw0 := nw_pos hWok
  have htr := hWok.1
  obtain ⟨⟨wk, w0, w1⟩, we2, we3, ⟨hM, cM⟩, hH, cH⟩ := id hW
  obtain ⟨⟨tk, t0, t1, t2, t3, t4⟩, tF5, tX6, ⟨hLt, cL⟩, ⟨hPt, cP⟩, ⟨hSt, cS⟩, ⟨hBt, cB⟩⟩ := id hT
  obtain ⟨hWt, cW⟩ := id hWl
  have kX := hXt.1
  have kM := hM.1
  have kH := hH.1
  have kL := hLt.1
  have kP := hPt.1
  have kS := hSt.1
  have kB := hBt.1
  have kW := hWt.1
  have nL10 := hLt.2.2.2.2.2.2.1
  have nP5 := hPt.2.2.2.2.2.2.1
  have nS5 := hSt.2.2.2.2.2.2.1
  have nB6 := hBt.2.2.2.2.2.2.1
  have kP0 := hPs.1.1
  have kK0 := hKs.1.1
  refine Ct.of rfl (Nat.le_of_ble_eq_true rfl) fun X => ?_
  show V X _ sg I 0 [some (rf g 0), some (.int k), some (.int w)] []
  refine V_aload_n rfl dX5_law_0 ?_
  refine gf_X5_41 (by assumption) (by assumption) rfl dX5_law_1 ?_
  refine gf_X5_105 (by assumption) (by assumption) rfl dX5_law_4 ?_
  refine V_iload_n rfl dX5_law_7 ?_
  refine cf_X5_108 (C_has hLt) (by assumption) rfl rfl ft0 (Nat.le_of_ble_eq_true rfl) dX5_law_8 ?_
  refine V_if_eqB 23 dX5_law_11 (by decide) (fun h11 => ?_) (fun h11 => ?_)
  · skip
    refine V_iconst (-1) (by decide) dX5_law_23 ?_
    refine V_iret rfl rfl rfl ?_ dX5_law_24
    refine ⟨?_, rfl, rfl⟩
    unfold fLaw
    first
    | rw [ifb_neg h11]
    | rw [ifb_pos hk (by omega) rfl, ifb_lt0 h15]
    | rw [ifb_pos hk (by omega) rfl, ifb_big hw (by decide) (by omega)]
    | rw [ifb_pos hk (by omega) rfl, ifb_pos (show w < 2 by omega) (by decide) rfl]
  · skip
    obtain ⟨k, hk, rfl⟩ := bel_ex (by omega) h11
    refine V_iload_n rfl dX5_law_14 ?_
    refine V_if_lt 23 dX5_law_15 (by decide) (fun h15 => ?_) (fun h15 => ?_)
    · skip
      refine V_iconst (-1) (by decide) dX5_law_23 ?_
      refine V_iret rfl rfl rfl ?_ dX5_law_24
      refine ⟨?_, rfl, rfl⟩
      unfold fLaw
      first
      | rw [ifb_neg h11]
      | rw [ifb_pos hk (by omega) rfl, ifb_lt0 h15]
      | rw [ifb_pos hk (by omega) rfl, ifb_big hw (by decide) (by omega)]
      | rw [ifb_pos hk (by omega) rfl, ifb_pos (show w < 2 by omega) (by decide) rfl]
    · skip
      obtain ⟨w, hw, rfl⟩ := nn_ex h15
      refine V_iload_n rfl dX5_law_18 ?_
      refine V_iconst (nI 1) (by decide) dX5_law_19 ?_
      refine V_icmp_leN 25 dX5_law_20 (by decide) (by omega) (by omega) (fun h20 => ?_) (fun h20 => ?_)
      · skip
        refine V_aload_n rfl dX5_law_25 ?_
        refine gf_X5_41 (by assumption) (by assumption) rfl dX5_law_26 ?_
        refine gf_X5_105 (by assumption) (by assumption) rfl dX5_law_29 ?_
        refine V_iload_n rfl dX5_law_32 ?_
        refine V_iload_n rfl dX5_law_33 ?_
        refine cf_X5_111 (C_get hLt (by omega) (by omega)) (by assumption) rfl rfl ft0 (Nat.le_of_ble_eq_true rfl) dX5_law_34 ?_
        rw [if_pos hk, cL k hk w (by omega)]
        refine V_iret rfl rfl rfl ?_ dX5_law_37
        refine ⟨?_, rfl, rfl⟩
        unfold fLaw
        first
        | rw [ifb_neg h11]
        | rw [ifb_pos hk (by omega) rfl, ifb_lt0 h15]
        | rw [ifb_pos hk (by omega) rfl, ifb_big hw (by decide) (by omega)]
        | rw [ifb_pos hk (by omega) rfl, ifb_pos (show w < 2 by omega) (by decide) rfl]
      · skip
        refine V_iconst (-1) (by decide) dX5_law_23 ?_
        refine V_iret rfl rfl rfl ?_ dX5_law_24
        refine ⟨?_, rfl, rfl⟩
        unfold fLaw
        first
        | rw [ifb_neg h11]
        | rw [ifb_pos hk (by omega) rfl, ifb_lt0 h15]
        | rw [ifb_pos hk (by omega) rfl, ifb_big hw (by decide) (by omega)]
        | rw [ifb_pos hk (by omega) rfl, ifb_pos (show w < 2 by omega) (by decide) rfl]
theorem X_person {k w : Int32} (hC : CSt sg I A B x tv W P K) (hS : STok x tv W P K) : Fn m_X5_person g [rf g 0, .int k, .int w] sg I (some (.int (fPerson tv W k w))) sg I := by
  obtain ⟨hX0, hok, hnp, hns, ⟨hWok, hwk⟩, hPok, hKok⟩ := hS
  obtain ⟨⟨kc, c0, c1, c2, c3, c4, c5, c6, hAB, kt, u0, u1⟩, ⟨hXt, cX⟩, ⟨nn, hNt⟩, hPs, hKs, hW, hD, ⟨hT, hWl⟩, hB⟩ := hC
  have hmk := hWok.2.2.2.1
  have hn12 := hmk.1
  have hF1 := hok.1
  have hF8 := hok.2.1
  have h256 := p2_le8 hF8
  have h16 := p2_le16 hF8
  have hnw := nw_le hF8
  have hnw0 := nw_pos hWok
  have htr := hWok.1
  obtain ⟨⟨wk, w0, w1⟩, we2, we3, ⟨hM, cM⟩, hH, cH⟩ := id hW
  obtain ⟨⟨tk, t0, t1, t2, t3, t4⟩, tF5, tX6, ⟨hLt, cL⟩, ⟨hPt, cP⟩, ⟨hSt, cS⟩, ⟨hBt, cB⟩⟩ := id hT
  obtain ⟨hWt, cW⟩ := id hWl
  have kX := hXt.1
  have kM := hM.1
  have kH := hH.1
  have kL := hLt.1
  have kP := hPt.1
  have kS := hSt.1
  have kB := hBt.1
  have kW := hWt.1
  have nL10 := hLt.2.2.2.2.2.2.1
  have nP5 := hPt.2.2.2.2.2.2.1
  have nS5 := hSt.2.2.2.2.2.2.1
  have nB6 := hBt.2.2.2.2.2.2.1
  have kP0 := hPs.1.1
  have kK0 := hKs.1.1
  refine Ct.of rfl (Nat.le_of_ble_eq_true rfl) fun X => ?_
  show V X _ sg I 0 [some (rf g 0), some (.int k), some (.int w)] []
  refine V_aload_n rfl dX5_person_0 ?_
  refine gf_X5_41 (by assumption) (by assumption) rfl dX5_person_1 ?_
  refine gf_X5_87 (by assumption) (by assumption) rfl dX5_person_4 ?_
  refine V_iload_n rfl dX5_person_7 ?_
  refine cf_X5_108 (C_has hPt) (by assumption) rfl rfl ft0 (Nat.le_of_ble_eq_true rfl) dX5_person_8 ?_
  refine V_if_eqB 23 dX5_person_11 (by decide) (fun h11 => ?_) (fun h11 => ?_)
  · skip
    refine V_iconst (-1) (by decide) dX5_person_23 ?_
    refine V_iret rfl rfl rfl ?_ dX5_person_24
    refine ⟨?_, rfl, rfl⟩
    unfold fPerson
    first
    | rw [ifb_neg h11]
    | rw [ifb_pos hk (by omega) rfl, ifb_lt0 h15]
    | rw [ifb_pos hk (by omega) rfl, ifb_big hw (by decide) (by omega)]
    | rw [ifb_pos hk (by omega) rfl, ifb_pos (show w < 3 by omega) (by decide) rfl, if_pos h27]
    | rw [ifb_pos hk (by omega) rfl, ifb_pos (show w < 3 by omega) (by decide) rfl, if_neg h27]
  · skip
    obtain ⟨k, hk, rfl⟩ := bel_ex (by omega) h11
    refine V_iload_n rfl dX5_person_14 ?_
    refine V_if_lt 23 dX5_person_15 (by decide) (fun h15 => ?_) (fun h15 => ?_)
    · skip
      refine V_iconst (-1) (by decide) dX5_person_23 ?_
      refine V_iret rfl rfl rfl ?_ dX5_person_24
      refine ⟨?_, rfl, rfl⟩
      unfold fPerson
      first
      | rw [ifb_neg h11]
      | rw [ifb_pos hk (by omega) rfl, ifb_lt0 h15]
      | rw [ifb_pos hk (by omega) rfl, ifb_big hw (by decide) (by omega)]
      | rw [ifb_pos hk (by omega) rfl, ifb_pos (show w < 3 by omega) (by decide) rfl, if_pos h27]
      | rw [ifb_pos hk (by omega) rfl, ifb_pos (show w < 3 by omega) (by decide) rfl, if_neg h27]
    · skip
      obtain ⟨w, hw, rfl⟩ := nn_ex h15
      refine V_iload_n rfl dX5_person_18 ?_
      refine V_iconst (nI 2) (by decide) dX5_person_19 ?_
      refine V_icmp_leN 25 dX5_person_20 (by decide) (by omega) (by omega) (fun h20 => ?_) (fun h20 => ?_)
      · skip
        refine V_iload_n rfl dX5_person_25 ?_
        refine V_iconst (nI 2) (by decide) dX5_person_26 ?_
        refine V_icmp_neN 45 dX5_person_27 (by decide) (by omega) (by omega) (fun h27 => ?_) (fun h27 => ?_)
        · skip
          refine V_aload_n rfl dX5_person_45 ?_
          refine gf_X5_41 (by assumption) (by assumption) rfl dX5_person_46 ?_
          refine gf_X5_87 (by assumption) (by assumption) rfl dX5_person_49 ?_
          refine V_iload_n rfl dX5_person_52 ?_
          refine V_iload_n rfl dX5_person_53 ?_
          refine cf_X5_111 (C_get hPt (by omega) (by omega)) (by assumption) rfl rfl ft0 (Nat.le_of_ble_eq_true rfl) dX5_person_54 ?_
          first
          | rw [if_pos hk, cP k hk w (by omega)]
          | rw [if_pos hk, cH k hk]
          refine V_iret rfl rfl rfl ?_ dX5_person_57
          refine ⟨?_, rfl, rfl⟩
          unfold fPerson
          first
          | rw [ifb_neg h11]
          | rw [ifb_pos hk (by omega) rfl, ifb_lt0 h15]
          | rw [ifb_pos hk (by omega) rfl, ifb_big hw (by decide) (by omega)]
          | rw [ifb_pos hk (by omega) rfl, ifb_pos (show w < 3 by omega) (by decide) rfl, if_pos h27]
          | rw [ifb_pos hk (by omega) rfl, ifb_pos (show w < 3 by omega) (by decide) rfl, if_neg h27]
        · skip
          refine V_aload_n rfl dX5_person_30 ?_
          refine gf_X5_31 (by assumption) (by assumption) rfl dX5_person_31 ?_
          refine gf_X5_115 (by assumption) (by assumption) rfl dX5_person_34 ?_
          refine V_iload_n rfl dX5_person_37 ?_
          refine V_iconst (nI 0) (by decide) dX5_person_38 ?_
          refine cf_X5_111 (C_get (c := 0) hH (by omega) (by decide)) (by assumption) rfl rfl ft0 (Nat.le_of_ble_eq_true rfl) dX5_person_39 ?_
          refine V_goto 57 dX5_person_42 (by decide) ?_
          first
          | rw [if_pos hk, cP k hk w (by omega)]
          | rw [if_pos hk, cH k hk]
          refine V_iret rfl rfl rfl ?_ dX5_person_57
          refine ⟨?_, rfl, rfl⟩
          unfold fPerson
          first
          | rw [ifb_neg h11]
          | rw [ifb_pos hk (by omega) rfl, ifb_lt0 h15]
          | rw [ifb_pos hk (by omega) rfl, ifb_big hw (by decide) (by omega)]
          | rw [ifb_pos hk (by omega) rfl, ifb_pos (show w < 3 by omega) (by decide) rfl, if_pos h27]
          | rw [ifb_pos hk (by omega) rfl, ifb_pos (show w < 3 by omega) (by decide) rfl, if_neg h27]
      · skip
        refine V_iconst (-1) (by decide) dX5_person_23 ?_
        refine V_iret rfl rfl rfl ?_ dX5_person_24
        refine ⟨?_, rfl, rfl⟩
        unfold fPerson
        first
        | rw [ifb_neg h11]
        | rw [ifb_pos hk (by omega) rfl, ifb_lt0 h15]
        | rw [ifb_pos hk (by omega) rfl, ifb_big hw (by decide) (by omega)]
        | rw [ifb_pos hk (by omega) rfl, ifb_pos (show w < 3 by omega) (by decide) rfl, if_pos h27]
        | rw [ifb_pos hk (by omega) rfl, ifb_pos (show w < 3 by omega) (by decide) rfl, if_neg h27]
theorem X_stone {k w : Int32} (hC : CSt sg I A B x tv W P K) (hS : STok x tv W P K) : Fn m_X5_stone g [rf g 0, .int k, .int w] sg I (some (.int (fStone tv W k w))) sg I := by
  obtain ⟨hX0, hok, hnp, hns, ⟨hWok, hwk⟩, hPok, hKok⟩ := hS
  obtain ⟨⟨kc, c0, c1, c2, c3, c4, c5, c6, hAB, kt, u0, u1⟩, ⟨hXt, cX⟩, ⟨nn, hNt⟩, hPs, hKs, hW, hD, ⟨hT, hWl⟩, hB⟩ := hC
  have hmk := hWok.2.2.2.1
  have hn12 := hmk.1
  have hF1 := hok.1
  have hF8 := hok.2.1
  have h256 := p2_le8 hF8
  have h16 := p2_le16 hF8
  have hnw := nw_le hF8
  have hnw0 := nw_pos hWok
  have htr := hWok.1
  obtain ⟨⟨wk, w0, w1⟩, we2, we3, ⟨hM, cM⟩, hH, cH⟩ := id hW
  obtain ⟨⟨tk, t0, t1, t2, t3, t4⟩, tF5, tX6, ⟨hLt, cL⟩, ⟨hPt, cP⟩, ⟨hSt, cS⟩, ⟨hBt, cB⟩⟩ := id hT
  obtain ⟨hWt, cW⟩ := id hWl
  have kX := hXt.1
  have kM := hM.1
  have kH := hH.1
  have kL := hLt.1
  have kP := hPt.1
  have kS := hSt.1
  have kB := hBt.1
  have kW := hWt.1
  have nL10 := hLt.2.2.2.2.2.2.1
  have nP5 := hPt.2.2.2.2.2.2.1
  have nS5 := hSt.2.2.2.2.2.2.1
  have nB6 := hBt.2.2.2.2.2.2.1
  have kP0 := hPs.1.1
  have kK0 := hKs.1.1
  refine Ct.of rfl (Nat.le_of_ble_eq_true rfl) fun X => ?_
  show V X _ sg I 0 [some (rf g 0), some (.int k), some (.int w)] []
  refine V_aload_n rfl dX5_stone_0 ?_
  refine gf_X5_41 (by assumption) (by assumption) rfl dX5_stone_1 ?_
  refine gf_X5_90 (by assumption) (by assumption) rfl dX5_stone_4 ?_
  refine V_iload_n rfl dX5_stone_7 ?_
  refine cf_X5_108 (C_has hSt) (by assumption) rfl rfl ft0 (Nat.le_of_ble_eq_true rfl) dX5_stone_8 ?_
  refine V_if_eqB 23 dX5_stone_11 (by decide) (fun h11 => ?_) (fun h11 => ?_)
  · skip
    refine V_iconst (-1) (by decide) dX5_stone_23 ?_
    refine V_iret rfl rfl rfl ?_ dX5_stone_24
    refine ⟨?_, rfl, rfl⟩
    unfold fStone
    first
    | rw [ifb_neg h11]
    | rw [ifb_pos hk (by omega) rfl, ifb_lt0 h15]
    | rw [ifb_pos hk (by omega) rfl, ifb_big hw (by decide) (by omega)]
    | rw [ifb_pos hk (by omega) rfl, ifb_pos (show w < 4 by omega) (by decide) rfl, if_pos h27]
    | rw [ifb_pos hk (by omega) rfl, ifb_pos (show w < 4 by omega) (by decide) rfl, if_neg h27]
  · skip
    obtain ⟨k, hk, rfl⟩ := bel_ex (by omega) h11
    refine V_iload_n rfl dX5_stone_14 ?_
    refine V_if_lt 23 dX5_stone_15 (by decide) (fun h15 => ?_) (fun h15 => ?_)
    · skip
      refine V_iconst (-1) (by decide) dX5_stone_23 ?_
      refine V_iret rfl rfl rfl ?_ dX5_stone_24
      refine ⟨?_, rfl, rfl⟩
      unfold fStone
      first
      | rw [ifb_neg h11]
      | rw [ifb_pos hk (by omega) rfl, ifb_lt0 h15]
      | rw [ifb_pos hk (by omega) rfl, ifb_big hw (by decide) (by omega)]
      | rw [ifb_pos hk (by omega) rfl, ifb_pos (show w < 4 by omega) (by decide) rfl, if_pos h27]
      | rw [ifb_pos hk (by omega) rfl, ifb_pos (show w < 4 by omega) (by decide) rfl, if_neg h27]
    · skip
      obtain ⟨w, hw, rfl⟩ := nn_ex h15
      refine V_iload_n rfl dX5_stone_18 ?_
      refine V_iconst (nI 3) (by decide) dX5_stone_19 ?_
      refine V_icmp_leN 25 dX5_stone_20 (by decide) (by omega) (by omega) (fun h20 => ?_) (fun h20 => ?_)
      · skip
        refine V_iload_n rfl dX5_stone_25 ?_
        refine V_iconst (nI 3) (by decide) dX5_stone_26 ?_
        refine V_icmp_neN 45 dX5_stone_27 (by decide) (by omega) (by omega) (fun h27 => ?_) (fun h27 => ?_)
        · skip
          refine V_aload_n rfl dX5_stone_45 ?_
          refine gf_X5_41 (by assumption) (by assumption) rfl dX5_stone_46 ?_
          refine gf_X5_90 (by assumption) (by assumption) rfl dX5_stone_49 ?_
          refine V_iload_n rfl dX5_stone_52 ?_
          refine V_iload_n rfl dX5_stone_53 ?_
          refine cf_X5_111 (C_get hSt (by omega) (by omega)) (by assumption) rfl rfl ft0 (Nat.le_of_ble_eq_true rfl) dX5_stone_54 ?_
          try rw [if_pos hk, cS k hk w (by omega)]
          refine V_iret rfl rfl rfl ?_ dX5_stone_57
          refine ⟨?_, rfl, rfl⟩
          unfold fStone
          first
          | rw [ifb_neg h11]
          | rw [ifb_pos hk (by omega) rfl, ifb_lt0 h15]
          | rw [ifb_pos hk (by omega) rfl, ifb_big hw (by decide) (by omega)]
          | rw [ifb_pos hk (by omega) rfl, ifb_pos (show w < 4 by omega) (by decide) rfl, if_pos h27]
          | rw [ifb_pos hk (by omega) rfl, ifb_pos (show w < 4 by omega) (by decide) rfl, if_neg h27]
        · skip
          refine V_aload_n rfl dX5_stone_30 ?_
          refine gf_X5_31 (by assumption) (by assumption) rfl dX5_stone_31 ?_
          refine V_aload_n rfl dX5_stone_34 ?_
          refine gf_X5_41 (by assumption) (by assumption) rfl dX5_stone_35 ?_
          refine V_iload_n rfl dX5_stone_38 ?_
          refine cf_X5_118 (C_freeRoom hT hW hok hmk hk) (by assumption) rfl rfl ft0 (Nat.le_of_ble_eq_true rfl) dX5_stone_39 ?_
          refine V_goto 57 dX5_stone_42 (by decide) ?_
          try rw [if_pos hk, cS k hk w (by omega)]
          refine V_iret rfl rfl rfl ?_ dX5_stone_57
          refine ⟨?_, rfl, rfl⟩
          unfold fStone
          first
          | rw [ifb_neg h11]
          | rw [ifb_pos hk (by omega) rfl, ifb_lt0 h15]
          | rw [ifb_pos hk (by omega) rfl, ifb_big hw (by decide) (by omega)]
          | rw [ifb_pos hk (by omega) rfl, ifb_pos (show w < 4 by omega) (by decide) rfl, if_pos h27]
          | rw [ifb_pos hk (by omega) rfl, ifb_pos (show w < 4 by omega) (by decide) rfl, if_neg h27]
      · skip
        refine V_iconst (-1) (by decide) dX5_stone_23 ?_
        refine V_iret rfl rfl rfl ?_ dX5_stone_24
        refine ⟨?_, rfl, rfl⟩
        unfold fStone
        first
        | rw [ifb_neg h11]
        | rw [ifb_pos hk (by omega) rfl, ifb_lt0 h15]
        | rw [ifb_pos hk (by omega) rfl, ifb_big hw (by decide) (by omega)]
        | rw [ifb_pos hk (by omega) rfl, ifb_pos (show w < 4 by omega) (by decide) rfl, if_pos h27]
        | rw [ifb_pos hk (by omega) rfl, ifb_pos (show w < 4 by omega) (by decide) rfl, if_neg h27]
theorem X_mark {k w : Int32} (hC : CSt sg I A B x tv W P K) (hS : STok x tv W P K) : Fn m_X5_mark g [rf g 0, .int k, .int w] sg I (some (.int (fMark W k w))) sg I := by
  obtain ⟨hX0, hok, hnp, hns, ⟨hWok, hwk⟩, hPok, hKok⟩ := hS
  obtain ⟨⟨kc, c0, c1, c2, c3, c4, c5, c6, hAB, kt, u0, u1⟩, ⟨hXt, cX⟩, ⟨nn, hNt⟩, hPs, hKs, hW, hD, ⟨hT, hWl⟩, hB⟩ := hC
  have hmk := hWok.2.2.2.1
  have hn12 := hmk.1
  have hF1 := hok.1
  have hF8 := hok.2.1
  have h256 := p2_le8 hF8
  have h16 := p2_le16 hF8
  have hnw := nw_le hF8
  have hnw0 := nw_pos hWok
  have htr := hWok.1
  obtain ⟨⟨wk, w0, w1⟩, we2, we3, ⟨hM, cM⟩, hH, cH⟩ := id hW
  obtain ⟨⟨tk, t0, t1, t2, t3, t4⟩, tF5, tX6, ⟨hLt, cL⟩, ⟨hPt, cP⟩, ⟨hSt, cS⟩, ⟨hBt, cB⟩⟩ := id hT
  obtain ⟨hWt, cW⟩ := id hWl
  have kX := hXt.1
  have kM := hM.1
  have kH := hH.1
  have kL := hLt.1
  have kP := hPt.1
  have kS := hSt.1
  have kB := hBt.1
  have kW := hWt.1
  have nL10 := hLt.2.2.2.2.2.2.1
  have nP5 := hPt.2.2.2.2.2.2.1
  have nS5 := hSt.2.2.2.2.2.2.1
  have nB6 := hBt.2.2.2.2.2.2.1
  have kP0 := hPs.1.1
  have kK0 := hKs.1.1
  refine Ct.of rfl (Nat.le_of_ble_eq_true rfl) fun X => ?_
  show V X _ sg I 0 [some (rf g 0), some (.int k), some (.int w)] []
  refine V_aload_n rfl dX5_mark_0 ?_
  refine gf_X5_31 (by assumption) (by assumption) rfl dX5_mark_1 ?_
  refine gf_X5_122 (by assumption) (by assumption) rfl dX5_mark_4 ?_
  refine V_iload_n rfl dX5_mark_7 ?_
  refine cf_X5_108 (C_has hM) (by assumption) rfl rfl ft0 (Nat.le_of_ble_eq_true rfl) dX5_mark_8 ?_
  refine V_if_eqB 23 dX5_mark_11 (by decide) (fun h11 => ?_) (fun h11 => ?_)
  · skip
    refine V_iconst (-1) (by decide) dX5_mark_23 ?_
    refine V_iret rfl rfl rfl ?_ dX5_mark_24
    refine ⟨?_, rfl, rfl⟩
    unfold fMark
    first
    | rw [ifb_neg h11]
    | rw [ifb_pos hk (by omega) rfl, ifb_lt0 h15]
    | rw [ifb_pos hk (by omega) rfl, ifb_big hw (by decide) (by omega)]
    | rw [ifb_pos hk (by omega) rfl, ifb_pos (show w < 5 by omega) (by decide) rfl, if_neg h27]
    | rw [ifb_pos hk (by omega) rfl, ifb_pos (show w < 5 by omega) (by decide) rfl, if_pos h27, bI_t h52]
    | rw [ifb_pos hk (by omega) rfl, ifb_pos (show w < 5 by omega) (by decide) rfl, if_pos h27, bI_f h52]
  · skip
    obtain ⟨k, hk, rfl⟩ := bel_ex (by omega) h11
    refine V_iload_n rfl dX5_mark_14 ?_
    refine V_if_lt 23 dX5_mark_15 (by decide) (fun h15 => ?_) (fun h15 => ?_)
    · skip
      refine V_iconst (-1) (by decide) dX5_mark_23 ?_
      refine V_iret rfl rfl rfl ?_ dX5_mark_24
      refine ⟨?_, rfl, rfl⟩
      unfold fMark
      first
      | rw [ifb_neg h11]
      | rw [ifb_pos hk (by omega) rfl, ifb_lt0 h15]
      | rw [ifb_pos hk (by omega) rfl, ifb_big hw (by decide) (by omega)]
      | rw [ifb_pos hk (by omega) rfl, ifb_pos (show w < 5 by omega) (by decide) rfl, if_neg h27]
      | rw [ifb_pos hk (by omega) rfl, ifb_pos (show w < 5 by omega) (by decide) rfl, if_pos h27, bI_t h52]
      | rw [ifb_pos hk (by omega) rfl, ifb_pos (show w < 5 by omega) (by decide) rfl, if_pos h27, bI_f h52]
    · skip
      obtain ⟨w, hw, rfl⟩ := nn_ex h15
      refine V_iload_n rfl dX5_mark_18 ?_
      refine V_iconst (nI 4) (by decide) dX5_mark_19 ?_
      refine V_icmp_leN 25 dX5_mark_20 (by decide) (by omega) (by omega) (fun h20 => ?_) (fun h20 => ?_)
      · skip
        refine V_iload_n rfl dX5_mark_25 ?_
        refine V_iconst (nI 4) (by decide) dX5_mark_26 ?_
        refine V_icmp_neN 61 dX5_mark_27 (by decide) (by omega) (by omega) (fun h27 => ?_) (fun h27 => ?_)
        · skip
          refine V_aload_n rfl dX5_mark_61 ?_
          refine gf_X5_31 (by assumption) (by assumption) rfl dX5_mark_62 ?_
          refine gf_X5_122 (by assumption) (by assumption) rfl dX5_mark_65 ?_
          refine V_iload_n rfl dX5_mark_68 ?_
          refine V_iload_n rfl dX5_mark_69 ?_
          refine cf_X5_111 (C_get hM (by omega) (by omega)) (by assumption) rfl rfl ft0 (Nat.le_of_ble_eq_true rfl) dX5_mark_70 ?_
          rw [if_pos hk, cM k hk w (by omega)]
          refine V_iret rfl rfl rfl ?_ dX5_mark_73
          refine ⟨?_, rfl, rfl⟩
          unfold fMark
          first
          | rw [ifb_neg h11]
          | rw [ifb_pos hk (by omega) rfl, ifb_lt0 h15]
          | rw [ifb_pos hk (by omega) rfl, ifb_big hw (by decide) (by omega)]
          | rw [ifb_pos hk (by omega) rfl, ifb_pos (show w < 5 by omega) (by decide) rfl, if_neg h27]
          | rw [ifb_pos hk (by omega) rfl, ifb_pos (show w < 5 by omega) (by decide) rfl, if_pos h27, bI_t h52]
          | rw [ifb_pos hk (by omega) rfl, ifb_pos (show w < 5 by omega) (by decide) rfl, if_pos h27, bI_f h52]
        · skip
          refine V_aload_n rfl dX5_mark_30 ?_
          refine gf_X5_31 (by assumption) (by assumption) rfl dX5_mark_31 ?_
          refine gf_X5_122 (by assumption) (by assumption) rfl dX5_mark_34 ?_
          refine V_iload_n rfl dX5_mark_37 ?_
          refine V_iconst (nI 0) (by decide) dX5_mark_38 ?_
          refine cf_X5_111 (C_get (c := 0) hM (by omega) (by decide)) (by assumption) rfl rfl ft0 (Nat.le_of_ble_eq_true rfl) dX5_mark_39 ?_
          rw [if_pos hk, cM k hk 0 (by decide)]
          refine V_aload_n rfl dX5_mark_42 ?_
          refine gf_X5_31 (by assumption) (by assumption) rfl dX5_mark_43 ?_
          refine gfe_X5_125 (by assumption) (by assumption) rfl dX5_mark_46 ?_
          refine cf_X5_128 (C_isSo (by have := (hmk.2.1 k hk).1; omega) (by omega)) rfl rfl ft0 (Nat.le_of_ble_eq_true rfl) dX5_mark_49 ?_
          refine V_if_eqB 59 dX5_mark_52 (by decide) (fun h52 => ?_) (fun h52 => ?_)
          · skip
            refine V_iconst (nI 0) (by decide) dX5_mark_59 ?_
            refine V_iret rfl rfl rfl ?_ dX5_mark_60
            refine ⟨?_, rfl, rfl⟩
            unfold fMark
            first
            | rw [ifb_neg h11]
            | rw [ifb_pos hk (by omega) rfl, ifb_lt0 h15]
            | rw [ifb_pos hk (by omega) rfl, ifb_big hw (by decide) (by omega)]
            | rw [ifb_pos hk (by omega) rfl, ifb_pos (show w < 5 by omega) (by decide) rfl, if_neg h27]
            | rw [ifb_pos hk (by omega) rfl, ifb_pos (show w < 5 by omega) (by decide) rfl, if_pos h27, bI_t h52]
            | rw [ifb_pos hk (by omega) rfl, ifb_pos (show w < 5 by omega) (by decide) rfl, if_pos h27, bI_f h52]
          · skip
            refine V_iconst (nI 1) (by decide) dX5_mark_55 ?_
            refine V_goto 60 dX5_mark_56 (by decide) ?_
            refine V_iret rfl rfl rfl ?_ dX5_mark_60
            refine ⟨?_, rfl, rfl⟩
            unfold fMark
            first
            | rw [ifb_neg h11]
            | rw [ifb_pos hk (by omega) rfl, ifb_lt0 h15]
            | rw [ifb_pos hk (by omega) rfl, ifb_big hw (by decide) (by omega)]
            | rw [ifb_pos hk (by omega) rfl, ifb_pos (show w < 5 by omega) (by decide) rfl, if_neg h27]
            | rw [ifb_pos hk (by omega) rfl, ifb_pos (show w < 5 by omega) (by decide) rfl, if_pos h27, bI_t h52]
            | rw [ifb_pos hk (by omega) rfl, ifb_pos (show w < 5 by omega) (by decide) rfl, if_pos h27, bI_f h52]
      · skip
        refine V_iconst (-1) (by decide) dX5_mark_23 ?_
        refine V_iret rfl rfl rfl ?_ dX5_mark_24
        refine ⟨?_, rfl, rfl⟩
        unfold fMark
        first
        | rw [ifb_neg h11]
        | rw [ifb_pos hk (by omega) rfl, ifb_lt0 h15]
        | rw [ifb_pos hk (by omega) rfl, ifb_big hw (by decide) (by omega)]
        | rw [ifb_pos hk (by omega) rfl, ifb_pos (show w < 5 by omega) (by decide) rfl, if_neg h27]
        | rw [ifb_pos hk (by omega) rfl, ifb_pos (show w < 5 by omega) (by decide) rfl, if_pos h27, bI_t h52]
        | rw [ifb_pos hk (by omega) rfl, ifb_pos (show w < 5 by omega) (by decide) rfl, if_pos h27, bI_f h52]
theorem X_world {k : Int32} (hC : CSt sg I A B x tv W P K) (hS : STok x tv W P K) : Fn m_X5_world g [rf g 0, .int k] sg I (some (.int (fWorld tv k))) sg I := by
  obtain ⟨hX0, hok, hnp, hns, ⟨hWok, hwk⟩, hPok, hKok⟩ := hS
  obtain ⟨⟨kc, c0, c1, c2, c3, c4, c5, c6, hAB, kt, u0, u1⟩, ⟨hXt, cX⟩, ⟨nn, hNt⟩, hPs, hKs, hW, hD, ⟨hT, hWl⟩, hB⟩ := hC
  have hmk := hWok.2.2.2.1
  have hn12 := hmk.1
  have hF1 := hok.1
  have hF8 := hok.2.1
  have h256 := p2_le8 hF8
  have h16 := p2_le16 hF8
  have hnw := nw_le hF8
  have hnw0 := nw_pos hWok
  have htr := hWok.1
  obtain ⟨⟨wk, w0, w1⟩, we2, we3, ⟨hM, cM⟩, hH, cH⟩ := id hW
  obtain ⟨⟨tk, t0, t1, t2, t3, t4⟩, tF5, tX6, ⟨hLt, cL⟩, ⟨hPt, cP⟩, ⟨hSt, cS⟩, ⟨hBt, cB⟩⟩ := id hT
  obtain ⟨hWt, cW⟩ := id hWl
  have kX := hXt.1
  have kM := hM.1
  have kH := hH.1
  have kL := hLt.1
  have kP := hPt.1
  have kS := hSt.1
  have kB := hBt.1
  have kW := hWt.1
  have nL10 := hLt.2.2.2.2.2.2.1
  have nP5 := hPt.2.2.2.2.2.2.1
  have nS5 := hSt.2.2.2.2.2.2.1
  have nB6 := hBt.2.2.2.2.2.2.1
  have kP0 := hPs.1.1
  have kK0 := hKs.1.1
  refine Ct.of rfl (Nat.le_of_ble_eq_true rfl) fun X => ?_
  show V X _ sg I 0 [some (rf g 0), some (.int k)] []
  refine V_iload_n rfl dX5_world_0 ?_
  refine V_if_ge 6 dX5_world_1 (by decide) (fun h1 => ?_) (fun h1 => ?_)
  · skip
    refine V_aload_n rfl dX5_world_6 ?_
    refine gf_X5_41 (by assumption) (by assumption) rfl dX5_world_7 ?_
    refine gf_X5_102 (by assumption) (by assumption) rfl dX5_world_10 ?_
    refine V_iload_n rfl dX5_world_13 ?_
    refine cf_X5_108 (C_has hWt) (by assumption) rfl rfl ft0 (Nat.le_of_ble_eq_true rfl) dX5_world_14 ?_
    refine V_if_eqB 35 dX5_world_17 (by decide) (fun h17 => ?_) (fun h17 => ?_)
    · skip
      refine V_bipush (-4) (by decide) dX5_world_35 ?_
      refine V_iret rfl rfl rfl ?_ dX5_world_37
      refine ⟨?_, rfl, rfl⟩
      unfold fWorld
      first
      | rw [if_pos (by rw [Int32.not_le] at h1; exact h1)]
      | rw [if_neg (by rw [Int32.not_lt]; exact h1), ifb_neg h17]
      | rw [if_neg (by rw [Int32.not_lt]; exact h1), ifb_pos hk (by omega) rfl]
    · skip
      obtain ⟨k, hk, rfl⟩ := bel_ex (by omega) h17
      refine V_aload_n rfl dX5_world_20 ?_
      refine gf_X5_41 (by assumption) (by assumption) rfl dX5_world_21 ?_
      refine gf_X5_102 (by assumption) (by assumption) rfl dX5_world_24 ?_
      refine V_iload_n rfl dX5_world_27 ?_
      refine V_iconst (nI 0) (by decide) dX5_world_28 ?_
      refine cf_X5_111 (C_get (c := 0) hWt (by omega) (by decide)) (by assumption) rfl rfl ft0 (Nat.le_of_ble_eq_true rfl) dX5_world_29 ?_
      rw [if_pos hk, (cW k hk).1]
      refine V_goto 37 dX5_world_32 (by decide) ?_
      refine V_iret rfl rfl rfl ?_ dX5_world_37
      refine ⟨?_, rfl, rfl⟩
      unfold fWorld
      first
      | rw [if_pos (by rw [Int32.not_le] at h1; exact h1)]
      | rw [if_neg (by rw [Int32.not_lt]; exact h1), ifb_neg h17]
      | rw [if_neg (by rw [Int32.not_lt]; exact h1), ifb_pos hk (by omega) rfl]
  · skip
    refine V_iconst (-1) (by decide) dX5_world_4 ?_
    refine V_iret rfl rfl rfl ?_ dX5_world_5
    refine ⟨?_, rfl, rfl⟩
    unfold fWorld
    first
    | rw [if_pos (by rw [Int32.not_le] at h1; exact h1)]
    | rw [if_neg (by rw [Int32.not_lt]; exact h1), ifb_neg h17]
    | rw [if_neg (by rw [Int32.not_lt]; exact h1), ifb_pos hk (by omega) rfl]
theorem X_hands {k : Int32} (hC : CSt sg I A B x tv W P K) (hS : STok x tv W P K) : Fn m_X5_hands g [rf g 0, .int k] sg I (some (.int (fHands tv W k))) sg I := by
  obtain ⟨hX0, hok, hnp, hns, ⟨hWok, hwk⟩, hPok, hKok⟩ := hS
  obtain ⟨⟨kc, c0, c1, c2, c3, c4, c5, c6, hAB, kt, u0, u1⟩, ⟨hXt, cX⟩, ⟨nn, hNt⟩, hPs, hKs, hW, hD, ⟨hT, hWl⟩, hB⟩ := hC
  have hmk := hWok.2.2.2.1
  have hn12 := hmk.1
  have hF1 := hok.1
  have hF8 := hok.2.1
  have h256 := p2_le8 hF8
  have h16 := p2_le16 hF8
  have hnw := nw_le hF8
  have hnw0 := nw_pos hWok
  have htr := hWok.1
  obtain ⟨⟨wk, w0, w1⟩, we2, we3, ⟨hM, cM⟩, hH, cH⟩ := id hW
  obtain ⟨⟨tk, t0, t1, t2, t3, t4⟩, tF5, tX6, ⟨hLt, cL⟩, ⟨hPt, cP⟩, ⟨hSt, cS⟩, ⟨hBt, cB⟩⟩ := id hT
  obtain ⟨hWt, cW⟩ := id hWl
  have kX := hXt.1
  have kM := hM.1
  have kH := hH.1
  have kL := hLt.1
  have kP := hPt.1
  have kS := hSt.1
  have kB := hBt.1
  have kW := hWt.1
  have nL10 := hLt.2.2.2.2.2.2.1
  have nP5 := hPt.2.2.2.2.2.2.1
  have nS5 := hSt.2.2.2.2.2.2.1
  have nB6 := hBt.2.2.2.2.2.2.1
  have kP0 := hPs.1.1
  have kK0 := hKs.1.1
  refine Ct.of rfl (Nat.le_of_ble_eq_true rfl) fun X => ?_
  show V X _ sg I 0 [some (rf g 0), some (.int k)] []
  refine V_aload_n rfl dX5_hands_0 ?_
  refine gf_X5_41 (by assumption) (by assumption) rfl dX5_hands_1 ?_
  refine V_iload_n rfl dX5_hands_4 ?_
  refine cf_X5_200 (C_isSaying (tv := tv) tk tF5) (by assumption) rfl rfl ft0 (Nat.le_of_ble_eq_true rfl) dX5_hands_5 ?_
  refine V_if_eqB 27 dX5_hands_8 (by decide) (fun h8 => ?_) (fun h8 => ?_)
  · skip
    refine V_iconst (-1) (by decide) dX5_hands_27 ?_
    refine V_iret rfl rfl rfl ?_ dX5_hands_28
    refine ⟨?_, rfl, rfl⟩
    unfold fHands
    first
    | rw [ifb_neg h8]
    | rw [ifb_pos hk (by omega) rfl]
  · skip
    obtain ⟨k, hk, rfl⟩ := bel_ex (by omega) h8
    refine V_aload_n rfl dX5_hands_11 ?_
    refine gf_X5_31 (by assumption) (by assumption) rfl dX5_hands_12 ?_
    refine V_aload_n rfl dX5_hands_15 ?_
    refine gf_X5_41 (by assumption) (by assumption) rfl dX5_hands_16 ?_
    refine V_iload_n rfl dX5_hands_19 ?_
    refine V_iconst (-1) (by decide) dX5_hands_20 ?_
    refine cf_X5_203 (C_handsOf hT hW hok hmk (by omega) (Or.inl ⟨rfl, rfl⟩)) (by assumption) rfl rfl ft0 (Nat.le_of_ble_eq_true rfl) dX5_hands_21 ?_
    refine V_goto 28 dX5_hands_24 (by decide) ?_
    refine V_iret rfl rfl rfl ?_ dX5_hands_28
    refine ⟨?_, rfl, rfl⟩
    unfold fHands
    first
    | rw [ifb_neg h8]
    | rw [ifb_pos hk (by omega) rfl]
end CREAD
