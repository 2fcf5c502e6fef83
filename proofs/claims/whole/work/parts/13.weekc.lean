/-! Week: contracts -/
def WeekK (sg : SG) (w : Nat) : Prop := (sg.2.2.1 w).1 = 4 ∧ sg.2.2.2 w 0 = some (w + 1) ∧ sg.2.2.2 w 1 = some (w + 3)
def CWeek (sg : SG) (I : IM) (w : Nat) (W : WV) (np : Nat) : Prop := WeekK sg w ∧ I w 2 = nI (wT W) ∧ I w 3 = nI (wK W) ∧ (Tab sg I (w + 1) (w + 2) 12 4 (wM W).1 ∧ Cel I (w + 2) 4 (wM W)) ∧ (Tab sg I (w + 3) (w + 4) 5 1 np ∧ ∀ i, i < np → I (w + 4) (i * 1 + 0) = nI (wH W i))
theorem CWeek.other {sg : SG} {I J : IM} {w np : Nat} {W : WV} (h : CWeek sg I w W np) (e : ∀ q, w ≤ q → q < w + 5 → J q = I q) : CWeek sg J w W np := by
  obtain ⟨h1, h2, h3, ⟨a1, a2⟩, b1, b2⟩ := h
  refine ⟨h1, by rw [e w (by omega) (by omega)]; exact h2, by rw [e w (by omega) (by omega)]; exact h3, ⟨a1.other (e _ (by omega) (by omega)), ?_⟩, b1.other (e _ (by omega) (by omega)), ?_⟩
  · intro k hk c hc; rw [e _ (by omega) (by omega)]; exact a2 k hk c hc
  · intro i hi; rw [e _ (by omega) (by omega)]; exact b2 i hi
theorem nI_dec1 {a : Nat} (h : 0 < a) : nI a + Int32.ofInt (-1) = nI (a - 1) := by
  have := nI_dec (a - 1)
  rwa [show a - 1 + 1 = a by omega] at this
section WEEKC
variable {g : GC} {sg : SG} {I : IM} {T w : Nat} {tv : TV} {W : WV}
theorem C_spend {np i h : Nat} (hW : CWeek sg I w W np) (hi : i < np) (hh : h ≤ wH W i) : Fn m_X4_spend g [rf g w, .int (nI i), .int (nI h)] sg I none sg (upI I (w + 4) (i * 1 + 0) (nI (wH W i - h))) := by
  obtain ⟨⟨hk, r0, r1⟩, e2, e3, ⟨hM, cM⟩, hH, cH⟩ := hW
  have hkH := hH.1
  have hn := hH.2.2.2.2.2.2.1
  refine Ct.of rfl (Nat.le_of_ble_eq_true rfl) fun X => ?_
  show V X _ sg I 0 [some (rf g w), some (.int (nI i)), some (.int (nI h))] []
  refine V_aload_n rfl dX4_spend_0 ?_
  refine gf_X4_20 (by assumption) (by assumption) rfl dX4_spend_1 ?_
  refine V_iload_n rfl dX4_spend_4 ?_
  refine V_iconst (nI 0) (by decide) dX4_spend_5 ?_
  refine V_aload_n rfl dX4_spend_6 ?_
  refine gf_X4_20 (by assumption) (by assumption) rfl dX4_spend_7 ?_
  refine V_iload_n rfl dX4_spend_10 ?_
  refine V_iconst (nI 0) (by decide) dX4_spend_11 ?_
  refine cf_X4_53 (C_get (c := 0) hH (by omega) (by decide)) (by assumption) rfl rfl ft0 (Nat.le_of_ble_eq_true rfl) dX4_spend_12 ?_
  rw [if_pos hi, cH i hi]
  refine V_iload_n rfl dX4_spend_15 ?_
  refine V_isubN (by omega) dX4_spend_16 ?_
  refine cf_X4_61 (C_set (c := 0) hH hi (by decide)) (by assumption) rfl rfl ft0 (Nat.le_of_ble_eq_true rfl) dX4_spend_17 ?_
  refine V_vret rfl rfl rfl ?_ dX4_spend_20
  exact ⟨rfl, rfl, rfl⟩
theorem C_freeRoom {np s : Nat} (hT : CTown sg I T tv) (hW : CWeek sg I w W np) (hok : TVok tv) (hm : MKok tv (wM W) (wK W)) (hs : s < (tS tv).1) : Fn m_X4_freeRoom g [rf g w, rf g T, .int (nI s)] sg I (some (.int (nI (freeN tv W s)))) sg I := by
  obtain ⟨⟨hk, r0, r1⟩, e2, e3, ⟨hM, cM⟩, hH, cH⟩ := hW
  obtain ⟨⟨tk, t0, t1, t2, t3, t4⟩, hF, hX, -, -, ⟨hS, cS⟩, -⟩ := hT
  have hkM := hM.1
  have hkS := hS.1
  have hnS := hS.2.2.2.2.2.2.1
  have hn := hm.1
  have hr := hok.2.2.2.2.2.1 s hs
  have hcnt := hm.2.2 s hs
  have es := cS s hs 0 (by decide)
  refine Ct.of rfl (Nat.le_of_ble_eq_true rfl) fun X => ?_
  show V X _ sg I 0 [some (rf g w), some (rf g T), some (.int (nI s)), none, none] []
  have mono : ∀ k, k ≤ (wM W).1 → cnt k (stB W s) ≤ (tS tv).2 s 0 := fun k hk => by
    have : cnt k (stB W s) ≤ cnt (wM W).1 (stB W s) := by
      obtain ⟨d, hd⟩ : ∃ d, (wM W).1 = k + d := ⟨(wM W).1 - k, by omega⟩
      rw [hd]
      clear hd hk
      induction d with
      | zero => exact Nat.le_refl _
      | succ d ih => rw [← Nat.add_assoc, cnt_succ]; omega
    exact Nat.le_trans this hcnt
  have loop : ∀ (d k : Nat), (wM W).1 - k = d → k ≤ (wM W).1 →
      V X (ZQ X (fun r0 s0 I0 => r0 = some (.int (nI (freeN tv W s))) ∧ s0 = sg ∧ I0 = I)) sg I 13 [some (rf g w), some (rf g T), some (.int (nI s)), some (.int (nI ((tS tv).2 s 0 - cnt k (stB W s)))), some (.int (nI k))] [] := by
    intro d
    induction d with
    | zero =>
      intro k hd hkn
      have e : k = (wM W).1 := by omega
      subst e
      refine V_iload rfl dX4_freeRoom_13 ?_
      refine V_aload_n rfl dX4_freeRoom_15 ?_
      refine gf_X4_14 (by assumption) (by assumption) rfl dX4_freeRoom_16 ?_
      refine cf_X4_49 (C_size hM) (by assumption) rfl rfl ft0 (Nat.le_of_ble_eq_true rfl) dX4_freeRoom_19 ?_
      refine V_icmp_geN 48 dX4_freeRoom_22 (by decide) (by omega) (by omega) (fun h22 => ?_) (fun h22 => absurd h22 (by omega))
      refine V_iload_n rfl dX4_freeRoom_48 ?_
      refine V_iret rfl rfl rfl ?_ dX4_freeRoom_49
      exact ⟨rfl, rfl, rfl⟩
    | succ d ih =>
      intro k hd hkn
      have hkl : k < (wM W).1 := by omega
      have em := cM k hkl 1 (by decide)
      have hst := (hm.2.1 k hkl).2.1
      have h9 := mono (k + 1) (by omega)
      rw [cnt_succ] at h9
      refine V_iload rfl dX4_freeRoom_13 ?_
      refine V_aload_n rfl dX4_freeRoom_15 ?_
      refine gf_X4_14 (by assumption) (by assumption) rfl dX4_freeRoom_16 ?_
      refine cf_X4_49 (C_size hM) (by assumption) rfl rfl ft0 (Nat.le_of_ble_eq_true rfl) dX4_freeRoom_19 ?_
      refine V_icmp_geN 48 dX4_freeRoom_22 (by decide) (by omega) (by omega) (fun h22 => absurd h22 (by omega)) (fun h22 => ?_)
      refine V_aload_n rfl dX4_freeRoom_25 ?_
      refine gf_X4_14 (by assumption) (by assumption) rfl dX4_freeRoom_26 ?_
      refine V_iload rfl dX4_freeRoom_29 ?_
      refine V_iconst (nI 1) (by decide) dX4_freeRoom_31 ?_
      refine cf_X4_53 (C_get (c := 1) hM (by omega) (by decide)) (by assumption) rfl rfl ft0 (Nat.le_of_ble_eq_true rfl) dX4_freeRoom_32 ?_
      rw [if_pos hkl, em]
      refine V_iload_n rfl dX4_freeRoom_35 ?_
      refine V_icmp_neN 42 dX4_freeRoom_36 (by decide) (by omega) (by omega) (fun h36 => ?_) (fun h36 => ?_)
      · skip
        refine V_iinc4_ _ (nI_inc _) rfl rfl dX4_freeRoom_42 ?_
        refine V_goto 13 dX4_freeRoom_45 (by decide) ?_
        have h8 := ih (k + 1) (by omega) (by omega)
        rw [cnt_succ] at h8
        first
        | (rw [if_neg (by unfold stB; simp [h36]), Nat.add_zero] at h8; exact h8)
        | (rw [if_pos (show stB W s k = true from decide_eq_true h36), ← Nat.sub_sub] at h8; exact h8)
      · skip
        refine V_iinc3_ _ (nI_dec1 (by rw [if_pos (show stB W s k = true from decide_eq_true h36)] at h9; omega)) rfl rfl dX4_freeRoom_39 ?_
        refine V_iinc4_ _ (nI_inc _) rfl rfl dX4_freeRoom_42 ?_
        refine V_goto 13 dX4_freeRoom_45 (by decide) ?_
        have h8 := ih (k + 1) (by omega) (by omega)
        rw [cnt_succ] at h8
        first
        | (rw [if_neg (by unfold stB; simp [h36]), Nat.add_zero] at h8; exact h8)
        | (rw [if_pos (show stB W s k = true from decide_eq_true h36), ← Nat.sub_sub] at h8; exact h8)
  refine V_aload_n rfl dX4_freeRoom_0 ?_
  refine gf_X4_65 (by assumption) (by assumption) rfl dX4_freeRoom_1 ?_
  refine V_iload_n rfl dX4_freeRoom_4 ?_
  refine V_iconst (nI 0) (by decide) dX4_freeRoom_5 ?_
  refine cf_X4_53 (C_get (c := 0) hS (by omega) (by decide)) (by assumption) rfl rfl ft0 (Nat.le_of_ble_eq_true rfl) dX4_freeRoom_6 ?_
  rw [if_pos hs, es]
  refine V_ist3 rfl rfl dX4_freeRoom_9 ?_
  refine V_iconst (nI 0) (by decide) dX4_freeRoom_10 ?_
  refine V_ist4 rfl rfl dX4_freeRoom_11 ?_
  exact loop (wM W).1 0 (by omega) (by omega)
theorem C_lowest {np : Nat} (hT : CTown sg I T tv) (hW : CWeek sg I w W np) (hok : TVok tv) (hm : MKok tv (wM W) (wK W)) : Fn m_X4_lowestFreeStone g [rf g w, rf g T] sg I (some (.int (oI (lowF tv W)))) sg I := by
  have hT0 := hT
  have hW0 := hW
  obtain ⟨⟨hk, r0, r1⟩, e2, e3, ⟨hM, cM⟩, hH, cH⟩ := hW
  obtain ⟨⟨tk, t0, t1, t2, t3, t4⟩, hF, hX, -, -, ⟨hS, cS⟩, -⟩ := hT
  have hkS := hS.1
  have hnS := hS.2.2.2.2.2.2.1
  refine Ct.of rfl (Nat.le_of_ble_eq_true rfl) fun X => ?_
  show V X _ sg I 0 [some (rf g w), some (rf g T), none] []
  have loop : ∀ (d k : Nat), (tS tv).1 - k = d → k ≤ (tS tv).1 → (∀ i, i < k → decide (0 < freeN tv W i) = false) →
      V X (ZQ X (fun r0 s0 I0 => r0 = some (.int (oI (lowF tv W))) ∧ s0 = sg ∧ I0 = I)) sg I 2 [some (rf g w), some (rf g T), some (.int (nI k))] [] := by
    intro d
    induction d with
    | zero =>
      intro k hd hkn hall
      have e : k = (tS tv).1 := by omega
      subst e
      have hl : lowF tv W = none := fstB_none.mpr hall
      refine V_iload_n rfl dX4_lowestFreeStone_2 ?_
      refine V_aload_n rfl dX4_lowestFreeStone_3 ?_
      refine gf_X4_65 (by assumption) (by assumption) rfl dX4_lowestFreeStone_4 ?_
      refine cf_X4_49 (C_size hS) (by assumption) rfl rfl ft0 (Nat.le_of_ble_eq_true rfl) dX4_lowestFreeStone_7 ?_
      refine V_icmp_geN 30 dX4_lowestFreeStone_10 (by decide) (by omega) (by omega) (fun h10 => ?_) (fun h10 => absurd h10 (by omega))
      refine V_iconst (-1) (by decide) dX4_lowestFreeStone_30 ?_
      refine V_iret rfl rfl rfl ?_ dX4_lowestFreeStone_31
      exact ⟨by rw [hl]; rfl, rfl, rfl⟩
    | succ d ih =>
      intro k hd hkn hall
      have hkl : k < (tS tv).1 := by omega
      have hfr : freeN tv W k ≤ 6 := Nat.le_trans (Nat.sub_le _ _) (hok.2.2.2.2.2.1 k hkl).2.1
      refine V_iload_n rfl dX4_lowestFreeStone_2 ?_
      refine V_aload_n rfl dX4_lowestFreeStone_3 ?_
      refine gf_X4_65 (by assumption) (by assumption) rfl dX4_lowestFreeStone_4 ?_
      refine cf_X4_49 (C_size hS) (by assumption) rfl rfl ft0 (Nat.le_of_ble_eq_true rfl) dX4_lowestFreeStone_7 ?_
      refine V_icmp_geN 30 dX4_lowestFreeStone_10 (by decide) (by omega) (by omega) (fun h10 => absurd h10 (by omega)) (fun h10 => ?_)
      refine V_aload_n rfl dX4_lowestFreeStone_13 ?_
      refine V_aload_n rfl dX4_lowestFreeStone_14 ?_
      refine V_iload_n rfl dX4_lowestFreeStone_15 ?_
      refine cf_X4_92 (C_freeRoom hT0 hW0 hok hm hkl) (by assumption) rfl rfl ft0 (Nat.le_of_ble_eq_true rfl) dX4_lowestFreeStone_16 ?_
      refine V_if_leN 24 dX4_lowestFreeStone_19 (by decide) (by omega) (fun h19 => ?_) (fun h19 => ?_)
      · skip
        refine V_iinc2_ _ (nI_inc _) rfl rfl dX4_lowestFreeStone_24 ?_
        refine V_goto 2 dX4_lowestFreeStone_27 (by decide) ?_
        refine ih (k + 1) (by omega) (by omega) (fun i hi => ?_)
        by_cases e : i = k
        · subst e; exact decide_eq_false (by omega)
        · exact hall i (by omega)
      · skip
        refine V_iload_n rfl dX4_lowestFreeStone_22 ?_
        refine V_iret rfl rfl rfl ?_ dX4_lowestFreeStone_23
        exact ⟨by rw [show lowF tv W = some k from fstB_at hkl (decide_eq_true (by omega)) hall]; rfl, rfl, rfl⟩
  refine V_iconst (nI 0) (by decide) dX4_lowestFreeStone_0 ?_
  refine V_ist2 rfl rfl dX4_lowestFreeStone_1 ?_
  exact loop (tS tv).1 0 (by omega) (by omega) (fun i hi => absurd hi (Nat.not_lt_zero i))
theorem C_sayingsOf {np set : Nat} (hW : CWeek sg I w W np) (hm : MKok tv (wM W) (wK W)) (hF8 : tF tv ≤ 8) (hs : set < 2147483648) : Fn m_X4_sayingsOf g [rf g w, .int (nI set)] sg I (some (.int (nI (syN tv W set)))) sg I := by
  obtain ⟨⟨hk, r0, r1⟩, e2, e3, ⟨hM, cM⟩, hH, cH⟩ := hW
  have hkM := hM.1
  have hn := hm.1
  refine Ct.of rfl (Nat.le_of_ble_eq_true rfl) fun X => ?_
  show V X _ sg I 0 [some (rf g w), some (.int (nI set)), none, none] []
  have loop : ∀ (d k : Nat), (wM W).1 - k = d → k ≤ (wM W).1 →
      V X (ZQ X (fun r0 s0 I0 => r0 = some (.int (nI (syN tv W set))) ∧ s0 = sg ∧ I0 = I)) sg I 4 [some (rf g w), some (.int (nI set)), some (.int (nI (bm (2 * tF tv) (fun v => anyB k (fun m => set.testBit m && decide ((wM W).2 m 0 = v)))))), some (.int (nI k))] [] := by
    intro d
    induction d with
    | zero =>
      intro k hd hkn
      have e : k = (wM W).1 := by omega
      subst e
      refine V_iload_n rfl dX4_sayingsOf_4 ?_
      refine V_aload_n rfl dX4_sayingsOf_5 ?_
      refine gf_X4_14 (by assumption) (by assumption) rfl dX4_sayingsOf_6 ?_
      refine cf_X4_49 (C_size hM) (by assumption) rfl rfl ft0 (Nat.le_of_ble_eq_true rfl) dX4_sayingsOf_9 ?_
      refine V_icmp_geN 44 dX4_sayingsOf_12 (by decide) (by omega) (by omega) (fun h12 => ?_) (fun h12 => absurd h12 (by omega))
      refine V_iload_n rfl dX4_sayingsOf_44 ?_
      refine V_iret rfl rfl rfl ?_ dX4_sayingsOf_45
      exact ⟨rfl, rfl, rfl⟩
    | succ d ih =>
      intro k hd hkn
      have hkl : k < (wM W).1 := by omega
      have em := cM k hkl 0 (by decide)
      have hsay := (hm.2.1 k hkl).1
      have hbt := @Nat.testBit_eq_decide_div_mod_eq k set
      have h8 := ih (k + 1) (by omega) (by omega)
      refine V_iload_n rfl dX4_sayingsOf_4 ?_
      refine V_aload_n rfl dX4_sayingsOf_5 ?_
      refine gf_X4_14 (by assumption) (by assumption) rfl dX4_sayingsOf_6 ?_
      refine cf_X4_49 (C_size hM) (by assumption) rfl rfl ft0 (Nat.le_of_ble_eq_true rfl) dX4_sayingsOf_9 ?_
      refine V_icmp_geN 44 dX4_sayingsOf_12 (by decide) (by omega) (by omega) (fun h12 => absurd h12 (by omega)) (fun h12 => ?_)
      refine V_iload_n rfl dX4_sayingsOf_15 ?_
      refine V_iload_n rfl dX4_sayingsOf_16 ?_
      refine V_ishrN ⟨hs, by omega⟩ dX4_sayingsOf_17 ?_
      refine V_iconst (nI 1) (by decide) dX4_sayingsOf_18 ?_
      refine V_iand1N dX4_sayingsOf_19 ?_
      refine V_iconst (nI 1) (by decide) dX4_sayingsOf_20 ?_
      refine V_icmp_neN 38 dX4_sayingsOf_21 (by decide) (by omega) (by omega) (fun h21 => ?_) (fun h21 => ?_)
      · skip
        refine V_iinc3_ _ (nI_inc _) rfl rfl dX4_sayingsOf_38 ?_
        refine V_goto 4 dX4_sayingsOf_41 (by decide) ?_
        refine V_same ?_ h8
        rw [bm_congr]
        intro v hv
        rw [anyB_succ]
        first
        | (rw [hbt, decide_eq_false h21, Bool.false_and, Bool.or_false])
        | (rw [hbt, decide_eq_true h21, Bool.true_and]; simp [eq_comm])
      · skip
        refine V_iload_n rfl dX4_sayingsOf_24 ?_
        refine V_iconst (nI 1) (by decide) dX4_sayingsOf_25 ?_
        refine V_aload_n rfl dX4_sayingsOf_26 ?_
        refine gf_X4_14 (by assumption) (by assumption) rfl dX4_sayingsOf_27 ?_
        refine V_iload_n rfl dX4_sayingsOf_30 ?_
        refine V_iconst (nI 0) (by decide) dX4_sayingsOf_31 ?_
        refine cf_X4_53 (C_get (c := 0) hM (by omega) (by decide)) (by assumption) rfl rfl ft0 (Nat.le_of_ble_eq_true rfl) dX4_sayingsOf_32 ?_
        rw [if_pos hkl, em]
        refine V_ishl1N (by omega) dX4_sayingsOf_35 ?_
        refine V_iorN dX4_sayingsOf_36 ?_
        rw [or_pow hsay]
        refine V_ist2 rfl rfl dX4_sayingsOf_37 ?_
        refine V_iinc3_ _ (nI_inc _) rfl rfl dX4_sayingsOf_38 ?_
        refine V_goto 4 dX4_sayingsOf_41 (by decide) ?_
        refine V_same ?_ h8
        rw [bm_congr]
        intro v hv
        rw [anyB_succ]
        first
        | (rw [hbt, decide_eq_false h21, Bool.false_and, Bool.or_false])
        | (rw [hbt, decide_eq_true h21, Bool.true_and]; simp [eq_comm])
  refine V_iconst (nI 0) (by decide) dX4_sayingsOf_0 ?_
  refine V_ist2 rfl rfl dX4_sayingsOf_1 ?_
  refine V_iconst (nI 0) (by decide) dX4_sayingsOf_2 ?_
  refine V_ist3 rfl rfl dX4_sayingsOf_3 ?_
  refine V_same ?_ (loop (wM W).1 0 (by omega) (by omega))
  rw [show (fun v => anyB 0 (fun m => set.testBit m && decide ((wM W).2 m 0 = v))) = (fun _ => false) from rfl, bm_false]
theorem C_marksSoIn {np s : Nat} (hW : CWeek sg I w W np) (hm : MKok tv (wM W) (wK W)) (hF8 : tF tv ≤ 8) (hs : s < 2147483648) : Fn m_X4_marksSoIn g [rf g w, .int (nI s)] sg I (some (.int (nI (msN W s)))) sg I := by
  obtain ⟨⟨hk, r0, r1⟩, e2, e3, ⟨hM, cM⟩, hH, cH⟩ := hW
  have hkM := hM.1
  have hn := hm.1
  refine Ct.of rfl (Nat.le_of_ble_eq_true rfl) fun X => ?_
  show V X _ sg I 0 [some (rf g w), some (.int (nI s)), none, none] []
  have loop : ∀ (d k : Nat), (wM W).1 - k = d → k ≤ (wM W).1 →
      V X (ZQ X (fun r0 s0 I0 => r0 = some (.int (nI (msN W s))) ∧ s0 = sg ∧ I0 = I)) sg I 4 [some (rf g w), some (.int (nI s)), some (.int (nI (bm k (fun m => so ((wM W).2 m 0) s)))), some (.int (nI k))] [] := by
    intro d
    induction d with
    | zero =>
      intro k hd hkn
      have e : k = (wM W).1 := by omega
      subst e
      refine V_iload_n rfl dX4_marksSoIn_4 ?_
      refine V_aload_n rfl dX4_marksSoIn_5 ?_
      refine gf_X4_14 (by assumption) (by assumption) rfl dX4_marksSoIn_6 ?_
      refine cf_X4_49 (C_size hM) (by assumption) rfl rfl ft0 (Nat.le_of_ble_eq_true rfl) dX4_marksSoIn_9 ?_
      refine V_icmp_geN 43 dX4_marksSoIn_12 (by decide) (by omega) (by omega) (fun h12 => ?_) (fun h12 => absurd h12 (by omega))
      refine V_iload_n rfl dX4_marksSoIn_43 ?_
      refine V_iret rfl rfl rfl ?_ dX4_marksSoIn_44
      exact ⟨rfl, rfl, rfl⟩
    | succ d ih =>
      intro k hd hkn
      have hkl : k < (wM W).1 := by omega
      have em := cM k hkl 0 (by decide)
      have hsay := (hm.2.1 k hkl).1
      have h8 := ih (k + 1) (by omega) (by omega)
      rw [bm_succ] at h8
      refine V_iload_n rfl dX4_marksSoIn_4 ?_
      refine V_aload_n rfl dX4_marksSoIn_5 ?_
      refine gf_X4_14 (by assumption) (by assumption) rfl dX4_marksSoIn_6 ?_
      refine cf_X4_49 (C_size hM) (by assumption) rfl rfl ft0 (Nat.le_of_ble_eq_true rfl) dX4_marksSoIn_9 ?_
      refine V_icmp_geN 43 dX4_marksSoIn_12 (by decide) (by omega) (by omega) (fun h12 => absurd h12 (by omega)) (fun h12 => ?_)
      refine V_aload_n rfl dX4_marksSoIn_15 ?_
      refine gf_X4_14 (by assumption) (by assumption) rfl dX4_marksSoIn_16 ?_
      refine V_iload_n rfl dX4_marksSoIn_19 ?_
      refine V_iconst (nI 0) (by decide) dX4_marksSoIn_20 ?_
      refine cf_X4_53 (C_get (c := 0) hM (by omega) (by decide)) (by assumption) rfl rfl ft0 (Nat.le_of_ble_eq_true rfl) dX4_marksSoIn_21 ?_
      rw [if_pos hkl, em]
      refine V_iload_n rfl dX4_marksSoIn_24 ?_
      refine cf_X4_109 (C_isSo (by omega) hs) rfl rfl ft0 (Nat.le_of_ble_eq_true rfl) dX4_marksSoIn_25 ?_
      refine V_if_eqB 37 dX4_marksSoIn_28 (by decide) (fun h28 => ?_) (fun h28 => ?_)
      · skip
        refine V_iinc3_ _ (nI_inc _) rfl rfl dX4_marksSoIn_37 ?_
        refine V_goto 4 dX4_marksSoIn_40 (by decide) ?_
        first
        | (rw [if_neg h28, Nat.or_zero] at h8; exact h8)
        | (rw [if_pos h28] at h8; exact h8)
      · skip
        refine V_iload_n rfl dX4_marksSoIn_31 ?_
        refine V_iconst (nI 1) (by decide) dX4_marksSoIn_32 ?_
        refine V_iload_n rfl dX4_marksSoIn_33 ?_
        refine V_ishl1N (by omega) dX4_marksSoIn_34 ?_
        refine V_iorN dX4_marksSoIn_35 ?_
        refine V_ist2 rfl rfl dX4_marksSoIn_36 ?_
        refine V_iinc3_ _ (nI_inc _) rfl rfl dX4_marksSoIn_37 ?_
        refine V_goto 4 dX4_marksSoIn_40 (by decide) ?_
        first
        | (rw [if_neg h28, Nat.or_zero] at h8; exact h8)
        | (rw [if_pos h28] at h8; exact h8)
  refine V_iconst (nI 0) (by decide) dX4_marksSoIn_0 ?_
  refine V_ist2 rfl rfl dX4_marksSoIn_1 ?_
  refine V_iconst (nI 0) (by decide) dX4_marksSoIn_2 ?_
  refine V_ist3 rfl rfl dX4_marksSoIn_3 ?_
  exact loop (wM W).1 0 (by omega) (by omega)
theorem nI_nm1 {a : Nat} (h : a < 2147483648) : ¬ nI a = -1 := fun e => absurd (nI_ge0 h) (by rw [e]; decide)
theorem C_handsOf {np v al : Nat} {a0 : Int32} (hT : CTown sg I T tv) (hW : CWeek sg I w W np) (hok : TVok tv) (hm : MKok tv (wM W) (wK W)) (hv : v < 2147483648) (ha : (a0 = -1 ∧ al = 99) ∨ (a0 = nI al ∧ al < 8)) : Fn m_X4_handsOf g [rf g w, rf g T, .int (nI v), .int a0] sg I (some (.int (nI (hdsN tv W v 99 al)))) sg I := by
  obtain ⟨⟨hk, r0, r1⟩, e2, e3, ⟨hM, cM⟩, hH, cH⟩ := hW
  obtain ⟨⟨tk, t0, t1, t2, t3, t4⟩, hF, hX, -, -, ⟨hS, cS⟩, -⟩ := hT
  have hkM := hM.1
  have hkS := hS.1
  have hn := hm.1
  have hnS := hS.2.2.2.2.2.2.1
  have hp5 := hok.2.2.2.2.2.2.2.2.1
  have hF8 := hok.2.1
  refine Ct.of rfl (Nat.le_of_ble_eq_true rfl) fun X => ?_
  show V X _ sg I 0 [some (rf g w), some (rf g T), some (.int (nI v)), some (.int a0), none, none, none] []
  have hb : ∀ p : Nat → Bool, bm 8 p < 65536 := fun p => bm_16 (by decide)
  have loop : ∀ (d k : Nat), (wM W).1 - k = d → k ≤ (wM W).1 →
      V X (ZQ X (fun r0 s0 I0 => r0 = some (.int (nI (hdsN tv W v 99 al))) ∧ s0 = sg ∧ I0 = I)) sg I 20 [some (rf g w), some (rf g T), some (.int (nI v)), some (.int a0), some (.int (nI (bm 8 (fun i => decide (i = al) || cutB W v 99 k i)))), some (.int (nI (if archB tv W v 99 k then 1 else 0))), some (.int (nI k))] [] := by
    intro d
    induction d with
    | zero =>
      intro k hd hkn
      have e : k = (wM W).1 := by omega
      subst e
      refine V_iload rfl dX4_handsOf_20 ?_
      refine V_aload_n rfl dX4_handsOf_22 ?_
      refine gf_X4_14 (by assumption) (by assumption) rfl dX4_handsOf_23 ?_
      refine cf_X4_49 (C_size hM) (by assumption) rfl rfl ft0 (Nat.le_of_ble_eq_true rfl) dX4_handsOf_26 ?_
      refine V_icmp_geN 94 dX4_handsOf_29 (by decide) (by omega) (by omega) (fun h29 => ?_) (fun h29 => absurd h29 (by omega))
      refine V_iload rfl dX4_handsOf_94 ?_
      refine cf_X4_96 (C_bitCount (hb _)) rfl rfl ft0 (Nat.le_of_ble_eq_true rfl) dX4_handsOf_96 ?_
      rw [show pc16 (bm 8 (fun i => decide (i = al) || cutB W v 99 (wM W).1 i)) = cnt 8 (fun i => decide (i = al) || cutB W v 99 (wM W).1 i) from pc_bm (by decide)]
      refine V_iload rfl dX4_handsOf_99 ?_
      refine V_iaddN dX4_handsOf_101 ?_
      refine V_iret rfl rfl rfl ?_ dX4_handsOf_102
      exact ⟨rfl, rfl, rfl⟩
    | succ d ih =>
      intro k hd hkn
      have hkl : k < (wM W).1 := by omega
      have em := cM k hkl 0 (by decide)
      have em2 := cM k hkl 2 (by decide)
      have em1 := cM k hkl 1 (by decide)
      obtain ⟨g1, g2, g3, g4⟩ := hm.2.1 k hkl
      have es := cS _ g2 2 (by decide)
      have hkd := hok.2.2.2.2.2.1 _ g2
      have h99 : decide (k ≠ 99) = true := decide_eq_true (by omega)
      have h8 := ih (k + 1) (by omega) (by omega)
      have hcs : ∀ i, cutB W v 99 (k + 1) i = (cutB W v 99 k i || (decide ((wM W).2 k 0 = v) && decide ((wM W).2 k 2 = i))) := fun i => by
        unfold cutB; rw [anyB_succ, h99, Bool.and_true]
      have has : archB tv W v 99 (k + 1) = (archB tv W v 99 k || (decide ((wM W).2 k 0 = v) && decide ((tS tv).2 ((wM W).2 k 1) 2 = 3))) := by
        unfold archB; rw [anyB_succ, h99, Bool.and_true]
      have ef : ¬ (wM W).2 k 0 = v → bm 8 (fun i => decide (i = al) || cutB W v 99 (k + 1) i) = bm 8 (fun i => decide (i = al) || cutB W v 99 k i) := fun h => bm_congr (fun i _ => by rw [hcs i, decide_eq_false h, Bool.false_and, Bool.or_false])
      have et : (wM W).2 k 0 = v → bm 8 (fun i => decide (i = al) || cutB W v 99 (k + 1) i) = bm 8 (fun i => (decide (i = al) || cutB W v 99 k i) || decide (i = (wM W).2 k 2)) := fun h => bm_congr (fun i _ => by rw [hcs i, decide_eq_true h, Bool.true_and, Bool.or_assoc]; simp [eq_comm])
      refine V_iload rfl dX4_handsOf_20 ?_
      refine V_aload_n rfl dX4_handsOf_22 ?_
      refine gf_X4_14 (by assumption) (by assumption) rfl dX4_handsOf_23 ?_
      refine cf_X4_49 (C_size hM) (by assumption) rfl rfl ft0 (Nat.le_of_ble_eq_true rfl) dX4_handsOf_26 ?_
      refine V_icmp_geN 94 dX4_handsOf_29 (by decide) (by omega) (by omega) (fun h29 => absurd h29 (by omega)) (fun h29 => ?_)
      refine V_aload_n rfl dX4_handsOf_32 ?_
      refine gf_X4_14 (by assumption) (by assumption) rfl dX4_handsOf_33 ?_
      refine V_iload rfl dX4_handsOf_36 ?_
      refine V_iconst (nI 0) (by decide) dX4_handsOf_38 ?_
      refine cf_X4_53 (C_get (c := 0) hM (by omega) (by decide)) (by assumption) rfl rfl ft0 (Nat.le_of_ble_eq_true rfl) dX4_handsOf_39 ?_
      rw [if_pos hkl, em]
      refine V_iload_n rfl dX4_handsOf_42 ?_
      refine V_icmp_neN 88 dX4_handsOf_43 (by decide) (by omega) (by omega) (fun h43 => ?_) (fun h43 => ?_)
      · skip
        refine V_iinc6_ _ (nI_inc _) rfl rfl dX4_handsOf_88 ?_
        refine V_goto 20 dX4_handsOf_91 (by decide) ?_
        refine V_same ?_ h8
        rw [has]
        first
        | (rw [decide_eq_false h43, Bool.false_and, Bool.or_false, ef h43])
        | (rw [decide_eq_true h43, Bool.true_and, decide_eq_false h82, Bool.or_false, et h43])
        | (rw [decide_eq_true h43, Bool.true_and, decide_eq_true h82, Bool.or_true, if_pos rfl, et h43])
      · skip
        refine V_iload rfl dX4_handsOf_46 ?_
        refine V_iconst (nI 1) (by decide) dX4_handsOf_48 ?_
        refine V_aload_n rfl dX4_handsOf_49 ?_
        refine gf_X4_14 (by assumption) (by assumption) rfl dX4_handsOf_50 ?_
        refine V_iload rfl dX4_handsOf_53 ?_
        refine V_iconst (nI 2) (by decide) dX4_handsOf_55 ?_
        refine cf_X4_53 (C_get (c := 2) hM (by omega) (by decide)) (by assumption) rfl rfl ft0 (Nat.le_of_ble_eq_true rfl) dX4_handsOf_56 ?_
        rw [if_pos hkl, em2]
        refine V_ishl1N (by omega) dX4_handsOf_59 ?_
        refine V_iorN dX4_handsOf_60 ?_
        rw [or_pow (show (wM W).2 k 2 < 8 by omega)]
        refine V_ist4 rfl rfl dX4_handsOf_61 ?_
        refine V_aload_n rfl dX4_handsOf_63 ?_
        refine gf_X4_65 (by assumption) (by assumption) rfl dX4_handsOf_64 ?_
        refine V_aload_n rfl dX4_handsOf_67 ?_
        refine gf_X4_14 (by assumption) (by assumption) rfl dX4_handsOf_68 ?_
        refine V_iload rfl dX4_handsOf_71 ?_
        refine V_iconst (nI 1) (by decide) dX4_handsOf_73 ?_
        refine cf_X4_53 (C_get (c := 1) hM (by omega) (by decide)) (by assumption) rfl rfl ft0 (Nat.le_of_ble_eq_true rfl) dX4_handsOf_74 ?_
        rw [if_pos hkl, em1]
        refine V_iconst (nI 2) (by decide) dX4_handsOf_77 ?_
        refine cf_X4_53 (C_get (c := 2) hS (by omega) (by decide)) (by assumption) rfl rfl ft0 (Nat.le_of_ble_eq_true rfl) dX4_handsOf_78 ?_
        rw [if_pos g2, es]
        refine V_iconst (nI 3) (by decide) dX4_handsOf_81 ?_
        refine V_icmp_neN 88 dX4_handsOf_82 (by decide) (by omega) (by omega) (fun h82 => ?_) (fun h82 => ?_)
        · skip
          refine V_iinc6_ _ (nI_inc _) rfl rfl dX4_handsOf_88 ?_
          refine V_goto 20 dX4_handsOf_91 (by decide) ?_
          refine V_same ?_ h8
          rw [has]
          first
          | (rw [decide_eq_false h43, Bool.false_and, Bool.or_false, ef h43])
          | (rw [decide_eq_true h43, Bool.true_and, decide_eq_false h82, Bool.or_false, et h43])
          | (rw [decide_eq_true h43, Bool.true_and, decide_eq_true h82, Bool.or_true, if_pos rfl, et h43])
        · skip
          refine V_iconst (nI 1) (by decide) dX4_handsOf_85 ?_
          refine V_ist5 rfl rfl dX4_handsOf_86 ?_
          refine V_iinc6_ _ (nI_inc _) rfl rfl dX4_handsOf_88 ?_
          refine V_goto 20 dX4_handsOf_91 (by decide) ?_
          refine V_same ?_ h8
          rw [has]
          first
          | (rw [decide_eq_false h43, Bool.false_and, Bool.or_false, ef h43])
          | (rw [decide_eq_true h43, Bool.true_and, decide_eq_false h82, Bool.or_false, et h43])
          | (rw [decide_eq_true h43, Bool.true_and, decide_eq_true h82, Bool.or_true, if_pos rfl, et h43])
  have hstart : V X (ZQ X (fun r0 s0 I0 => r0 = some (.int (nI (hdsN tv W v 99 al))) ∧ s0 = sg ∧ I0 = I)) sg I 12 [some (rf g w), some (rf g T), some (.int (nI v)), some (.int a0), none, none, none] [.int (nI (bm 8 (fun i => decide (i = al) || cutB W v 99 0 i)))] := by
    refine V_ist4 rfl rfl dX4_handsOf_12 ?_
    refine V_iconst (nI 0) (by decide) dX4_handsOf_14 ?_
    refine V_ist5 rfl rfl dX4_handsOf_15 ?_
    refine V_iconst (nI 0) (by decide) dX4_handsOf_17 ?_
    refine V_ist6 rfl rfl dX4_handsOf_18 ?_
    exact loop (wM W).1 0 (by omega) (by omega)
  rcases ha with ⟨rfl, rfl⟩ | ⟨rfl, hal⟩
  · skip
    refine V_iload_n rfl dX4_handsOf_0 ?_
    refine V_iconst (-1) (by decide) dX4_handsOf_1 ?_
    refine V_icmp_ne 9 dX4_handsOf_2 (by decide) (fun h2 => absurd h2 (by exact fun z => z rfl)) (fun h2 => ?_)
    refine V_iconst (nI 0) (by decide) dX4_handsOf_5 ?_
    refine V_goto 12 dX4_handsOf_6 (by decide) ?_
    have e0 : bm 8 (fun i => decide (i = 99) || cutB W v 99 0 i) = 0 := by
      rw [← bm_false 8]
      exact bm_congr (fun i hi => by rw [decide_eq_false (show ¬ i = 99 by omega)]; rfl)
    rw [e0] at hstart
    exact hstart
  · have e : 2 ^ al = bm 8 (fun i => decide (i = al) || cutB W v 99 0 i) := by
      have h9 := or_pow (n := 8) (j := al) (p := fun _ => false) hal
      rw [bm_false, Nat.zero_or] at h9
      rw [h9]
      exact bm_congr (fun i _ => by rw [Bool.false_or]; exact (Bool.or_false _).symm)
    refine V_iload_n rfl dX4_handsOf_0 ?_
    refine V_iconst (-1) (by decide) dX4_handsOf_1 ?_
    refine V_icmp_ne 9 dX4_handsOf_2 (by decide) (fun h2 => ?_) (fun h2 => absurd h2 (by exact nI_nm1 (by omega)))
    refine V_iconst (nI 1) (by decide) dX4_handsOf_9 ?_
    refine V_iload_n rfl dX4_handsOf_10 ?_
    refine V_ishl1N (by omega) dX4_handsOf_11 ?_
    rw [e]; exact hstart
theorem hds_le {v wo al : Nat} : hdsN tv W v wo al ≤ 9 := by
  unfold hdsN
  have := cnt_le (fun i => decide (i = al) || cutB W v wo (wM W).1 i) 8
  split <;> omega
theorem C_readBy {np h : Nat} (hT : CTown sg I T tv) (hW : CWeek sg I w W np) (hok : TVok tv) (hm : MKok tv (wM W) (wK W)) (hh : h < 2147483648) : Fn m_X4_readBy g [rf g w, rf g T, .int (nI h)] sg I (some (.int (nI (rdN tv W h 99)))) sg I := by
  have hW0 := hW
  have hT0 := hT
  obtain ⟨⟨hk, r0, r1⟩, e2, e3, ⟨hM, cM⟩, hH, cH⟩ := hW
  obtain ⟨⟨tk, t0, t1, t2, t3, t4⟩, hF, hX, -⟩ := hT
  have hF8 := hok.2.1
  refine Ct.of rfl (Nat.le_of_ble_eq_true rfl) fun X => ?_
  show V X _ sg I 0 [some (rf g w), some (rf g T), some (.int (nI h)), none, none] []
  have loop : ∀ (d k : Nat), 2 * tF tv - k = d → k ≤ 2 * tF tv →
      V X (ZQ X (fun r0 s0 I0 => r0 = some (.int (nI (rdN tv W h 99))) ∧ s0 = sg ∧ I0 = I)) sg I 5 [some (rf g w), some (rf g T), some (.int (nI h)), some (.int (nI (bm k (fun v => decide (h ≤ hdsN tv W v 99 99))))), some (.int (nI k))] [] := by
    intro d
    induction d with
    | zero =>
      intro k hd hkn
      have e : k = 2 * tF tv := by omega
      subst e
      refine V_iload rfl dX4_readBy_5 ?_
      refine V_iconst (nI 2) (by decide) dX4_readBy_7 ?_
      refine V_aload_n rfl dX4_readBy_8 ?_
      refine gfe_X4_79 (by assumption) (by assumption) rfl dX4_readBy_9 ?_
      refine V_imulN dX4_readBy_12 ?_
      refine V_icmp_geN 41 dX4_readBy_13 (by decide) (by omega) (by omega) (fun h13 => ?_) (fun h13 => absurd h13 (by omega))
      refine V_iload_n rfl dX4_readBy_41 ?_
      refine V_iret rfl rfl rfl ?_ dX4_readBy_42
      exact ⟨rfl, rfl, rfl⟩
    | succ d ih =>
      intro k hd hkn
      have hh9 : hdsN tv W k 99 99 ≤ 9 := hds_le
      have h8 := ih (k + 1) (by omega) (by omega)
      rw [bm_succ] at h8
      refine V_iload rfl dX4_readBy_5 ?_
      refine V_iconst (nI 2) (by decide) dX4_readBy_7 ?_
      refine V_aload_n rfl dX4_readBy_8 ?_
      refine gfe_X4_79 (by assumption) (by assumption) rfl dX4_readBy_9 ?_
      refine V_imulN dX4_readBy_12 ?_
      refine V_icmp_geN 41 dX4_readBy_13 (by decide) (by omega) (by omega) (fun h13 => absurd h13 (by omega)) (fun h13 => ?_)
      refine V_aload_n rfl dX4_readBy_16 ?_
      refine V_aload_n rfl dX4_readBy_17 ?_
      refine V_iload rfl dX4_readBy_18 ?_
      refine V_iconst (-1) (by decide) dX4_readBy_20 ?_
      refine cf_X4_102 (C_handsOf hT0 hW0 hok hm (by omega) (Or.inl ⟨rfl, rfl⟩)) (by assumption) rfl rfl ft0 (Nat.le_of_ble_eq_true rfl) dX4_readBy_21 ?_
      refine V_iload_n rfl dX4_readBy_24 ?_
      refine V_icmp_ltN 35 dX4_readBy_25 (by decide) (by omega) (by omega) (fun h25 => ?_) (fun h25 => ?_)
      · skip
        refine V_iinc4_ _ (nI_inc _) rfl rfl dX4_readBy_35 ?_
        refine V_goto 5 dX4_readBy_38 (by decide) ?_
        first
        | (rw [if_neg (by rw [decide_eq_false (by omega)]; decide), Nat.or_zero] at h8; exact h8)
        | (rw [if_pos (decide_eq_true (by omega))] at h8; exact h8)
      · skip
        refine V_iload_n rfl dX4_readBy_28 ?_
        refine V_iconst (nI 1) (by decide) dX4_readBy_29 ?_
        refine V_iload rfl dX4_readBy_30 ?_
        refine V_ishl1N (by omega) dX4_readBy_32 ?_
        refine V_iorN dX4_readBy_33 ?_
        refine V_ist3 rfl rfl dX4_readBy_34 ?_
        refine V_iinc4_ _ (nI_inc _) rfl rfl dX4_readBy_35 ?_
        refine V_goto 5 dX4_readBy_38 (by decide) ?_
        first
        | (rw [if_neg (by rw [decide_eq_false (by omega)]; decide), Nat.or_zero] at h8; exact h8)
        | (rw [if_pos (decide_eq_true (by omega))] at h8; exact h8)
  refine V_iconst (nI 0) (by decide) dX4_readBy_0 ?_
  refine V_ist3 rfl rfl dX4_readBy_1 ?_
  refine V_iconst (nI 0) (by decide) dX4_readBy_2 ?_
  refine V_ist4 rfl rfl dX4_readBy_3 ?_
  exact loop (2 * tF tv) 0 (by omega) (by omega)
theorem rd1_sy {set wo : Nat} (hok : TVok tv) (hm : MKok tv (wM W) (wK W)) (hs : ∀ m, m < (wM W).1 → set.testBit m = decide (m ≠ wo)) : syN tv W set = rdN tv W 1 wo := by
  unfold syN rdN
  refine bm_congr (fun v _ => ?_)
  have h := hds_1 (T := tv) (W := W) (v := v) (wo := wo) (fun m hmm => by have := (hm.2.1 m hmm).2.2.1; have := hok.2.2.2.2.2.2.2.2.1; omega)
  rw [Bool.eq_iff_iff, decide_eq_true_iff, h, anyB_iff, anyB_iff]
  constructor
  · rintro ⟨m, a, b⟩
    rw [hs m a] at b
    exact ⟨m, a, by rw [Bool.and_comm]; exact b⟩
  · rintro ⟨m, a, b⟩
    exact ⟨m, a, by rw [hs m a, Bool.and_comm]; exact b⟩
theorem C_carvedBut {np wo : Nat} {a0 : Int32} (hW : CWeek sg I w W np) (hok : TVok tv) (hm : MKok tv (wM W) (wK W)) (ha : (a0 = -1 ∧ wo = 99) ∨ (a0 = nI wo ∧ wo < (wM W).1)) : Fn m_X4_carvedBut g [rf g w, .int a0] sg I (some (.int (nI (rdN tv W 1 wo)))) sg I := by
  have hW0 := hW
  obtain ⟨⟨hk, r0, r1⟩, e2, e3, ⟨hM, cM⟩, hH, cH⟩ := hW
  have hn := hm.1
  have hkM := hM.1
  have hp := p2_pos (wM W).1
  have hp2 : 2 ^ (wM W).1 ≤ 2 ^ 12 := Nat.pow_le_pow_right (by decide) hn
  have hall : ∀ m, m < (wM W).1 → (2 ^ (wM W).1 - 1).testBit m = true := fun m hmm => by rw [Nat.testBit_two_pow_sub_one]; exact decide_eq_true hmm
  refine Ct.of rfl (Nat.le_of_ble_eq_true rfl) fun X => ?_
  show V X _ sg I 0 [some (rf g w), some (.int a0), none] []
  rcases ha with ⟨rfl, rfl⟩ | ⟨rfl, hal⟩
  · have e := rd1_sy (set := 2 ^ (wM W).1 - 1) (wo := 99) hok hm (fun m hmm => by rw [hall m hmm, decide_eq_true (by omega)])
    rw [← e]
    refine V_iconst (nI 1) (by decide) dX4_carvedBut_0 ?_
    refine V_aload_n rfl dX4_carvedBut_1 ?_
    refine gf_X4_14 (by assumption) (by assumption) rfl dX4_carvedBut_2 ?_
    refine cf_X4_49 (C_size hM) (by assumption) rfl rfl ft0 (Nat.le_of_ble_eq_true rfl) dX4_carvedBut_5 ?_
    refine V_ishl1N (by omega) dX4_carvedBut_8 ?_
    refine V_iconst (nI 1) (by decide) dX4_carvedBut_9 ?_
    refine V_isubN (by omega) dX4_carvedBut_10 ?_
    refine V_ist2 rfl rfl dX4_carvedBut_11 ?_
    refine V_aload_n rfl dX4_carvedBut_12 ?_
    refine V_iload_n rfl dX4_carvedBut_13 ?_
    refine V_iconst (-1) (by decide) dX4_carvedBut_14 ?_
    refine V_icmp_ne 22 dX4_carvedBut_15 (by decide) (fun h15 => absurd h15 (by exact fun z => z rfl)) (fun h15 => ?_)
    refine V_iload_n rfl dX4_carvedBut_18 ?_
    refine V_goto 29 dX4_carvedBut_19 (by decide) ?_
    refine cf_X4_106 (C_sayingsOf hW0 hm hok.2.1 (by omega)) (by assumption) rfl rfl ft0 (Nat.le_of_ble_eq_true rfl) dX4_carvedBut_29 ?_
    refine V_iret rfl rfl rfl ?_ dX4_carvedBut_32
    exact ⟨rfl, rfl, rfl⟩
  · have hx : (2 ^ (wM W).1 - 1) ^^^ ((2 ^ (wM W).1 - 1) &&& 2 ^ wo) < 2 ^ 12 := Nat.xor_lt_two_pow (by omega) (Nat.lt_of_le_of_lt Nat.and_le_left (by omega))
    have e := rd1_sy (set := (2 ^ (wM W).1 - 1) ^^^ ((2 ^ (wM W).1 - 1) &&& 2 ^ wo)) (wo := wo) hok hm (fun m hmm => by
      rw [Nat.testBit_xor, Nat.testBit_and, hall m hmm, Nat.testBit_two_pow]
      by_cases q : wo = m
      · subst q; simp
      · have : ¬ m = wo := fun z => q z.symm
        simp [q, this])
    rw [← e]
    refine V_iconst (nI 1) (by decide) dX4_carvedBut_0 ?_
    refine V_aload_n rfl dX4_carvedBut_1 ?_
    refine gf_X4_14 (by assumption) (by assumption) rfl dX4_carvedBut_2 ?_
    refine cf_X4_49 (C_size hM) (by assumption) rfl rfl ft0 (Nat.le_of_ble_eq_true rfl) dX4_carvedBut_5 ?_
    refine V_ishl1N (by omega) dX4_carvedBut_8 ?_
    refine V_iconst (nI 1) (by decide) dX4_carvedBut_9 ?_
    refine V_isubN (by omega) dX4_carvedBut_10 ?_
    refine V_ist2 rfl rfl dX4_carvedBut_11 ?_
    refine V_aload_n rfl dX4_carvedBut_12 ?_
    refine V_iload_n rfl dX4_carvedBut_13 ?_
    refine V_iconst (-1) (by decide) dX4_carvedBut_14 ?_
    refine V_icmp_ne 22 dX4_carvedBut_15 (by decide) (fun h15 => ?_) (fun h15 => absurd h15 (by exact nI_nm1 (by omega)))
    refine V_iload_n rfl dX4_carvedBut_22 ?_
    refine V_iconst (nI 1) (by decide) dX4_carvedBut_23 ?_
    refine V_iload_n rfl dX4_carvedBut_24 ?_
    refine V_ishl1N (by omega) dX4_carvedBut_25 ?_
    refine V_iconst (-1) (by decide) dX4_carvedBut_26 ?_
    skip
    refine V_ixor dX4_carvedBut_27 ?_
    refine V_iand dX4_carvedBut_28 ?_
    refine V_topi (nI_andn _ _ (by omega)) ?_
    refine cf_X4_106 (C_sayingsOf hW0 hm hok.2.1 (by omega)) (by assumption) rfl rfl ft0 (Nat.le_of_ble_eq_true rfl) dX4_carvedBut_29 ?_
    refine V_iret rfl rfl rfl ?_ dX4_carvedBut_32
    exact ⟨rfl, rfl, rfl⟩
theorem nI_toL {n : Nat} (h : n < 2147483648) : (nI n).toInt64 = lN n := nI_l h
theorem wtN_succ (T : TV) (W : WV) (s m : Nat) : wtN T W s (m + 1) = wtN T W s m * (if so ((wM W).2 m 0) s then 10 - (tP T).2 ((wM W).2 m 2) 1 else (tP T).2 ((wM W).2 m 2) 1) := rfl
theorem C_weightOf {np s : Nat} (hT : CTown sg I T tv) (hW : CWeek sg I w W np) (hok : TVok tv) (hm : MKok tv (wM W) (wK W)) (hs : s < 2147483648) : Fn m_X4_weightOf g [rf g w, rf g T, .int (nI s)] sg I (some (.long (lN (wtN tv W s (wM W).1)))) sg I := by
  obtain ⟨⟨hk, r0, r1⟩, e2, e3, ⟨hM, cM⟩, hH, cH⟩ := hW
  obtain ⟨⟨tk, t0, t1, t2, t3, t4⟩, hF, hX, -, ⟨hP, cP⟩, -, -⟩ := hT
  have hkM := hM.1
  have hkP := hP.1
  have hn := hm.1
  have hF8 := hok.2.1
  have hnP := hP.2.2.2.2.2.2.1
  refine Ct.of rfl (Nat.le_of_ble_eq_true rfl) fun X => ?_
  show V X _ sg I 0 [some (rf g w), some (rf g T), some (.int (nI s)), none, none, none, none] []
  have loop : ∀ (d k : Nat) (x : Option Value), okp x = true → (wM W).1 - k = d → k ≤ (wM W).1 →
      V X (ZQ X (fun r0 s0 I0 => r0 = some (.long (lN (wtN tv W s (wM W).1))) ∧ s0 = sg ∧ I0 = I)) sg I 5 [some (rf g w), some (rf g T), some (.int (nI s)), some (.long (lN (wtN tv W s k))), none, some (.int (nI k)), x] [] := by
    intro d
    induction d with
    | zero =>
      intro k x hx hd hkn
      have e : k = (wM W).1 := by omega
      subst e
      refine V_iload rfl dX4_weightOf_5 ?_
      refine V_aload_n rfl dX4_weightOf_7 ?_
      refine gf_X4_14 (by assumption) (by assumption) rfl dX4_weightOf_8 ?_
      refine cf_X4_49 (C_size hM) (by assumption) rfl rfl ft0 (Nat.le_of_ble_eq_true rfl) dX4_weightOf_11 ?_
      refine V_icmp_geN 75 dX4_weightOf_14 (by decide) (by omega) (by omega) (fun h14 => ?_) (fun h14 => absurd h14 (by omega))
      refine V_lload_n rfl dX4_weightOf_75 ?_
      refine V_lret rfl rfl rfl ?_ dX4_weightOf_76
      exact ⟨rfl, rfl, rfl⟩
    | succ d ih =>
      intro k x hx hd hkn
      have hkl : k < (wM W).1 := by omega
      have em := cM k hkl 0 (by decide)
      have em2 := cM k hkl 2 (by decide)
      obtain ⟨g1, g2, g3, g4⟩ := hm.2.1 k hkl
      have ep := cP _ g3 1 (by decide)
      have hl9 := (hok.2.2.2.2.1 _ g3).2
      have h8 := fun x hx => ih (k + 1) x hx (by omega) (by omega)
      rw [wtN_succ] at h8
      refine V_iload rfl dX4_weightOf_5 ?_
      refine V_aload_n rfl dX4_weightOf_7 ?_
      refine gf_X4_14 (by assumption) (by assumption) rfl dX4_weightOf_8 ?_
      refine cf_X4_49 (C_size hM) (by assumption) rfl rfl ft0 (Nat.le_of_ble_eq_true rfl) dX4_weightOf_11 ?_
      refine V_icmp_geN 75 dX4_weightOf_14 (by decide) (by omega) (by omega) (fun h14 => absurd h14 (by omega)) (fun h14 => ?_)
      refine V_aload_n rfl dX4_weightOf_17 ?_
      refine gf_X4_46 (by assumption) (by assumption) rfl dX4_weightOf_18 ?_
      refine V_aload_n rfl dX4_weightOf_21 ?_
      refine gf_X4_14 (by assumption) (by assumption) rfl dX4_weightOf_22 ?_
      refine V_iload rfl dX4_weightOf_25 ?_
      refine V_iconst (nI 2) (by decide) dX4_weightOf_27 ?_
      refine cf_X4_53 (C_get (c := 2) hM (by omega) (by decide)) (by assumption) rfl rfl ft0 (Nat.le_of_ble_eq_true rfl) dX4_weightOf_28 ?_
      rw [if_pos hkl, em2]
      refine V_iconst (nI 1) (by decide) dX4_weightOf_31 ?_
      refine cf_X4_53 (C_get (c := 1) hP (by omega) (by decide)) (by assumption) rfl rfl ft0 (Nat.le_of_ble_eq_true rfl) dX4_weightOf_32 ?_
      rw [if_pos g3, ep]
      refine V_ist6 rfl rfl dX4_weightOf_35 ?_
      refine V_lload_n rfl dX4_weightOf_37 ?_
      refine V_aload_n rfl dX4_weightOf_38 ?_
      refine gf_X4_14 (by assumption) (by assumption) rfl dX4_weightOf_39 ?_
      refine V_iload rfl dX4_weightOf_42 ?_
      refine V_iconst (nI 0) (by decide) dX4_weightOf_44 ?_
      refine cf_X4_53 (C_get (c := 0) hM (by omega) (by decide)) (by assumption) rfl rfl ft0 (Nat.le_of_ble_eq_true rfl) dX4_weightOf_45 ?_
      rw [if_pos hkl, em]
      refine V_iload_n rfl dX4_weightOf_48 ?_
      refine cf_X4_109 (C_isSo (by omega) hs) rfl rfl ft0 (Nat.le_of_ble_eq_true rfl) dX4_weightOf_49 ?_
      refine V_if_eqB 64 dX4_weightOf_52 (by decide) (fun h52 => ?_) (fun h52 => ?_)
      · skip
        refine V_iload rfl dX4_weightOf_64 ?_
        refine V_i2l dX4_weightOf_66 ?_
        rw [nI_toL (by omega)]
        refine V_lmul dX4_weightOf_67 ?_
        rw [lN_mul]
        refine V_lst3 rfl rfl dX4_weightOf_68 ?_
        refine V_iinc5_ _ (nI_inc _) rfl rfl dX4_weightOf_69 ?_
        refine V_goto 5 dX4_weightOf_72 (by decide) ?_
        first
        | (rw [if_neg h52] at h8; exact h8 _ rfl)
        | (rw [if_pos h52] at h8; exact h8 _ rfl)
      · skip
        refine V_bipush (nI 10) (by decide) dX4_weightOf_55 ?_
        refine V_iload rfl dX4_weightOf_57 ?_
        refine V_isubN (by omega) dX4_weightOf_59 ?_
        refine V_i2l dX4_weightOf_60 ?_
        rw [nI_toL (by omega)]
        refine V_goto 67 dX4_weightOf_61 (by decide) ?_
        refine V_lmul dX4_weightOf_67 ?_
        rw [lN_mul]
        refine V_lst3 rfl rfl dX4_weightOf_68 ?_
        refine V_iinc5_ _ (nI_inc _) rfl rfl dX4_weightOf_69 ?_
        refine V_goto 5 dX4_weightOf_72 (by decide) ?_
        first
        | (rw [if_neg h52] at h8; exact h8 _ rfl)
        | (rw [if_pos h52] at h8; exact h8 _ rfl)
  refine V_lconst 1 rfl dX4_weightOf_0 ?_
  refine V_lst3 rfl rfl dX4_weightOf_1 ?_
  refine V_iconst (nI 0) (by decide) dX4_weightOf_2 ?_
  refine V_ist5 rfl rfl dX4_weightOf_3 ?_
  exact loop (wM W).1 0 _ rfl (by omega) (by omega)
end WEEKC
