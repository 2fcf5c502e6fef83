/-! Week: what changes it; Shelf -/
theorem Cel.set {I : IM} {a w m c v : Nat} {tb : TB} (h : Cel I a w tb) (hc : c < w) : Cel (upI I a (m * w + c) (nI v)) a w (setTB tb m c v) := by
  intro k hk d hd
  have hk' : k < tb.1 := hk
  show _ = nI (if k = m ∧ d = c then v else tb.2 k d)
  by_cases e : k = m ∧ d = c
  · rw [if_pos e, e.1, e.2]; exact upI_eq
  · rw [if_neg e, upI_ne (Or.inr ?_)]
    · exact h k hk' d hd
    · intro z
      by_cases e1 : k = m
      · subst e1; exact e ⟨rfl, by omega⟩
      · exact rows_apart e1 hd hc z
theorem Cel.rm {sg : SG} {I J : IM} {t a mx w m : Nat} {tb : TB} (h : Cel I a w tb) (hm : m < tb.1) (e1 : ∀ i, i < m * w → J a i = I a i) (e2 : ∀ i, m * w ≤ i → i < (tb.1 - 1) * w → J a i = I a (i + w)) : Cel J a w (rmTB tb m) := by
  intro k hk c hc
  have hk' : k < tb.1 - 1 := hk
  show _ = nI (if k < m then tb.2 k c else tb.2 (k + 1) c)
  by_cases e : k < m
  · rw [if_pos e, e1 _ (tb_lt e hc)]; exact h k (by omega) c hc
  · have h3 : m * w ≤ k * w := Nat.mul_le_mul_right w (by omega)
    rw [if_neg e, e2 _ (by omega) (tb_lt hk' hc)]
    have h4 := h (k + 1) (by omega) c hc
    rw [Nat.add_mul, Nat.one_mul] at h4
    rw [← h4]; congr 1; omega
theorem Cel.add {I J : IM} {a w x y z : Nat} {tb : TB} (h : Cel I a w tb) (hw : w ≤ 4) (e1 : ∀ k, k < tb.1 * w → J a k = I a k) (e2 : ∀ c, c < w → J a (tb.1 * w + c) = vsel (nI x) (nI y) (nI z) c) : Cel J a w (addTB tb x y z) := by
  intro k hk c hc
  have hk' : k < tb.1 + 1 := hk
  show _ = nI (if k = tb.1 then _ else tb.2 k c)
  by_cases e : k = tb.1
  · subst e
    rw [if_pos rfl, e2 c hc]
    unfold vsel
    by_cases c0 : c = 0
    · rw [if_pos c0, if_pos c0]
    · rw [if_neg c0, if_neg c0]
      by_cases c1 : c = 1
      · rw [if_pos c1, if_pos c1]
      · rw [if_neg c1, if_neg c1]
        by_cases c2 : c = 2
        · rw [if_pos c2, if_pos c2]
        · rw [if_neg c2, if_neg c2]
  · rw [if_neg e, e1 _ (tb_lt (by omega) hc)]; exact h k (by omega) c hc
theorem CWeek.marks {sg : SG} {I J : IM} {w np : Nat} {W : WV} {tb : TB} (h : CWeek sg I w W np) (h1 : Tab sg J (w + 1) (w + 2) 12 4 tb.1) (h2 : Cel J (w + 2) 4 tb) (e : ∀ q, q ≠ w + 1 → q ≠ w + 2 → J q = I q) : CWeek sg J w (wT W, wK W, tb, wH W) np := by
  obtain ⟨g1, g2, g3, g4, g5, g6⟩ := h
  exact ⟨g1, by rw [e w (by omega) (by omega)]; exact g2, by rw [e w (by omega) (by omega)]; exact g3, ⟨h1, h2⟩, g5.other (e _ (by omega) (by omega)), fun i hi => by rw [e (w + 4) (by omega) (by omega)]; exact g6 i hi⟩
def WeekSh (sg : SG) (I : IM) (w : Nat) : Prop := WeekK sg w ∧ (∃ n, Tab sg I (w + 1) (w + 2) 12 4 n) ∧ (∃ n, Tab sg I (w + 3) (w + 4) 5 1 n)
theorem CWeek.sh {sg : SG} {I : IM} {w np : Nat} {W : WV} (h : CWeek sg I w W np) : WeekSh sg I w := ⟨h.1, ⟨_, h.2.2.2.1.1⟩, ⟨_, h.2.2.2.2.1⟩⟩
theorem WeekSh.other {sg : SG} {I J : IM} {w : Nat} (h : WeekSh sg I w) (e : ∀ q, w ≤ q → q < w + 5 → J q = I q) : WeekSh sg J w := by
  obtain ⟨h1, ⟨n, h2⟩, m, h3⟩ := h
  exact ⟨h1, ⟨n, h2.other (e _ (by omega) (by omega))⟩, ⟨m, h3.other (e _ (by omega) (by omega))⟩⟩
theorem dec_sub (x : Int32) : x + Int32.ofInt (-1) = x - nI 1 := by
  rw [Int32.sub_eq_add_neg]; congr 1
theorem nI_pred1 (m : Nat) : nI (m + 1) - nI 1 = nI m := (nI_subN (Nat.le_add_left 1 m)).trans (congrArg nI (Nat.add_sub_cancel m 1))
def outW (w : Nat) (I J : IM) : Prop := ∀ q, (q < w ∨ w + 5 ≤ q) → J q = I q
/-- a block of eleven and a block of five lie apart -/
def aprt (T w : Nat) : Prop := T + 11 ≤ w ∨ w + 5 ≤ T
section WEEKM
variable {g : GC} {sg : SG} {I : IM} {T w : Nat} {tv : TV} {W : WV}
def rhQ (sg : SG) (I : IM) (w : Nat) (tv : TV) : Option Value → SG → IM → Prop := fun r0 s0 J => r0 = none ∧ s0 = sg ∧ Tab sg J (w + 3) (w + 4) 5 1 (tP tv).1 ∧ (∀ i, i < (tP tv).1 → J (w + 4) (i * 1 + 0) = nI ((tP tv).2 i 0)) ∧ (∀ q, q ≠ w + 3 → q ≠ w + 4 → J q = I q)
theorem C_restoreHours {n0 : Nat} (hT : CTown sg I T tv) (hK : WeekK sg w) (hH : Tab sg I (w + 3) (w + 4) 5 1 n0) (hok : TVok tv) (hd : aprt T w) : Ct m_X4_restoreHours g [rf g w, rf g T] sg I (rhQ sg I w tv) := by
  have hT0 := hT
  obtain ⟨hk, r0, r1⟩ := hK
  obtain ⟨⟨tk, t0, t1, t2, t3, t4⟩, hF, hX, -, ⟨hP, cP⟩, -, -⟩ := hT
  have hkH := hH.1
  have hkP := hP.1
  have hnP := hP.2.2.2.2.2.2.1
  have hne := hH.ne
  unfold aprt at hd
  refine Ct.of rfl (Nat.le_of_ble_eq_true rfl) fun X => ?_
  show V X _ sg I 0 [some (rf g w), some (rf g T), none] []
  have loop : ∀ (d k : Nat) (J : IM), (tP tv).1 - k = d → k ≤ (tP tv).1 → Tab sg J (w + 3) (w + 4) 5 1 k → (∀ i, i < k → J (w + 4) (i * 1 + 0) = nI ((tP tv).2 i 0)) → (∀ q, q ≠ w + 3 → q ≠ w + 4 → J q = I q) →
      V X (ZQ X (rhQ sg I w tv)) sg J 9 [some (rf g w), some (rf g T), some (.int (nI k))] [] := by
    intro d
    induction d with
    | zero =>
      intro k J hd2 hkn hTab hrows hfr
      have e : k = (tP tv).1 := by omega
      subst e
      have hPJ : Tab sg J (T + 3) (T + 4) 5 2 (tP tv).1 := hP.other (hfr _ (by omega) (by omega))
      refine V_iload_n rfl dX4_restoreHours_9 ?_
      refine V_aload_n rfl dX4_restoreHours_10 ?_
      refine gf_X4_46 (by assumption) (by assumption) rfl dX4_restoreHours_11 ?_
      refine cf_X4_49 (C_size hPJ) (by assumption) rfl rfl ft0 (Nat.le_of_ble_eq_true rfl) dX4_restoreHours_14 ?_
      refine V_icmp_geN 45 dX4_restoreHours_17 (by decide) (by omega) (by omega) (fun h17 => ?_) (fun h17 => absurd h17 (by omega))
      refine V_vret rfl rfl rfl ?_ dX4_restoreHours_45
      exact ⟨rfl, rfl, hTab, hrows, hfr⟩
    | succ d ih =>
      intro k J hd2 hkn hTab hrows hfr
      have hkl : k < (tP tv).1 := by omega
      have hPJ : Tab sg J (T + 3) (T + 4) 5 2 (tP tv).1 := hP.other (hfr _ (by omega) (by omega))
      have ep : J (T + 4) (k * 2 + 0) = nI ((tP tv).2 k 0) := by rw [hfr _ (by omega) (by omega)]; exact cP k hkl 0 (by decide)
      refine V_iload_n rfl dX4_restoreHours_9 ?_
      refine V_aload_n rfl dX4_restoreHours_10 ?_
      refine gf_X4_46 (by assumption) (by assumption) rfl dX4_restoreHours_11 ?_
      refine cf_X4_49 (C_size hPJ) (by assumption) rfl rfl ft0 (Nat.le_of_ble_eq_true rfl) dX4_restoreHours_14 ?_
      refine V_icmp_geN 45 dX4_restoreHours_17 (by decide) (by omega) (by omega) (fun h17 => absurd h17 (by omega)) (fun h17 => ?_)
      refine V_aload_n rfl dX4_restoreHours_20 ?_
      refine gf_X4_20 (by assumption) (by assumption) rfl dX4_restoreHours_21 ?_
      refine V_aload_n rfl dX4_restoreHours_24 ?_
      refine gf_X4_46 (by assumption) (by assumption) rfl dX4_restoreHours_25 ?_
      refine V_iload_n rfl dX4_restoreHours_28 ?_
      refine V_iconst (nI 0) (by decide) dX4_restoreHours_29 ?_
      refine cf_X4_53 (C_get (c := 0) hPJ (by omega) (by decide)) (by assumption) rfl rfl ft0 (Nat.le_of_ble_eq_true rfl) dX4_restoreHours_30 ?_
      rw [if_pos hkl, ep]
      refine V_iconst (nI 0) (by decide) dX4_restoreHours_33 ?_
      refine V_iconst (nI 0) (by decide) dX4_restoreHours_34 ?_
      refine cl_X4_57 (C_add hTab) (by assumption) rfl rfl ft0 (Nat.le_of_ble_eq_true rfl) dX4_restoreHours_35 (fun r1 s1 J1 hq => ?_)
      obtain ⟨rfl, hq⟩ := hq
      obtain ⟨q0, rfl, q2, q3, q4, q5⟩ := hq.resolve_right (fun z => by have h9 := z.1; omega)
      show V X _ s1 J1 38 _ [.int (nI 1)]
      refine V_pop rfl dX4_restoreHours_38 ?_
      refine V_iinc2_ _ (nI_inc _) rfl rfl dX4_restoreHours_39 ?_
      refine V_goto 9 dX4_restoreHours_42 (by decide) ?_
      refine ih (k + 1) J1 (by omega) (by omega) q2 (fun i hi => ?_) (fun q c1 c2 => by rw [q5 q c1 c2]; exact hfr q c1 c2)
      by_cases e : i = k
      · subst e; rw [q4 0 (by decide)]; rfl
      · rw [q3 _ (by omega)]; exact hrows i (by omega)
  refine V_aload_n rfl dX4_restoreHours_0 ?_
  refine gf_X4_20 (by assumption) (by assumption) rfl dX4_restoreHours_1 ?_
  refine cf_X4_35 (C_clear hH) (by assumption) rfl rfl ft0 (Nat.le_of_ble_eq_true rfl) dX4_restoreHours_4 ?_
  refine V_iconst (nI 0) (by decide) dX4_restoreHours_7 ?_
  refine V_ist2 rfl rfl dX4_restoreHours_8 ?_
  exact loop (tP tv).1 0 _ (by omega) (by omega) (hH.resize (fun k hk => upI_ne (Or.inr hk)) upI_eq (by omega)) (fun i hi => absurd hi (Nat.not_lt_zero i)) (fun q c1 c2 => funext fun b => upI_ne (Or.inl c1))
def wkQ (sg : SG) (I : IM) (w : Nat) (W : WV) (np : Nat) : Option Value → SG → IM → Prop := fun r0 s0 J => r0 = none ∧ s0 = sg ∧ CWeek sg J w W np ∧ outW w I J
/-- a new week's value: as told -/
def begV (tv : TV) : WV := (tX tv, 0, (0, fun _ _ => 0), fun i => (tP tv).2 i 0)
theorem C_begin (hT : CTown sg I T tv) (hS : WeekSh sg I w) (hok : TVok tv) (hd : aprt T w) : Ct m_X4_begin g [rf g w, rf g T] sg I (wkQ sg I w (begV tv) (tP tv).1) := by
  have hT0 := hT
  obtain ⟨hK, ⟨n1, hM⟩, n2, hH⟩ := hS
  obtain ⟨hk, r0, r1⟩ := id hK
  obtain ⟨⟨tk, t0, t1, t2, t3, t4⟩, hF, hX, -⟩ := hT
  have hkM := hM.1
  have hd0 := hd
  unfold aprt at hd
  refine Ct.of rfl (Nat.le_of_ble_eq_true rfl) fun X => ?_
  show V X _ sg I 0 [some (rf g w), some (rf g T)] []
  have hM2 : Tab sg (upI (upI I w 2 (nI (tX tv))) w 3 (nI 0)) (w + 1) (w + 2) 12 4 n1 := (hM.upI (by omega)).upI (by omega)
  obtain ⟨J, hJ⟩ : ∃ J, J = upI (upI (upI I w 2 (nI (tX tv))) w 3 (nI 0)) (w + 1) 3 (nI 0) := ⟨_, rfl⟩
  have hfr : ∀ q, q ≠ w → q ≠ w + 1 → J q = I q := fun q c1 c2 => by rw [hJ]; exact funext fun b => by rw [upI_ne (Or.inl c2), upI_ne (Or.inl c1), upI_ne (Or.inl c1)]
  have hTJ : CTown sg J T tv := hT0.other (fun q q1 q2 => hfr q (by omega) (by omega))
  have hHJ : Tab sg J (w + 3) (w + 4) 5 1 n2 := hH.other (hfr _ (by omega) (by omega))
  have hMJ : Tab sg J (w + 1) (w + 2) 12 4 0 := by rw [hJ]; exact hM2.resize (fun k hk => upI_ne (Or.inr hk)) upI_eq (by omega)
  have j2 : J w 2 = nI (tX tv) := by rw [hJ, upI_ne (Or.inl (by omega)), upI_ne (Or.inr (by decide))]; exact upI_eq
  have j3 : J w 3 = nI 0 := by rw [hJ, upI_ne (Or.inl (by omega))]; exact upI_eq
  refine V_aload_n rfl dX4_begin_0 ?_
  refine V_aload_n rfl dX4_begin_1 ?_
  refine gfe_X4_23 (by assumption) (by assumption) rfl dX4_begin_2 ?_
  refine pf_X4_29 (by assumption) rfl dX4_begin_5 ?_
  refine V_aload_n rfl dX4_begin_8 ?_
  refine V_iconst (nI 0) (by decide) dX4_begin_9 ?_
  refine pf_X4_32 (by assumption) rfl dX4_begin_10 ?_
  refine V_aload_n rfl dX4_begin_13 ?_
  refine gf_X4_14 (by assumption) (by assumption) rfl dX4_begin_14 ?_
  refine cf_X4_35 (C_clear hM2) (by assumption) rfl rfl ft0 (Nat.le_of_ble_eq_true rfl) dX4_begin_17 ?_
  rw [← hJ]
  refine V_aload_n rfl dX4_begin_20 ?_
  refine V_aload_n rfl dX4_begin_21 ?_
  refine cl_X4_38 (C_restoreHours hTJ hK hHJ hok hd0) (by assumption) rfl rfl ft0 (Nat.le_of_ble_eq_true rfl) dX4_begin_22 (fun r1 s1 J1 hq => ?_)
  obtain ⟨rfl, rfl, q1, q2, q3⟩ := hq
  show V X _ s1 J1 25 _ []
  refine V_vret rfl rfl rfl ?_ dX4_begin_25
  refine ⟨rfl, rfl, ⟨hK, by rw [q3 w (by omega) (by omega)]; exact j2, by rw [q3 w (by omega) (by omega)]; exact j3, ⟨hMJ.other (q3 _ (by omega) (by omega)), fun k hk => absurd hk (Nat.not_lt_zero k)⟩, q1, q2⟩, fun q hq => ?_⟩
  rw [q3 q (by omega) (by omega)]; exact hfr q (by omega) (by omega)
theorem C_copyWeek {u np : Nat} (hS : WeekSh sg I w) (hU : CWeek sg I u W np) (hd : w + 5 ≤ u ∨ u + 5 ≤ w) (hn : (wM W).1 ≤ 12) (hp : np ≤ 5) : Ct m_X4_copyFrom g [rf g w, rf g u] sg I (wkQ sg I w W np) := by
  obtain ⟨hK, ⟨n1, hM⟩, n2, hH⟩ := hS
  obtain ⟨hk, r0, r1⟩ := id hK
  obtain ⟨⟨uk, u0, u1⟩, ue2, ue3, ⟨uM, uc⟩, uH, uch⟩ := hU
  have hkM := hM.1
  have hkH := hH.1
  refine Ct.of rfl (Nat.le_of_ble_eq_true rfl) fun X => ?_
  show V X _ sg I 0 [some (rf g w), some (rf g u)] []
  refine V_aload_n rfl dX4_copyFrom_0 ?_
  refine gf_X4_14 (by assumption) (by assumption) rfl dX4_copyFrom_1 ?_
  refine V_aload_n rfl dX4_copyFrom_4 ?_
  refine gf_X4_14 (by assumption) (by assumption) rfl dX4_copyFrom_5 ?_
  refine cl_X4_42 (C_copyFrom hM uM (by omega) (by omega) hn) (by assumption) rfl rfl ft0 (Nat.le_of_ble_eq_true rfl) dX4_copyFrom_8 (fun r1 s1 J1 hq => ?_)
  obtain ⟨rfl, rfl, q1, q2, q3⟩ := hq
  show V X _ s1 J1 11 _ []
  have hH1 : Tab s1 J1 (w + 3) (w + 4) 5 1 n2 := hH.other (q3 _ (by omega) (by omega))
  have uH1 : Tab s1 J1 (u + 3) (u + 4) 5 1 np := uH.other (q3 _ (by omega) (by omega))
  refine V_aload_n rfl dX4_copyFrom_11 ?_
  refine gf_X4_20 (by assumption) (by assumption) rfl dX4_copyFrom_12 ?_
  refine V_aload_n rfl dX4_copyFrom_15 ?_
  refine gf_X4_20 (by assumption) (by assumption) rfl dX4_copyFrom_16 ?_
  refine cl_X4_42 (C_copyFrom hH1 uH1 (by omega) (by omega) hp) (by assumption) rfl rfl ft0 (Nat.le_of_ble_eq_true rfl) dX4_copyFrom_19 (fun r2 s2 J2 hq2 => ?_)
  obtain ⟨rfl, rfl, p1, p2, p3⟩ := hq2
  show V X _ s2 J2 22 _ []
  have v2 : J2 u 2 = nI (wT W) := by rw [p3 u (by omega) (by omega), q3 u (by omega) (by omega)]; exact ue2
  have v3 : (upI J2 w 2 (nI (wT W))) u 3 = nI (wK W) := by rw [upI_ne (Or.inl (by omega)), p3 u (by omega) (by omega), q3 u (by omega) (by omega)]; exact ue3
  refine V_aload_n rfl dX4_copyFrom_22 ?_
  refine V_aload_n rfl dX4_copyFrom_23 ?_
  refine gfe_X4_29 (by assumption) (by assumption) rfl dX4_copyFrom_24 ?_
  refine pf_X4_29 (by assumption) rfl dX4_copyFrom_27 ?_
  refine V_aload_n rfl dX4_copyFrom_30 ?_
  refine V_aload_n rfl dX4_copyFrom_31 ?_
  refine gfe_X4_32 (by assumption) (by assumption) rfl dX4_copyFrom_32 ?_
  refine pf_X4_32 (by assumption) rfl dX4_copyFrom_35 ?_
  refine V_vret rfl rfl rfl ?_ dX4_copyFrom_38
  have hfr : ∀ q, q ≠ w → q ≠ w + 1 → q ≠ w + 2 → q ≠ w + 3 → q ≠ w + 4 → (upI (upI J2 w 2 (nI (wT W))) w 3 (nI (wK W))) q = I q := fun q c0 c1 c2 c3 c4 => by rw [show upI (upI J2 w 2 (nI (wT W))) w 3 (nI (wK W)) q = J2 q from funext fun b => by rw [upI_ne (Or.inl c0), upI_ne (Or.inl c0)], p3 q c3 c4, q3 q c1 c2]
  have hw : ∀ q, q ≠ w → (upI (upI J2 w 2 (nI (wT W))) w 3 (nI (wK W))) q = J2 q := fun q c0 => funext fun b => by rw [upI_ne (Or.inl c0), upI_ne (Or.inl c0)]
  refine ⟨rfl, rfl, ⟨hK, by rw [upI_ne (Or.inr (by decide))]; exact upI_eq, upI_eq, ⟨(q1.other (p3 _ (by omega) (by omega))).other (hw _ (by omega)), ?_⟩, p1.other (hw _ (by omega)), ?_⟩, fun q hq => hfr q (by omega) (by omega) (by omega) (by omega) (by omega)⟩
  · intro k hk c hc
    rw [hw _ (by omega), p3 _ (by omega) (by omega), q2 _ (tb_lt hk hc)]; exact uc k hk c hc
  · intro i hi
    rw [hw _ (by omega), p2 _ (tb_lt hi (by decide)), q3 _ (by omega) (by omega)]; exact uch i hi
theorem C_ring (hT : CTown sg I T tv) (hW : CWeek sg I w W (tP tv).1) (hok : TVok tv) (hm : MKok tv (wM W) (wK W)) (hk5 : wK W + 1 < 100000) (hd : aprt T w) : Ct m_X4_ring g [rf g w, rf g T] sg I (wkQ sg I w (ringV tv W) (tP tv).1) := by
  have hT0 := hT
  have hK := hW.1
  obtain ⟨⟨hk, r0, r1⟩, e2, e3, ⟨hM, cM⟩, hH, cH⟩ := hW
  obtain ⟨⟨tk, t0, t1, t2, t3, t4⟩, hF, hX, -⟩ := hT
  have hkM := hM.1
  have hd0 := hd
  unfold aprt at hd
  have hn := hm.1
  refine Ct.of rfl (Nat.le_of_ble_eq_true rfl) fun X => ?_
  show V X _ sg I 0 [some (rf g w), some (rf g T), none, none] []
  have loop : ∀ (k : Nat) (J : IM) (tb : TB) (x : Option Value), okp x = true → CWeek sg J w (wT W, wK W + 1, tb, fun i => (tP tv).2 i 0) (tP tv).1 → outW w I J → rgN tv k tb = rgN tv (wM W).1 (wM W) → k ≤ tb.1 → MKok tv tb (wK W + 1) → (∀ j, j < k → tb.2 j 3 + 1 ≤ wK W + 1) →
      V X (ZQ X (wkQ sg I w (ringV tv W) (tP tv).1)) sg J 25 [some (rf g w), some (rf g T), some (.int (nI k - nI 1)), x] [] := by
    intro k
    induction k with
    | zero =>
      intro J tb x hx hJ hout hrg hkn hmk hh
      refine V_iload_n rfl dX4_ring_25 ?_
      refine V_if_lt 82 dX4_ring_26 (by decide) (fun h26 => ?_) (fun h26 => absurd h26 (by decide))
      refine V_vret rfl rfl rfl ?_ dX4_ring_82
      have e : ringV tv W = (wT W, wK W + 1, tb, fun i => (tP tv).2 i 0) := by unfold ringV; rw [← hrg]; rfl
      rw [e]
      exact ⟨rfl, rfl, hJ, hout⟩
    | succ m ih =>
      intro J tb x hx hJ hout hrg hkn hmk hh
      have hml : m < tb.1 := by omega
      have hTJ : CTown sg J T tv := hT0.other (fun q q1 q2 => hout q (by omega))
      obtain ⟨-, f2, f3, ⟨jM, jc⟩, jH, jh⟩ := id hJ
      have em : J (w + 2) (m * 4 + 3) = nI (tb.2 m 3) := jc m hml 3 (by decide)
      have hst := (hmk.2.1 m hml).2.1
      have h3 := (hmk.2.1 m hml).2.2.2
      have n12 := hmk.1
      have es : upI J (w + 2) (m * 4 + 3) (nI (tb.2 m 3 + 1)) (w + 2) (m * 4 + 1) = nI (tb.2 m 1) := by rw [upI_ne (Or.inr (by omega))]; exact jc m hml 1 (by decide)
      obtain ⟨J1, hJ1⟩ : ∃ J1, J1 = upI J (w + 2) (m * 4 + 3) (nI (tb.2 m 3 + 1)) := ⟨_, rfl⟩
      have jM1 : Tab sg J1 (w + 1) (w + 2) 12 4 tb.1 := by rw [hJ1]; exact jM.upI (by omega)
      have hf1 : ∀ q, q ≠ w + 2 → J1 q = J q := fun q c => by rw [hJ1]; exact funext fun b => upI_ne (Or.inl c)
      have hTJ1 : CTown sg J1 T tv := hTJ.other (fun q q1 q2 => hf1 q (by omega))
      have jc1 : Cel J1 (w + 2) 4 (setTB tb m 3 (tb.2 m 3 + 1)) := by rw [hJ1]; exact Cel.set jc (by decide)
      have hJw1 : CWeek sg J1 w (wT W, wK W + 1, setTB tb m 3 (tb.2 m 3 + 1), fun i => (tP tv).2 i 0) (tP tv).1 := hJ.marks jM1 jc1 (fun q c1 c2 => hf1 q c2)
      have hout1 : outW w I J1 := fun q hq => by rw [hf1 q (by omega)]; exact hout q hq
      obtain ⟨s1', s2', s3', s4'⟩ := hmk.step (m := m) hml (hh m (by omega))
      rw [← hJ1] at es
      refine V_iload_n rfl dX4_ring_25 ?_
      rw [nI_pred1 m]
      refine V_if_ltN 82 dX4_ring_26 (by decide) (by omega) ?_
      refine V_aload_n rfl dX4_ring_29 ?_
      refine gf_X4_14 (by assumption) (by assumption) rfl dX4_ring_30 ?_
      refine V_iload_n rfl dX4_ring_33 ?_
      refine V_iconst (nI 3) (by decide) dX4_ring_34 ?_
      refine cf_X4_53 (C_get (c := 3) jM (by omega) (by decide)) (by assumption) rfl rfl ft0 (Nat.le_of_ble_eq_true rfl) dX4_ring_35 ?_
      rw [if_pos hml, em]
      refine V_iconst (nI 1) (by decide) dX4_ring_38 ?_
      refine V_iaddN dX4_ring_39 ?_
      refine V_ist3 rfl rfl dX4_ring_40 ?_
      refine V_aload_n rfl dX4_ring_41 ?_
      refine gf_X4_14 (by assumption) (by assumption) rfl dX4_ring_42 ?_
      refine V_iload_n rfl dX4_ring_45 ?_
      refine V_iconst (nI 3) (by decide) dX4_ring_46 ?_
      refine V_iload_n rfl dX4_ring_47 ?_
      refine cf_X4_61 (C_set (c := 3) jM hml (by decide)) (by assumption) rfl rfl ft0 (Nat.le_of_ble_eq_true rfl) dX4_ring_48 ?_
      rw [← hJ1]
      refine V_aload_n rfl dX4_ring_51 ?_
      refine V_aload_n rfl dX4_ring_52 ?_
      refine gf_X4_14 (by assumption) (by assumption) rfl dX4_ring_53 ?_
      refine V_iload_n rfl dX4_ring_56 ?_
      refine V_iconst (nI 1) (by decide) dX4_ring_57 ?_
      refine cf_X4_53 (C_get (c := 1) jM1 (by omega) (by decide)) (by assumption) rfl rfl ft0 (Nat.le_of_ble_eq_true rfl) dX4_ring_58 ?_
      rw [if_pos hml, es]
      refine V_iload_n rfl dX4_ring_61 ?_
      refine cf_X4_68 (C_wearsOff hTJ1 hok hst (by omega)) (by assumption) rfl rfl ft0 (Nat.le_of_ble_eq_true rfl) dX4_ring_62 ?_
      refine V_if_eqB 76 dX4_ring_65 (by decide) (fun h65 => ?_) (fun h65 => ?_)
      · skip
        first
        | (obtain ⟨rfl, rfl, p1, p2, p3, p4⟩ := hq
           show V X _ sx J2 76 _ [])
        | skip
        refine V_iinc2_ _ (dec_sub _) rfl rfl dX4_ring_76 ?_
        refine V_goto 25 dX4_ring_79 (by decide) ?_
        have hrg2 : rgN tv m (rgS tv tb m) = rgN tv (wM W).1 (wM W) := hrg
        first
        | (have e9 : rgS tv tb m = setTB tb m 3 (tb.2 m 3 + 1) := if_neg h65
           rw [e9] at s1' s2' s3' s4' hrg2
           exact ih J1 _ _ rfl hJw1 hout1 hrg2 s3' s1' (fun j hj => by rw [s4' j hj]; exact hh j (by omega)))
        | (have e9 : rgS tv tb m = rmTB (setTB tb m 3 (tb.2 m 3 + 1)) m := if_pos h65
           rw [e9] at s1' s2' s3' s4' hrg2
           refine ih J2 _ _ rfl (hJw1.marks p1 (Cel.rm (sg := sx) (t := w + 1) (mx := 12) jc1 hml p2 p3) p4) (fun q hq => by rw [p4 q (by omega) (by omega)]; exact hout1 q hq) hrg2 s3' s1' (fun j hj => by rw [s4' j hj]; exact hh j (by omega)))
      · skip
        refine V_aload_n rfl dX4_ring_68 ?_
        refine gf_X4_14 (by assumption) (by assumption) rfl dX4_ring_69 ?_
        refine V_iload_n rfl dX4_ring_72 ?_
        refine cl_X4_72 (C_remove jM1 hml) (by assumption) rfl rfl ft0 (Nat.le_of_ble_eq_true rfl) dX4_ring_73 (fun r1 sx J2 hq => ?_)
        first
        | (obtain ⟨rfl, rfl, p1, p2, p3, p4⟩ := hq
           show V X _ sx J2 76 _ [])
        | skip
        refine V_iinc2_ _ (dec_sub _) rfl rfl dX4_ring_76 ?_
        refine V_goto 25 dX4_ring_79 (by decide) ?_
        have hrg2 : rgN tv m (rgS tv tb m) = rgN tv (wM W).1 (wM W) := hrg
        first
        | (have e9 : rgS tv tb m = setTB tb m 3 (tb.2 m 3 + 1) := if_neg h65
           rw [e9] at s1' s2' s3' s4' hrg2
           exact ih J1 _ _ rfl hJw1 hout1 hrg2 s3' s1' (fun j hj => by rw [s4' j hj]; exact hh j (by omega)))
        | (have e9 : rgS tv tb m = rmTB (setTB tb m 3 (tb.2 m 3 + 1)) m := if_pos h65
           rw [e9] at s1' s2' s3' s4' hrg2
           refine ih J2 _ _ rfl (hJw1.marks p1 (Cel.rm (sg := sx) (t := w + 1) (mx := 12) jc1 hml p2 p3) p4) (fun q hq => by rw [p4 q (by omega) (by omega)]; exact hout1 q hq) hrg2 s3' s1' (fun j hj => by rw [s4' j hj]; exact hh j (by omega)))
  refine V_aload_n rfl dX4_ring_0 ?_
  refine V_aload_n rfl dX4_ring_1 ?_
  refine cl_X4_38 (C_restoreHours hT0 hK hH hok hd0) (by assumption) rfl rfl ft0 (Nat.le_of_ble_eq_true rfl) dX4_ring_2 (fun r1 s1 J1 hq => ?_)
  obtain ⟨rfl, rfl, q1, q2, q3⟩ := hq
  show V X _ s1 J1 5 _ []
  have v3 : J1 w 3 = nI (wK W) := by rw [q3 w (by omega) (by omega)]; exact e3
  refine V_aload_n rfl dX4_ring_5 ?_
  refine V_dup rfl dX4_ring_6 ?_
  refine gfe_X4_32 (by assumption) (by assumption) rfl dX4_ring_7 ?_
  refine V_iconst (nI 1) (by decide) dX4_ring_10 ?_
  refine V_iaddN dX4_ring_11 ?_
  refine pf_X4_32 (by assumption) rfl dX4_ring_12 ?_
  have hJw : CWeek s1 (upI J1 w 3 (nI (wK W + 1))) w (wT W, wK W + 1, wM W, fun i => (tP tv).2 i 0) (tP tv).1 := by
    have hw : ∀ q, q ≠ w → (upI J1 w 3 (nI (wK W + 1))) q = J1 q := fun q c0 => funext fun b => upI_ne (Or.inl c0)
    refine ⟨hK, by rw [upI_ne (Or.inr (by decide)), q3 w (by omega) (by omega)]; exact e2, upI_eq, ⟨(hM.other (q3 _ (by omega) (by omega))).other (hw _ (by omega)), ?_⟩, q1.other (hw _ (by omega)), ?_⟩
    · intro k hk c hc; rw [hw _ (by omega), q3 _ (by omega) (by omega)]; exact cM k hk c hc
    · intro i hi; rw [hw _ (by omega)]; exact q2 i hi
  have hM2 := hJw.2.2.2.1.1
  refine V_aload_n rfl dX4_ring_15 ?_
  refine gf_X4_14 (by assumption) (by assumption) rfl dX4_ring_16 ?_
  refine cf_X4_49 (C_size hM2) (by assumption) rfl rfl ft0 (Nat.le_of_ble_eq_true rfl) dX4_ring_19 ?_
  refine V_iconst (nI 1) (by decide) dX4_ring_22 ?_
  refine V_isub dX4_ring_23 ?_
  refine V_ist2 rfl rfl dX4_ring_24 ?_
  refine loop (wM W).1 _ (wM W) _ rfl hJw (fun q hq => ?_) rfl (Nat.le_refl _) (hm.mono (Nat.le_succ _)) (fun j hj => by have := (hm.2.1 j hj).2.2.2; omega)
  rw [show upI J1 w 3 (nI (wK W + 1)) q = J1 q from funext fun b => upI_ne (Or.inl (by omega)), q3 q (by omega) (by omega)]
/-- a week of a year -/
def preV (T : TV) (W : WV) (d : Nat) : WV := (wl T (d % nw' T), wK W, (if d / 8 % 2 = 0 ∧ (wM W).1 < 12 then (match lowF T W with | some s => addTB (wM W) (tsy (d / 128 % tF T) (wl T (d % nw' T))) s (d / 16 % (tP T).1) | none => wM W) else wM W), wH W)
def liveV (T : TV) (W : WV) (d : Nat) : WV := ringV T (preV T W d)
theorem lowF_lt {s : Nat} (h : lowF tv W = some s) : s < (tS tv).1 ∧ 0 < freeN tv W s := by
  obtain ⟨a, b, -⟩ := fstB_some h
  exact ⟨a, of_decide_eq_true b⟩
theorem preV_ok {d : Nat} (hok : TVok tv) (hw0 : 0 < nw' tv) (hp0 : 0 < (tP tv).1) (hW : WVok tv W) : WVok tv (preV tv W d) := by
  obtain ⟨h1, h2, h3, h4, h5⟩ := hW
  obtain ⟨a, b⟩ := wl_mem (T := tv) (Nat.mod_lt d hw0)
  refine ⟨a, b, h3, ?_, h5⟩
  show MKok tv (if _ then _ else _) _
  split
  · rename_i hc
    cases hl : lowF tv W with
    | none => exact h4
    | some s =>
      obtain ⟨c, e⟩ := lowF_lt hl
      refine h4.add hc.2 (tsy_lt (Nat.mod_lt _ hok.1)) c (Nat.mod_lt _ hp0) ?_
      unfold freeN at e
      have : cnt (wM W).1 (stB W s) = cnt (wM W).1 (fun m => decide ((wM W).2 m 1 = s)) := rfl
      omega
  · exact h4
theorem nI_rem {a b : Nat} (ha : a < 2147483648) (h0 : 0 < b) (hb : b < 2147483648) : nI a - nI a / nI b * nI b = nI (a % b) := pk_rem ha h0 hb
theorem nI_div {a b : Nat} (ha : a < 2147483648) (h0 : 0 < b) (hb : b < 2147483648) : nI a / nI b = nI (a / b) := pk_div ha h0 hb
theorem nI_nz {b : Nat} (h0 : 0 < b) (hb : b < 2147483648) : ¬ nI b = 0 := fun e => by have := (nI_eq0 hb).mp e; omega
theorem C_live {d : Nat} (hT : CTown sg I T tv) (hWl : CWlds sg I T tv) (hW : CWeek sg I w W (tP tv).1) (hok : TVok tv) (hw0 : 0 < nw' tv) (hp0 : 0 < (tP tv).1) (hWok : WVok tv W) (hk5 : wK W + 1 < 100000) (hd : aprt T w) (hdd : d < 65536) : Ct m_X4_live g [rf g w, rf g T, .int (nI d)] sg I (wkQ sg I w (liveV tv W d) (tP tv).1) := by
  have hT0 := hT
  have hW0 := hW
  have hK := hW.1
  obtain ⟨⟨hk, r0, r1⟩, e2, e3, ⟨hM, cM⟩, hH, cH⟩ := hW
  obtain ⟨⟨tk, t0, t1, t2, t3, t4⟩, hF, hX, -, ⟨hP, cP⟩, -⟩ := hT
  obtain ⟨hWt, cW⟩ := hWl
  have hkM := hM.1
  have hkW := hWt.1
  have hkP := hP.1
  have hn5 := hP.2.2.2.2.2.2.1
  have hnw := nw_le hok.2.1
  have hF1 := hok.1
  have hF8 := hok.2.1
  have hd0 := hd
  unfold aprt at hd
  have hmod : d % nw' tv < nw' tv := Nat.mod_lt d hw0
  obtain ⟨c0, -⟩ := cW _ hmod
  have hwl := (wl_mem hmod).1
  have h256 := p2_le8 hF8
  have hpok := preV_ok (d := d) hok hw0 hp0 hWok
  obtain ⟨J, hJ⟩ : ∃ J, J = upI I w 2 (nI (wl tv (d % nw' tv))) := ⟨_, rfl⟩
  have hfw : ∀ q, q ≠ w → J q = I q := fun q c => by rw [hJ]; exact funext fun b => upI_ne (Or.inl c)
  have hTJ : CTown sg J T tv := hT0.other (fun q q1 q2 => hfw q (by omega))
  have hJW : CWeek sg J w (wl tv (d % nw' tv), wK W, wM W, wH W) (tP tv).1 := ⟨hK, by rw [hJ]; exact upI_eq, by rw [hJ, upI_ne (Or.inr (by decide))]; exact e3, ⟨hM.other (hfw _ (by omega)), fun k hk c hc => by rw [hfw _ (by omega)]; exact cM k hk c hc⟩, hH.other (hfw _ (by omega)), fun i hi => by rw [hfw _ (by omega)]; exact cH i hi⟩
  have hlow : lowF tv (wl tv (d % nw' tv), wK W, wM W, wH W) = lowF tv W := rfl
  have hMJ := hJW.2.2.2.1.1
  have cMJ := hJW.2.2.2.1.2
  have v2 : J w 2 = nI (wl tv (d % nw' tv)) := hJW.2.1
  have hn12 := hWok.2.2.2.1.1
  have fin : ∀ (J2 : IM) (tb : TB), (preV tv W d).2.2.1 = tb → CWeek sg J2 w (wl tv (d % nw' tv), wK W, tb, wH W) (tP tv).1 → outW w I J2 → ∀ X : Cx m_X4_live g sg, ∀ L' st', L' = some (rf g w) :: some (rf g T) :: st' → V X (ZQ X (wkQ sg I w (liveV tv W d) (tP tv).1)) sg J2 109 L' [] := by
    intro J2 tb e9 hJ2 hout X L' st' hL'
    subst hL'
    have hTJ2 : CTown sg J2 T tv := hT0.other (fun q q1 q2 => hout q (by omega))
    have e8 : preV tv W d = (wl tv (d % nw' tv), wK W, tb, wH W) := by rw [← e9]; rfl
    rw [e8] at hpok
    have hC := C_ring (g := g) hTJ2 hJ2 hok hpok.2.2.2.1 hk5 hd0
    refine V_aload_n rfl dX4_live_109 ?_
    refine V_aload_n rfl dX4_live_110 ?_
    refine cl_X4_89 (hC) (by assumption) rfl rfl ft0 (Nat.le_of_ble_eq_true rfl) dX4_live_111 (fun r1 s1 J3 hq => ?_)
    obtain ⟨rfl, rfl, q1, q2⟩ := hq
    show V X _ s1 J3 114 _ []
    refine V_vret rfl rfl rfl ?_ dX4_live_114
    refine ⟨rfl, rfl, ?_, fun q hq => by rw [q2 q hq]; exact hout q hq⟩
    unfold liveV; rw [e8]; exact q1
  refine Ct.of rfl (Nat.le_of_ble_eq_true rfl) fun X => ?_
  show V X _ sg I 0 [some (rf g w), some (rf g T), some (.int (nI d)), none, none, none, none] []
  cases hl : lowF tv W with
  | none =>
    have e9 : (preV tv W d).2.2.1 = wM W := by
      show (if _ then _ else _) = _
      rw [hl]; split <;> rfl
    refine V_aload_n rfl dX4_live_0 ?_
    refine gf_X4_76 (by assumption) (by assumption) rfl dX4_live_1 ?_
    refine cf_X4_49 (C_size hWt) (by assumption) rfl rfl ft0 (Nat.le_of_ble_eq_true rfl) dX4_live_4 ?_
    refine V_ist3 rfl rfl dX4_live_7 ?_
    refine V_aload_n rfl dX4_live_8 ?_
    refine gf_X4_46 (by assumption) (by assumption) rfl dX4_live_9 ?_
    refine cf_X4_49 (C_size hP) (by assumption) rfl rfl ft0 (Nat.le_of_ble_eq_true rfl) dX4_live_12 ?_
    refine V_ist4 rfl rfl dX4_live_15 ?_
    refine V_aload_n rfl dX4_live_17 ?_
    refine gfe_X4_79 (by assumption) (by assumption) rfl dX4_live_18 ?_
    refine V_ist5 rfl rfl dX4_live_21 ?_
    refine V_iload_n rfl dX4_live_23 ?_
    refine V_iconst (nI 1) (by decide) dX4_live_24 ?_
    refine V_icmp_ltN 40 dX4_live_25 (by decide) (by omega) (by omega) (fun h25 => absurd h25 (by omega)) (fun h25 => ?_)
    refine V_iload rfl dX4_live_28 ?_
    refine V_iconst (nI 1) (by decide) dX4_live_30 ?_
    refine V_icmp_ltN 40 dX4_live_31 (by decide) (by omega) (by omega) (fun h31 => absurd h31 (by omega)) (fun h31 => ?_)
    refine V_iload rfl dX4_live_34 ?_
    refine V_iconst (nI 1) (by decide) dX4_live_36 ?_
    refine V_icmp_geN 41 dX4_live_37 (by decide) (by omega) (by omega) (fun h37 => ?_) (fun h37 => absurd h37 (by omega))
    refine V_aload_n rfl dX4_live_41 ?_
    refine V_aload_n rfl dX4_live_42 ?_
    refine gf_X4_76 (by assumption) (by assumption) rfl dX4_live_43 ?_
    refine V_iload_n rfl dX4_live_46 ?_
    refine V_iload_n rfl dX4_live_47 ?_
    refine V_irem (nI_nz hw0 (by omega)) dX4_live_48 ?_
    rw [nI_rem (by omega) hw0 (by omega)]
    refine V_iconst (nI 0) (by decide) dX4_live_49 ?_
    refine cf_X4_53 (C_get (c := 0) hWt (by omega) (by decide)) (by assumption) rfl rfl ft0 (Nat.le_of_ble_eq_true rfl) dX4_live_50 ?_
    rw [if_pos hmod, c0]
    refine pf_X4_29 (by assumption) rfl dX4_live_53 ?_
    rw [← hJ]
    refine V_aload_n rfl dX4_live_56 ?_
    refine V_aload_n rfl dX4_live_57 ?_
    refine cf_X4_82 (C_lowest hTJ hJW hok hWok.2.2.2.1) (by assumption) rfl rfl ft0 (Nat.le_of_ble_eq_true rfl) dX4_live_58 ?_
    rw [hlow, hl]
    refine V_ist6 rfl rfl dX4_live_61 ?_
    refine V_iload_n rfl dX4_live_63 ?_
    refine V_bipush (nI 8) (by decide) dX4_live_64 ?_
    refine V_idiv (nI_nz (by decide) (by decide)) dX4_live_66 ?_
    rw [nI_div (by omega) (by decide) (by decide)]
    refine V_iconst (nI 2) (by decide) dX4_live_67 ?_
    refine V_irem (nI_nz (by decide) (by decide)) dX4_live_68 ?_
    rw [nI_rem (by omega) (by decide) (by decide)]
    refine V_if_neN 109 dX4_live_69 (by decide) (by omega) (fun h69 => ?_) (fun h69 => ?_)
    · skip
      exact fin J (wM W) e9 hJW (fun q hq => hfw q (by omega)) X _ _ rfl
    · skip
      refine V_iload rfl dX4_live_72 ?_
      refine V_if_lt 109 dX4_live_74 (by decide) (fun h74 => ?_) (fun h74 => absurd h74 (by decide))
      exact fin J (wM W) e9 hJW (fun q hq => hfw q (by omega)) X _ _ rfl
  | some s =>
    obtain ⟨hs, hfr⟩ := lowF_lt hl
    have hs5 := hok.2.2.2.2.2.2.2.2.2.1
    have hf := Nat.mod_lt (d / 128) hF1
    have hpm := Nat.mod_lt (d / 16) hp0
    have hts := tsy_lt (s := wl tv (d % nw' tv)) hf
    refine V_aload_n rfl dX4_live_0 ?_
    refine gf_X4_76 (by assumption) (by assumption) rfl dX4_live_1 ?_
    refine cf_X4_49 (C_size hWt) (by assumption) rfl rfl ft0 (Nat.le_of_ble_eq_true rfl) dX4_live_4 ?_
    refine V_ist3 rfl rfl dX4_live_7 ?_
    refine V_aload_n rfl dX4_live_8 ?_
    refine gf_X4_46 (by assumption) (by assumption) rfl dX4_live_9 ?_
    refine cf_X4_49 (C_size hP) (by assumption) rfl rfl ft0 (Nat.le_of_ble_eq_true rfl) dX4_live_12 ?_
    refine V_ist4 rfl rfl dX4_live_15 ?_
    refine V_aload_n rfl dX4_live_17 ?_
    refine gfe_X4_79 (by assumption) (by assumption) rfl dX4_live_18 ?_
    refine V_ist5 rfl rfl dX4_live_21 ?_
    refine V_iload_n rfl dX4_live_23 ?_
    refine V_iconst (nI 1) (by decide) dX4_live_24 ?_
    refine V_icmp_ltN 40 dX4_live_25 (by decide) (by omega) (by omega) (fun h25 => absurd h25 (by omega)) (fun h25 => ?_)
    refine V_iload rfl dX4_live_28 ?_
    refine V_iconst (nI 1) (by decide) dX4_live_30 ?_
    refine V_icmp_ltN 40 dX4_live_31 (by decide) (by omega) (by omega) (fun h31 => absurd h31 (by omega)) (fun h31 => ?_)
    refine V_iload rfl dX4_live_34 ?_
    refine V_iconst (nI 1) (by decide) dX4_live_36 ?_
    refine V_icmp_geN 41 dX4_live_37 (by decide) (by omega) (by omega) (fun h37 => ?_) (fun h37 => absurd h37 (by omega))
    refine V_aload_n rfl dX4_live_41 ?_
    refine V_aload_n rfl dX4_live_42 ?_
    refine gf_X4_76 (by assumption) (by assumption) rfl dX4_live_43 ?_
    refine V_iload_n rfl dX4_live_46 ?_
    refine V_iload_n rfl dX4_live_47 ?_
    refine V_irem (nI_nz hw0 (by omega)) dX4_live_48 ?_
    rw [nI_rem (by omega) hw0 (by omega)]
    refine V_iconst (nI 0) (by decide) dX4_live_49 ?_
    refine cf_X4_53 (C_get (c := 0) hWt (by omega) (by decide)) (by assumption) rfl rfl ft0 (Nat.le_of_ble_eq_true rfl) dX4_live_50 ?_
    rw [if_pos hmod, c0]
    refine pf_X4_29 (by assumption) rfl dX4_live_53 ?_
    rw [← hJ]
    refine V_aload_n rfl dX4_live_56 ?_
    refine V_aload_n rfl dX4_live_57 ?_
    refine cf_X4_82 (C_lowest hTJ hJW hok hWok.2.2.2.1) (by assumption) rfl rfl ft0 (Nat.le_of_ble_eq_true rfl) dX4_live_58 ?_
    rw [hlow, hl]
    refine V_ist6 rfl rfl dX4_live_61 ?_
    refine V_iload_n rfl dX4_live_63 ?_
    refine V_bipush (nI 8) (by decide) dX4_live_64 ?_
    refine V_idiv (nI_nz (by decide) (by decide)) dX4_live_66 ?_
    rw [nI_div (by omega) (by decide) (by decide)]
    refine V_iconst (nI 2) (by decide) dX4_live_67 ?_
    refine V_irem (nI_nz (by decide) (by decide)) dX4_live_68 ?_
    rw [nI_rem (by omega) (by decide) (by decide)]
    refine V_if_neN 109 dX4_live_69 (by decide) (by omega) (fun h69 => ?_) (fun h69 => ?_)
    · skip
      first
      | (refine fin J (wM W) ?_ hJW (fun q hq => hfw q (by omega)) X _ _ rfl
         show (if _ then _ else _) = _
         rw [if_neg (by omega)])
      | (rcases hq with ⟨q0, -, q2, q3, q4, q5⟩ | ⟨q0, -, rfl⟩
         · have q0 : (wM W).1 < 12 := q0
           refine fin J1 (addTB (wM W) (tsy (d / 128 % tF tv) (wl tv (d % nw' tv))) s (d / 16 % (tP tv).1)) ?_ (hJW.marks q2 (Cel.add cMJ (by decide) q3 q4) q5) (fun q hq => by rw [q5 q (by omega) (by omega)]; exact hfw q (by omega)) X _ _ rfl
           show (if _ then _ else _) = _
           rw [if_pos ⟨h69, by omega⟩, hl]
         · have q0 : 12 ≤ (wM W).1 := q0
           refine fin J1 (wM W) ?_ hJW (fun q hq => hfw q (by omega)) X _ _ rfl
           show (if _ then _ else _) = _
           rw [if_neg (by omega)])
    · skip
      refine V_iload rfl dX4_live_72 ?_
      refine V_if_ltN (a := s) 109 dX4_live_74 (by decide) (by omega) ?_
      refine V_aload_n rfl dX4_live_77 ?_
      refine gf_X4_14 (by assumption) (by assumption) rfl dX4_live_78 ?_
      refine V_iload_n rfl dX4_live_81 ?_
      refine V_sipush (nI 128) (by decide) dX4_live_82 ?_
      refine V_idiv (nI_nz (by decide) (by decide)) dX4_live_85 ?_
      rw [nI_div (by omega) (by decide) (by decide)]
      refine V_iload rfl dX4_live_86 ?_
      refine V_irem (nI_nz hF1 (by omega)) dX4_live_88 ?_
      rw [nI_rem (by omega) hF1 (by omega)]
      refine V_aload_n rfl dX4_live_89 ?_
      refine gfe_X4_29 (by assumption) (by assumption) rfl dX4_live_90 ?_
      refine cf_X4_86 (C_trueSaying (by omega) (by omega)) rfl rfl ft0 (Nat.le_of_ble_eq_true rfl) dX4_live_93 ?_
      refine V_iload rfl dX4_live_96 ?_
      refine V_iload_n rfl dX4_live_98 ?_
      refine V_bipush (nI 16) (by decide) dX4_live_99 ?_
      refine V_idiv (nI_nz (by decide) (by decide)) dX4_live_101 ?_
      rw [nI_div (by omega) (by decide) (by decide)]
      refine V_iload rfl dX4_live_102 ?_
      refine V_irem (nI_nz hp0 (by omega)) dX4_live_104 ?_
      rw [nI_rem (by omega) hp0 (by omega)]
      refine cl_X4_57 (C_add hMJ) (by assumption) rfl rfl ft0 (Nat.le_of_ble_eq_true rfl) dX4_live_105 (fun rr s1 J1 hq => ?_)
      obtain ⟨rfl, hq⟩ := hq
      have hpop : ∃ v : Int32, rr = some (Value.int v) := by rcases hq with ⟨-, e, -⟩ | ⟨-, e, -⟩ <;> exact ⟨_, e⟩
      obtain ⟨v9, rfl⟩ := hpop
      show V X _ s1 J1 108 _ [.int v9]
      refine V_pop rfl dX4_live_108 ?_
      first
      | (refine fin J (wM W) ?_ hJW (fun q hq => hfw q (by omega)) X _ _ rfl
         show (if _ then _ else _) = _
         rw [if_neg (by omega)])
      | (rcases hq with ⟨q0, -, q2, q3, q4, q5⟩ | ⟨q0, -, rfl⟩
         · have q0 : (wM W).1 < 12 := q0
           refine fin J1 (addTB (wM W) (tsy (d / 128 % tF tv) (wl tv (d % nw' tv))) s (d / 16 % (tP tv).1)) ?_ (hJW.marks q2 (Cel.add cMJ (by decide) q3 q4) q5) (fun q hq => by rw [q5 q (by omega) (by omega)]; exact hfw q (by omega)) X _ _ rfl
           show (if _ then _ else _) = _
           rw [if_pos ⟨h69, by omega⟩, hl]
         · have q0 : 12 ≤ (wM W).1 := q0
           refine fin J1 (wM W) ?_ hJW (fun q hq => hfw q (by omega)) X _ _ rfl
           show (if _ then _ else _) = _
           rw [if_neg (by omega)])
end WEEKM
