/-! new tables, weeks, towns, texts, shelves -/
theorem hdf0 : ∀ k, k < kN 0 → defaultValue (kTy 0 k) = if isRf 0 k = true then .null else .int 0 := by decide
theorem hdf1 : ∀ k, k < kN 1 → defaultValue (kTy 1 k) = if isRf 1 k = true then .null else .int 0 := by decide
theorem hdf2 : ∀ k, k < kN 2 → defaultValue (kTy 2 k) = if isRf 2 k = true then .null else .int 0 := by decide
theorem hdf3 : ∀ k, k < kN 3 → defaultValue (kTy 3 k) = if isRf 3 k = true then .null else .int 0 := by decide
theorem hdf4 : ∀ k, k < kN 4 → defaultValue (kTy 4 k) = if isRf 4 k = true then .null else .int 0 := by decide
theorem hdf5 : ∀ k, k < kN 5 → defaultValue (kTy 5 k) = if isRf 5 k = true then .null else .int 0 := by decide
theorem hdf6 : ∀ k, k < kN 6 → defaultValue (kTy 6 k) = if isRf 6 k = true then .null else .int 0 := by decide
theorem fresh1 {S : SG} {u c n : Nat} : (sgN S u (c, n)).2.2.1 S.1 = (c, n) := if_pos rfl
theorem freshk {S : SG} {u c n : Nat} : ((sgN S u (c, n)).2.2.1 S.1).1 = c := by rw [fresh1]
theorem kind_ne {S : SG} {u p : Nat} {s : Nat × Nat} (h : p ≠ S.1) : (sgN S u s).2.2.1 p = S.2.2.1 p := if_neg h
theorem refs_ne {S : SG} {u p : Nat} {s : Nat × Nat} (h : p ≠ S.1) : (sgN S u s).2.2.2 p = S.2.2.2 p := funext fun k => if_neg h
theorem im_ne {S : SG} {J : IM} {p : Nat} (h : p ≠ S.1) : imN S J p = J p := funext fun k => if_neg h
def Keep (S S2 : SG) (J J2 : IM) (lo hi : Nat) : Prop := ∀ p, lo ≤ p → p < hi → S2.2.2.1 p = S.2.2.1 p ∧ S2.2.2.2 p = S.2.2.2 p ∧ J2 p = J p
theorem Keep.refl {S : SG} {J : IM} {lo hi : Nat} : Keep S S J J lo hi := fun _ _ _ => ⟨rfl, rfl, rfl⟩
theorem Keep.trans {S S2 S3 : SG} {J J2 J3 : IM} {lo hi : Nat} (a : Keep S S2 J J2 lo hi) (b : Keep S2 S3 J2 J3 lo hi) : Keep S S3 J J3 lo hi := fun p h1 h2 => by
  obtain ⟨a1, a2, a3⟩ := a p h1 h2
  obtain ⟨b1, b2, b3⟩ := b p h1 h2
  exact ⟨b1.trans a1, b2.trans a2, b3.trans a3⟩
theorem Keep.sub {S S2 : SG} {J J2 : IM} {lo hi lo2 hi2 : Nat} (a : Keep S S2 J J2 lo hi) (h1 : lo ≤ lo2) (h2 : hi2 ≤ hi) : Keep S S2 J J2 lo2 hi2 := fun p q1 q2 => a p (by omega) (by omega)
theorem keepN {S : SG} {J : IM} {u : Nat} {s : Nat × Nat} : Keep S (sgN S u s) J (imN S J) 0 S.1 := fun p _ h => ⟨kind_ne (by omega), refs_ne (by omega), im_ne (by omega)⟩
theorem keepR {S : SG} {J : IM} {q j lo hi : Nat} {v : Option Nat} (h : q < lo ∨ hi ≤ q) : Keep S (sgR S (upR S.2.2.2 q j v)) J J lo hi := fun p h1 h2 => ⟨rfl, funext fun k => upR_ne (Or.inl (by omega)), rfl⟩
section KEEP
variable {S S2 : SG} {J J2 : IM} {lo hi : Nat}
theorem Tab.kp {t a mx w n : Nat} (h : Tab S J t a mx w n) (k : Keep S S2 J J2 lo hi) (h1 : lo ≤ t) (h2 : t < hi) (h3 : lo ≤ a) (h4 : a < hi) : Tab S2 J2 t a mx w n := by
  obtain ⟨e1, e2, e3⟩ := k t h1 h2
  obtain ⟨f1, -, -⟩ := k a h3 h4
  unfold Tab
  rw [e1, e2, e3, f1]; exact h
theorem WeekK.kp {w : Nat} (h : WeekK S w) (k : Keep S S2 J J2 lo hi) (h1 : lo ≤ w) (h2 : w < hi) : WeekK S2 w := by
  obtain ⟨e1, e2, e3⟩ := k w h1 h2
  unfold WeekK
  rw [e1, e2]; exact h
theorem WeekSh.kp {w : Nat} (h : WeekSh S J w) (k : Keep S S2 J J2 lo hi) (h1 : lo ≤ w) (h2 : w + 5 ≤ hi) : WeekSh S2 J2 w := by
  obtain ⟨a, ⟨n, b⟩, m, c⟩ := h
  exact ⟨a.kp k h1 (by omega), ⟨n, b.kp k (by omega) (by omega) (by omega) (by omega)⟩, m, c.kp k (by omega) (by omega) (by omega) (by omega)⟩
theorem TownK.kp {T : Nat} (h : TownK S T) (k : Keep S S2 J J2 lo hi) (h1 : lo ≤ T) (h2 : T < hi) : TownK S2 T := by
  obtain ⟨e1, e2, e3⟩ := k T h1 h2
  unfold TownK
  rw [e1, e2]; exact h
theorem TownSh.kp {T : Nat} (h : TownSh S J T) (k : Keep S S2 J J2 lo hi) (h1 : lo ≤ T) (h2 : T + 11 ≤ hi) : TownSh S2 J2 T := by
  obtain ⟨a, ⟨n1, b1⟩, ⟨n2, b2⟩, ⟨n3, b3⟩, ⟨n4, b4⟩, n5, b5⟩ := h
  exact ⟨a.kp k h1 (by omega), ⟨n1, b1.kp k (by omega) (by omega) (by omega) (by omega)⟩, ⟨n2, b2.kp k (by omega) (by omega) (by omega) (by omega)⟩, ⟨n3, b3.kp k (by omega) (by omega) (by omega) (by omega)⟩, ⟨n4, b4.kp k (by omega) (by omega) (by omega) (by omega)⟩, n5, b5.kp k (by omega) (by omega) (by omega) (by omega)⟩
theorem ShelfK.kp {s M : Nat} (h : ShelfK S s M) (k : Keep S S2 J J2 lo hi) (h1 : lo ≤ s) (h2 : s + 1 < hi) : ShelfK S2 s M := by
  obtain ⟨e1, e2, e3⟩ := k s h1 (by omega)
  obtain ⟨f1, f2, -⟩ := k (s + 1) (by omega) h2
  unfold ShelfK
  rw [e1, e2, f1, f2]; exact h
end KEEP
/-- a constructor's step: a link more from the object q, what lay there kept -/
def KR (S S2 : SG) (J J2 : IM) (q j : Nat) : Prop := (∀ p, p < S.1 → S2.2.2.1 p = S.2.2.1 p) ∧ (∀ p, p < S.1 → p ≠ q → S2.2.2.2 p = S.2.2.2 p ∧ J2 p = J p) ∧ (∀ i, i ≠ j → S2.2.2.2 q i = S.2.2.2 q i) ∧ J2 q = J q
theorem KR.kp {S S2 : SG} {J J2 : IM} {q j : Nat} (k : KR S S2 J J2 q j) (hq : q < S.1) : Keep S S2 J J2 0 q := fun p _ h => ⟨k.1 p (by omega), (k.2.1 p (by omega) (by omega)).1, (k.2.1 p (by omega) (by omega)).2⟩
theorem KR.kp2 {S S2 : SG} {J J2 : IM} {q j : Nat} (k : KR S S2 J J2 q j) : Keep S S2 J J2 (q + 1) S.1 := fun p h1 h => ⟨k.1 p (by omega), (k.2.1 p (by omega) (by omega)).1, (k.2.1 p (by omega) (by omega)).2⟩
def TR (S : SG) (J : IM) (q n j mx w : Nat) : Prop := S.2.2.2 q j = some n ∧ Tab S J n (n + 1) mx w 0
theorem TR.kr {S S2 : SG} {J J2 : IM} {q n j j2 mx w : Nat} (h : TR S J q n j mx w) (k : KR S S2 J J2 q j2) (hj : j ≠ j2) (h1 : q < n) (h2 : n + 1 < S.1) : TR S2 J2 q n j mx w := ⟨(k.2.2.1 j hj).trans h.1, h.2.kp k.kp2 (by omega) (by omega) (by omega) (by omega)⟩
theorem kr_step {S S' : SG} {J J' : IM} {q j u c : Nat} (hq : q < S.1) (aK : Keep (sgN S u (c, 0)) S' (imN S J) J' 0 S.1) : KR S (sgR S' (upR S'.2.2.2 q j (some S.1))) J J' q j := by
  have hK := (keepN (S := S) (J := J) (u := u) (s := (c, 0))).trans aK
  refine ⟨fun p hp => (hK p (Nat.zero_le _) hp).1, fun p hp hne => ⟨?_, (hK p (Nat.zero_le _) hp).2.2⟩, fun i hi => ?_, (hK q (Nat.zero_le _) hq).2.2⟩
  · rw [← (hK p (Nat.zero_le _) hp).2.1]
    exact funext fun k => upR_ne (Or.inl hne)
  · rw [← (hK q (Nat.zero_le _) hq).2.1]
    exact upR_ne (Or.inr hi)
theorem tr_step {S S' : SG} {J' : IM} {q j mx w : Nat} (hq : q < S.1) (aT : Tab S' J' S.1 (S.1 + 1) mx w 0) : TR (sgR S' (upR S'.2.2.2 q j (some S.1))) J' q S.1 j mx w := ⟨upR_eq, aT.kp (keepR (lo := S.1) (hi := S.1 + 2) (Or.inl hq)) (by omega) (by omega) (by omega) (by omega)⟩
section CNEW
variable {g : GC} {sg : SG} {I : IM}
def ntQ (sg : SG) (I : IM) (q mx w : Nat) : Option Value → SG → IM → Prop := fun r0 s0 J => r0 = none ∧ s0.1 = sg.1 + 1 ∧ s0.2.1 = sg.2.1 + mx * w ∧ Tab s0 J q (q + 1) mx w 0 ∧ Keep sg s0 I J 0 q
theorem N_table {q mx w : Nat} (hk : (sg.2.2.1 q).1 = 1) (hn : sg.1 = q + 1) (h3 : I q 3 = 0) (h0 : 0 < mx * w) (h1 : mx ≤ 1000) (h2 : w ≤ 4) (h4 : mx * w ≤ 4000) : Ct (m_X1i 2 1 (mx * w)) g [rf g q, .int (nI mx), .int (nI w)] sg I (ntQ sg I q mx w) := by
  have hp : (2 : Nat) ^ 20 = 1048576 := by decide
  have hnle : ¬ nI (mx * w) ≤ 0 := fun z => by
    have z2 : nI (mx * w) ≤ nI 0 := z
    have := (nI_leI (by omega) (by decide)).mp z2
    omega
  refine Ct.of rfl (Nat.le_of_ble_eq_true rfl) fun X => ?_
  show V X _ sg I 0 [some (rf g q), some (.int (nI mx)), some (.int (nI w)), none] []
  refine V_aload_n rfl dX1_init_0 ?_
  refine V_objInit wl_X1_1 ws_obj wc_obj (Nat.le_of_ble_eq_true rfl) (Nat.le_of_ble_eq_true rfl) dX1_init_1 ?_
  refine V_iload_n rfl dX1_init_4 ?_
  refine V_iload_n rfl dX1_init_5 ?_
  refine V_imulN dX1_init_6 ?_
  refine V_ist3 rfl rfl dX1_init_7 ?_
  refine V_aload_n rfl dX1_init_8 ?_
  refine V_iload_n rfl dX1_init_9 ?_
  refine pf_X1_7 (by assumption) rfl rfl dX1_init_10 ?_
  refine V_aload_n rfl dX1_init_13 ?_
  refine V_iload_n rfl dX1_init_14 ?_
  refine pf_X1_13 (by assumption) rfl rfl dX1_init_15 ?_
  refine V_aload_n rfl dX1_init_18 ?_
  refine V_iload_n rfl dX1_init_19 ?_
  refine V_if_le 27 dX1_init_20 (by decide) (fun h => absurd h hnle) (fun _ => ?_)
  refine V_iload_n rfl dX1_init_23 ?_
  refine V_goto 28 dX1_init_24 (by decide) ?_
  refine V_newa (atype := .int) 7 (mx * w) (Or.inl rfl) rfl wk_a_int rfl (by omega) ⟨by show sg.1 - sg.1 + 1 ≤ 1; omega, by show sg.2.1 - sg.2.1 + mx * w ≤ mx * w; omega⟩ dX1_init_28 ?_
  obtain ⟨S1, hS1⟩ : ∃ S1, S1 = sgN sg (mx * w) (7, mx * w) := ⟨_, rfl⟩
  rw [← hS1]
  have hk1 : (S1.2.2.1 q).1 = 1 := by rw [hS1, kind_ne (by omega)]; exact hk
  refine pf_X1_16 (by assumption) rfl rfl dX1_init_30 ?_
  refine V_vret rfl (by rw [hS1]; rfl) (by rw [hS1]; rfl) ?_ dX1_init_33
  have hre : ∀ p, p ≠ sg.1 → S1.2.2.2 p = sg.2.2.2 p := fun p hp => by rw [hS1]; exact refs_ne hp
  have hki : ∀ p, p ≠ sg.1 → S1.2.2.1 p = sg.2.2.1 p := fun p hp => by rw [hS1]; exact kind_ne hp
  refine ⟨rfl, by rw [hS1]; rfl, by rw [hS1]; rfl, ⟨hk1, ?_, ?_, ?_, ?_, ?_, Nat.zero_le _, h1, h2, h4⟩, fun p _ hp => ⟨hki p (by omega), ?_, ?_⟩⟩
  · show upR _ q 2 (some sg.1) q 2 = some (q + 1)
    rw [upR_eq, hn]
  · show S1.2.2.1 (q + 1) = _
    rw [hS1, ← hn]; exact fresh1
  · rw [im_ne (by omega), upI_ne (Or.inr (by decide))]; exact upI_eq
  · rw [im_ne (by omega)]; exact upI_eq
  · rw [im_ne (by omega), upI_ne (Or.inr (by decide)), upI_ne (Or.inr (by decide)), h3]; rfl
  · exact (funext fun k => upR_ne (Or.inl (by omega))).trans (hre p (by omega))
  · rw [im_ne (by omega)]
    exact (funext fun k => upI_ne (Or.inl (by omega))).trans (funext fun k => upI_ne (Or.inl (by omega)))
theorem N_week {q : Nat} (hk : (sg.2.2.1 q).1 = 4) (hn : sg.1 = q + 1) : Ct (m_X4i 3 4 61) g [rf g q] sg I (fun r0 s0 J => r0 = none ∧ s0.1 = sg.1 + 4 ∧ s0.2.1 = sg.2.1 + 61 ∧ WeekSh s0 J q ∧ Keep sg s0 I J 0 q ∧ J q = I q) := by
  refine Ct.of rfl (Nat.le_of_ble_eq_true rfl) fun X => ?_
  show V X _ sg I 0 [some (rf g q)] []
  have hq0 : q < sg.1 := by omega
  have hkS0 := hk
  refine V_aload_n rfl dX4_init_0 ?_
  refine V_objInit wl_X4_3 ws_obj wc_obj (Nat.le_of_ble_eq_true rfl) (Nat.le_of_ble_eq_true rfl) dX4_init_1 ?_
  refine V_aload_n rfl dX4_init_4 ?_
  refine V_new 1 (by decide) wk_c_X4_9 wk_i_X1 wi_X1 hdf1 ⟨by show sg.1 - sg.1 + 1 ≤ 4; omega, by show sg.2.1 - sg.2.1 + 4 ≤ 61; omega⟩ dX4_init_5 ?_
  refine V_dup rfl dX4_init_8 ?_
  refine V_bipush (nI 12) (by decide) dX4_init_9 ?_
  refine V_iconst (nI 4) (by decide) dX4_init_11 ?_
  refine ci_X4_11 2 1 (12 * 4) (N_table freshk rfl (if_pos rfl) (by decide) (by decide) (by decide) (by decide)) rfl rfl ⟨by show sg.1 + 1 - sg.1 + 1 ≤ 4; omega, by show sg.2.1 + 4 - sg.2.1 + 12 * 4 ≤ 61; omega⟩ (Nat.le_of_ble_eq_true rfl) dX4_init_12 (fun r T1 J1 hq => ?_)
  obtain ⟨rfl, a0, b0, t0, k0⟩ := hq
  have hk0c : (T1.2.2.1 q).1 = 4 := by rw [(k0 q (Nat.zero_le _) (by omega)).1, kind_ne (by omega)]; exact hkS0
  show V X _ T1 J1 15 _ [rf g sg.1, rf g q]
  refine pf_X4_14 (by assumption) rfl rfl dX4_init_15 ?_
  obtain ⟨S1, hS1⟩ : ∃ S1, S1 = sgR T1 (upR T1.2.2.2 q 0 (some sg.1)) := ⟨_, rfl⟩
  rw [← hS1]
  have kr0 := kr_step (j := 0) (show q < sg.1 by omega) k0
  have tr0 := tr_step (j := 0) (show q < sg.1 by omega) t0
  rw [← hS1] at kr0 tr0
  have nS1 : S1.1 = sg.1 + 2 := by rw [hS1]; exact a0
  have uS1 : S1.2.1 = sg.2.1 + 4 + 12 * 4 := by rw [hS1]; exact b0
  have hkS1 : (S1.2.2.1 q).1 = 4 := by rw [kr0.1 q (by omega)]; exact hkS0
  refine V_aload_n rfl dX4_init_18 ?_
  refine V_new 1 (by decide) wk_c_X4_9 wk_i_X1 wi_X1 hdf1 ⟨by show S1.1 - sg.1 + 1 ≤ 4; omega, by show S1.2.1 - sg.2.1 + 4 ≤ 61; omega⟩ dX4_init_19 ?_
  refine V_dup rfl dX4_init_22 ?_
  refine V_iconst (nI 5) (by decide) dX4_init_23 ?_
  refine V_iconst (nI 1) (by decide) dX4_init_24 ?_
  refine ci_X4_11 2 1 (5 * 1) (N_table freshk rfl (if_pos rfl) (by decide) (by decide) (by decide) (by decide)) rfl rfl ⟨by show S1.1 + 1 - sg.1 + 1 ≤ 4; omega, by show S1.2.1 + 4 - sg.2.1 + 5 * 1 ≤ 61; omega⟩ (Nat.le_of_ble_eq_true rfl) dX4_init_25 (fun r T2 J2 hq => ?_)
  obtain ⟨rfl, a1, b1, t1, k1⟩ := hq
  have hk1c : (T2.2.2.1 q).1 = 4 := by rw [(k1 q (Nat.zero_le _) (by omega)).1, kind_ne (by omega)]; exact hkS1
  show V X _ T2 J2 28 _ [rf g S1.1, rf g q]
  refine pf_X4_20 (by assumption) rfl rfl dX4_init_28 ?_
  obtain ⟨S2, hS2⟩ : ∃ S2, S2 = sgR T2 (upR T2.2.2.2 q 1 (some S1.1)) := ⟨_, rfl⟩
  rw [← hS2]
  have kr1 := kr_step (j := 1) (show q < S1.1 by omega) k1
  have tr1 := tr_step (j := 1) (show q < S1.1 by omega) t1
  rw [← hS2] at kr1 tr1
  have nS2 : S2.1 = S1.1 + 2 := by rw [hS2]; exact a1
  have uS2 : S2.2.1 = S1.2.1 + 4 + 5 * 1 := by rw [hS2]; exact b1
  have hkS2 : (S2.2.2.1 q).1 = 4 := by rw [kr1.1 q (by omega)]; exact hkS1
  refine V_vret rfl (by show S2.1 = sg.1 + 4; omega) (by show S2.2.1 = sg.2.1 + 61; omega) ?_ dX4_init_31
  have f0 := (tr0.kr kr1 (by decide) (by omega) (by omega))
  have f1 := tr1
  exact ⟨rfl, by omega, by omega, ⟨⟨hkS2, by rw [f0.1]; exact congrArg some (by omega), by rw [f1.1]; exact congrArg some (by omega)⟩, ⟨0, by have h := f0.2; rw [show sg.1 = q + 1 by omega] at h; exact h⟩, ⟨0, by have h := f1.2; rw [show S1.1 = q + 3 by omega] at h; exact h⟩⟩, (kr0.kp (by omega)).trans (kr1.kp (by omega)), (kr1.2.2.2).trans (kr0.2.2.2)⟩
theorem N_town {q : Nat} (hk : (sg.2.2.1 q).1 = 3) (hn : sg.1 = q + 1) : Ct (m_X3i 3 10 595) g [rf g q] sg I (fun r0 s0 J => r0 = none ∧ s0.1 = sg.1 + 10 ∧ s0.2.1 = sg.2.1 + 595 ∧ TownSh s0 J q ∧ Keep sg s0 I J 0 q ∧ J q = I q) := by
  refine Ct.of rfl (Nat.le_of_ble_eq_true rfl) fun X => ?_
  show V X _ sg I 0 [some (rf g q)] []
  have hq0 : q < sg.1 := by omega
  have hkS0 := hk
  refine V_aload_n rfl dX3_init_0 ?_
  refine V_objInit wl_X3_3 ws_obj wc_obj (Nat.le_of_ble_eq_true rfl) (Nat.le_of_ble_eq_true rfl) dX3_init_1 ?_
  refine V_aload_n rfl dX3_init_4 ?_
  refine V_new 1 (by decide) wk_c_X3_9 wk_i_X1 wi_X1 hdf1 ⟨by show sg.1 - sg.1 + 1 ≤ 10; omega, by show sg.2.1 - sg.2.1 + 4 ≤ 595; omega⟩ dX3_init_5 ?_
  refine V_dup rfl dX3_init_8 ?_
  refine V_bipush (nI 10) (by decide) dX3_init_9 ?_
  refine V_iconst (nI 2) (by decide) dX3_init_11 ?_
  refine ci_X3_11 2 1 (10 * 2) (N_table freshk rfl (if_pos rfl) (by decide) (by decide) (by decide) (by decide)) rfl rfl ⟨by show sg.1 + 1 - sg.1 + 1 ≤ 10; omega, by show sg.2.1 + 4 - sg.2.1 + 10 * 2 ≤ 595; omega⟩ (Nat.le_of_ble_eq_true rfl) dX3_init_12 (fun r T1 J1 hq => ?_)
  obtain ⟨rfl, a0, b0, t0, k0⟩ := hq
  have hk0c : (T1.2.2.1 q).1 = 3 := by rw [(k0 q (Nat.zero_le _) (by omega)).1, kind_ne (by omega)]; exact hkS0
  show V X _ T1 J1 15 _ [rf g sg.1, rf g q]
  refine pf_X3_14 (by assumption) rfl rfl dX3_init_15 ?_
  obtain ⟨S1, hS1⟩ : ∃ S1, S1 = sgR T1 (upR T1.2.2.2 q 0 (some sg.1)) := ⟨_, rfl⟩
  rw [← hS1]
  have kr0 := kr_step (j := 0) (show q < sg.1 by omega) k0
  have tr0 := tr_step (j := 0) (show q < sg.1 by omega) t0
  rw [← hS1] at kr0 tr0
  have nS1 : S1.1 = sg.1 + 2 := by rw [hS1]; exact a0
  have uS1 : S1.2.1 = sg.2.1 + 4 + 10 * 2 := by rw [hS1]; exact b0
  have hkS1 : (S1.2.2.1 q).1 = 3 := by rw [kr0.1 q (by omega)]; exact hkS0
  refine V_aload_n rfl dX3_init_18 ?_
  refine V_new 1 (by decide) wk_c_X3_9 wk_i_X1 wi_X1 hdf1 ⟨by show S1.1 - sg.1 + 1 ≤ 10; omega, by show S1.2.1 - sg.2.1 + 4 ≤ 595; omega⟩ dX3_init_19 ?_
  refine V_dup rfl dX3_init_22 ?_
  refine V_iconst (nI 5) (by decide) dX3_init_23 ?_
  refine V_iconst (nI 2) (by decide) dX3_init_24 ?_
  refine ci_X3_11 2 1 (5 * 2) (N_table freshk rfl (if_pos rfl) (by decide) (by decide) (by decide) (by decide)) rfl rfl ⟨by show S1.1 + 1 - sg.1 + 1 ≤ 10; omega, by show S1.2.1 + 4 - sg.2.1 + 5 * 2 ≤ 595; omega⟩ (Nat.le_of_ble_eq_true rfl) dX3_init_25 (fun r T2 J2 hq => ?_)
  obtain ⟨rfl, a1, b1, t1, k1⟩ := hq
  have hk1c : (T2.2.2.1 q).1 = 3 := by rw [(k1 q (Nat.zero_le _) (by omega)).1, kind_ne (by omega)]; exact hkS1
  show V X _ T2 J2 28 _ [rf g S1.1, rf g q]
  refine pf_X3_20 (by assumption) rfl rfl dX3_init_28 ?_
  obtain ⟨S2, hS2⟩ : ∃ S2, S2 = sgR T2 (upR T2.2.2.2 q 1 (some S1.1)) := ⟨_, rfl⟩
  rw [← hS2]
  have kr1 := kr_step (j := 1) (show q < S1.1 by omega) k1
  have tr1 := tr_step (j := 1) (show q < S1.1 by omega) t1
  rw [← hS2] at kr1 tr1
  have nS2 : S2.1 = S1.1 + 2 := by rw [hS2]; exact a1
  have uS2 : S2.2.1 = S1.2.1 + 4 + 5 * 2 := by rw [hS2]; exact b1
  have hkS2 : (S2.2.2.1 q).1 = 3 := by rw [kr1.1 q (by omega)]; exact hkS1
  refine V_aload_n rfl dX3_init_31 ?_
  refine V_new 1 (by decide) wk_c_X3_9 wk_i_X1 wi_X1 hdf1 ⟨by show S2.1 - sg.1 + 1 ≤ 10; omega, by show S2.2.1 - sg.2.1 + 4 ≤ 595; omega⟩ dX3_init_32 ?_
  refine V_dup rfl dX3_init_35 ?_
  refine V_iconst (nI 5) (by decide) dX3_init_36 ?_
  refine V_iconst (nI 3) (by decide) dX3_init_37 ?_
  refine ci_X3_11 2 1 (5 * 3) (N_table freshk rfl (if_pos rfl) (by decide) (by decide) (by decide) (by decide)) rfl rfl ⟨by show S2.1 + 1 - sg.1 + 1 ≤ 10; omega, by show S2.2.1 + 4 - sg.2.1 + 5 * 3 ≤ 595; omega⟩ (Nat.le_of_ble_eq_true rfl) dX3_init_38 (fun r T3 J3 hq => ?_)
  obtain ⟨rfl, a2, b2, t2, k2⟩ := hq
  have hk2c : (T3.2.2.1 q).1 = 3 := by rw [(k2 q (Nat.zero_le _) (by omega)).1, kind_ne (by omega)]; exact hkS2
  show V X _ T3 J3 41 _ [rf g S2.1, rf g q]
  refine pf_X3_23 (by assumption) rfl rfl dX3_init_41 ?_
  obtain ⟨S3, hS3⟩ : ∃ S3, S3 = sgR T3 (upR T3.2.2.2 q 2 (some S2.1)) := ⟨_, rfl⟩
  rw [← hS3]
  have kr2 := kr_step (j := 2) (show q < S2.1 by omega) k2
  have tr2 := tr_step (j := 2) (show q < S2.1 by omega) t2
  rw [← hS3] at kr2 tr2
  have nS3 : S3.1 = S2.1 + 2 := by rw [hS3]; exact a2
  have uS3 : S3.2.1 = S2.2.1 + 4 + 5 * 3 := by rw [hS3]; exact b2
  have hkS3 : (S3.2.2.1 q).1 = 3 := by rw [kr2.1 q (by omega)]; exact hkS2
  refine V_aload_n rfl dX3_init_44 ?_
  refine V_new 1 (by decide) wk_c_X3_9 wk_i_X1 wi_X1 hdf1 ⟨by show S3.1 - sg.1 + 1 ≤ 10; omega, by show S3.2.1 - sg.2.1 + 4 ≤ 595; omega⟩ dX3_init_45 ?_
  refine V_dup rfl dX3_init_48 ?_
  refine V_bipush (nI 6) (by decide) dX3_init_49 ?_
  refine V_iconst (nI 3) (by decide) dX3_init_51 ?_
  refine ci_X3_11 2 1 (6 * 3) (N_table freshk rfl (if_pos rfl) (by decide) (by decide) (by decide) (by decide)) rfl rfl ⟨by show S3.1 + 1 - sg.1 + 1 ≤ 10; omega, by show S3.2.1 + 4 - sg.2.1 + 6 * 3 ≤ 595; omega⟩ (Nat.le_of_ble_eq_true rfl) dX3_init_52 (fun r T4 J4 hq => ?_)
  obtain ⟨rfl, a3, b3, t3, k3⟩ := hq
  have hk3c : (T4.2.2.1 q).1 = 3 := by rw [(k3 q (Nat.zero_le _) (by omega)).1, kind_ne (by omega)]; exact hkS3
  show V X _ T4 J4 55 _ [rf g S3.1, rf g q]
  refine pf_X3_26 (by assumption) rfl rfl dX3_init_55 ?_
  obtain ⟨S4, hS4⟩ : ∃ S4, S4 = sgR T4 (upR T4.2.2.2 q 3 (some S3.1)) := ⟨_, rfl⟩
  rw [← hS4]
  have kr3 := kr_step (j := 3) (show q < S3.1 by omega) k3
  have tr3 := tr_step (j := 3) (show q < S3.1 by omega) t3
  rw [← hS4] at kr3 tr3
  have nS4 : S4.1 = S3.1 + 2 := by rw [hS4]; exact a3
  have uS4 : S4.2.1 = S3.2.1 + 4 + 6 * 3 := by rw [hS4]; exact b3
  have hkS4 : (S4.2.2.1 q).1 = 3 := by rw [kr3.1 q (by omega)]; exact hkS3
  refine V_aload_n rfl dX3_init_58 ?_
  refine V_new 1 (by decide) wk_c_X3_9 wk_i_X1 wi_X1 hdf1 ⟨by show S4.1 - sg.1 + 1 ≤ 10; omega, by show S4.2.1 - sg.2.1 + 4 ≤ 595; omega⟩ dX3_init_59 ?_
  refine V_dup rfl dX3_init_62 ?_
  refine V_sipush (nI 256) (by decide) dX3_init_63 ?_
  refine V_iconst (nI 2) (by decide) dX3_init_66 ?_
  refine ci_X3_11 2 1 (256 * 2) (N_table freshk rfl (if_pos rfl) (by decide) (by decide) (by decide) (by decide)) rfl rfl ⟨by show S4.1 + 1 - sg.1 + 1 ≤ 10; omega, by show S4.2.1 + 4 - sg.2.1 + 256 * 2 ≤ 595; omega⟩ (Nat.le_of_ble_eq_true rfl) dX3_init_67 (fun r T5 J5 hq => ?_)
  obtain ⟨rfl, a4, b4, t4, k4⟩ := hq
  have hk4c : (T5.2.2.1 q).1 = 3 := by rw [(k4 q (Nat.zero_le _) (by omega)).1, kind_ne (by omega)]; exact hkS4
  show V X _ T5 J5 70 _ [rf g S4.1, rf g q]
  refine pf_X3_29 (by assumption) rfl rfl dX3_init_70 ?_
  obtain ⟨S5, hS5⟩ : ∃ S5, S5 = sgR T5 (upR T5.2.2.2 q 4 (some S4.1)) := ⟨_, rfl⟩
  rw [← hS5]
  have kr4 := kr_step (j := 4) (show q < S4.1 by omega) k4
  have tr4 := tr_step (j := 4) (show q < S4.1 by omega) t4
  rw [← hS5] at kr4 tr4
  have nS5 : S5.1 = S4.1 + 2 := by rw [hS5]; exact a4
  have uS5 : S5.2.1 = S4.2.1 + 4 + 256 * 2 := by rw [hS5]; exact b4
  have hkS5 : (S5.2.2.1 q).1 = 3 := by rw [kr4.1 q (by omega)]; exact hkS4
  refine V_vret rfl (by show S5.1 = sg.1 + 10; omega) (by show S5.2.1 = sg.2.1 + 595; omega) ?_ dX3_init_73
  have f0 := ((((tr0.kr kr1 (by decide) (by omega) (by omega)).kr kr2 (by decide) (by omega) (by omega)).kr kr3 (by decide) (by omega) (by omega)).kr kr4 (by decide) (by omega) (by omega))
  have f1 := (((tr1.kr kr2 (by decide) (by omega) (by omega)).kr kr3 (by decide) (by omega) (by omega)).kr kr4 (by decide) (by omega) (by omega))
  have f2 := ((tr2.kr kr3 (by decide) (by omega) (by omega)).kr kr4 (by decide) (by omega) (by omega))
  have f3 := (tr3.kr kr4 (by decide) (by omega) (by omega))
  have f4 := tr4
  exact ⟨rfl, by omega, by omega, ⟨⟨hkS5, by rw [f0.1]; exact congrArg some (by omega), by rw [f1.1]; exact congrArg some (by omega), by rw [f2.1]; exact congrArg some (by omega), by rw [f3.1]; exact congrArg some (by omega), by rw [f4.1]; exact congrArg some (by omega)⟩, ⟨0, by have h := f0.2; rw [show sg.1 = q + 1 by omega] at h; exact h⟩, ⟨0, by have h := f1.2; rw [show S1.1 = q + 3 by omega] at h; exact h⟩, ⟨0, by have h := f2.2; rw [show S2.1 = q + 5 by omega] at h; exact h⟩, ⟨0, by have h := f3.2; rw [show S3.1 = q + 7 by omega] at h; exact h⟩, ⟨0, by have h := f4.2; rw [show S4.1 = q + 9 by omega] at h; exact h⟩⟩, ((((kr0.kp (by omega)).trans (kr1.kp (by omega))).trans (kr2.kp (by omega))).trans (kr3.kp (by omega))).trans (kr4.kp (by omega)), (kr4.2.2.2).trans ((kr3.2.2.2).trans ((kr2.2.2.2).trans ((kr1.2.2.2).trans (kr0.2.2.2))))⟩
theorem N_text {q : Nat} (hk : (sg.2.2.1 q).1 = 2) (hn : sg.1 = q + 1) : Ct (m_X2i 3 4 211) g [rf g q] sg I (fun r0 s0 J => r0 = none ∧ s0.1 = sg.1 + 4 ∧ s0.2.1 = sg.2.1 + 211 ∧ ((s0.2.2.1 q).1 = 2 ∧ s0.2.2.2 q 0 = some (q + 1) ∧ s0.2.2.2 q 1 = some (q + 3)) ∧ Tab s0 J (q + 1) (q + 2) 200 1 0 ∧ Tab s0 J (q + 3) (q + 4) 3 1 0 ∧ Keep sg s0 I J 0 q ∧ J q = I q) := by
  refine Ct.of rfl (Nat.le_of_ble_eq_true rfl) fun X => ?_
  show V X _ sg I 0 [some (rf g q)] []
  have hq0 : q < sg.1 := by omega
  have hkS0 := hk
  refine V_aload_n rfl dX2_init_0 ?_
  refine V_objInit wl_X2_3 ws_obj wc_obj (Nat.le_of_ble_eq_true rfl) (Nat.le_of_ble_eq_true rfl) dX2_init_1 ?_
  refine V_aload_n rfl dX2_init_4 ?_
  refine V_new 1 (by decide) wk_c_X2_9 wk_i_X1 wi_X1 hdf1 ⟨by show sg.1 - sg.1 + 1 ≤ 4; omega, by show sg.2.1 - sg.2.1 + 4 ≤ 211; omega⟩ dX2_init_5 ?_
  refine V_dup rfl dX2_init_8 ?_
  refine V_sipush (nI 200) (by decide) dX2_init_9 ?_
  refine V_iconst (nI 1) (by decide) dX2_init_12 ?_
  refine ci_X2_11 2 1 (200 * 1) (N_table freshk rfl (if_pos rfl) (by decide) (by decide) (by decide) (by decide)) rfl rfl ⟨by show sg.1 + 1 - sg.1 + 1 ≤ 4; omega, by show sg.2.1 + 4 - sg.2.1 + 200 * 1 ≤ 211; omega⟩ (Nat.le_of_ble_eq_true rfl) dX2_init_13 (fun r T1 J1 hq => ?_)
  obtain ⟨rfl, a0, b0, t0, k0⟩ := hq
  have hk0c : (T1.2.2.1 q).1 = 2 := by rw [(k0 q (Nat.zero_le _) (by omega)).1, kind_ne (by omega)]; exact hkS0
  show V X _ T1 J1 16 _ [rf g sg.1, rf g q]
  refine pf_X2_14 (by assumption) rfl rfl dX2_init_16 ?_
  obtain ⟨S1, hS1⟩ : ∃ S1, S1 = sgR T1 (upR T1.2.2.2 q 0 (some sg.1)) := ⟨_, rfl⟩
  rw [← hS1]
  have kr0 := kr_step (j := 0) (show q < sg.1 by omega) k0
  have tr0 := tr_step (j := 0) (show q < sg.1 by omega) t0
  rw [← hS1] at kr0 tr0
  have nS1 : S1.1 = sg.1 + 2 := by rw [hS1]; exact a0
  have uS1 : S1.2.1 = sg.2.1 + 4 + 200 * 1 := by rw [hS1]; exact b0
  have hkS1 : (S1.2.2.1 q).1 = 2 := by rw [kr0.1 q (by omega)]; exact hkS0
  refine V_aload_n rfl dX2_init_19 ?_
  refine V_new 1 (by decide) wk_c_X2_9 wk_i_X1 wi_X1 hdf1 ⟨by show S1.1 - sg.1 + 1 ≤ 4; omega, by show S1.2.1 - sg.2.1 + 4 ≤ 211; omega⟩ dX2_init_20 ?_
  refine V_dup rfl dX2_init_23 ?_
  refine V_iconst (nI 3) (by decide) dX2_init_24 ?_
  refine V_iconst (nI 1) (by decide) dX2_init_25 ?_
  refine ci_X2_11 2 1 (3 * 1) (N_table freshk rfl (if_pos rfl) (by decide) (by decide) (by decide) (by decide)) rfl rfl ⟨by show S1.1 + 1 - sg.1 + 1 ≤ 4; omega, by show S1.2.1 + 4 - sg.2.1 + 3 * 1 ≤ 211; omega⟩ (Nat.le_of_ble_eq_true rfl) dX2_init_26 (fun r T2 J2 hq => ?_)
  obtain ⟨rfl, a1, b1, t1, k1⟩ := hq
  have hk1c : (T2.2.2.1 q).1 = 2 := by rw [(k1 q (Nat.zero_le _) (by omega)).1, kind_ne (by omega)]; exact hkS1
  show V X _ T2 J2 29 _ [rf g S1.1, rf g q]
  refine pf_X2_20 (by assumption) rfl rfl dX2_init_29 ?_
  obtain ⟨S2, hS2⟩ : ∃ S2, S2 = sgR T2 (upR T2.2.2.2 q 1 (some S1.1)) := ⟨_, rfl⟩
  rw [← hS2]
  have kr1 := kr_step (j := 1) (show q < S1.1 by omega) k1
  have tr1 := tr_step (j := 1) (show q < S1.1 by omega) t1
  rw [← hS2] at kr1 tr1
  have nS2 : S2.1 = S1.1 + 2 := by rw [hS2]; exact a1
  have uS2 : S2.2.1 = S1.2.1 + 4 + 3 * 1 := by rw [hS2]; exact b1
  have hkS2 : (S2.2.2.1 q).1 = 2 := by rw [kr1.1 q (by omega)]; exact hkS1
  refine V_vret rfl (by show S2.1 = sg.1 + 4; omega) (by show S2.2.1 = sg.2.1 + 211; omega) ?_ dX2_init_32
  have f0 := (tr0.kr kr1 (by decide) (by omega) (by omega))
  have f1 := tr1
  exact ⟨rfl, by omega, by omega, ⟨hkS2, by rw [f0.1]; exact congrArg some (by omega), by rw [f1.1]; exact congrArg some (by omega)⟩, by have h := f0.2; rw [show sg.1 = q + 1 by omega] at h; exact h, by have h := f1.2; rw [show S1.1 = q + 3 by omega] at h; exact h, (kr0.kp (by omega)).trans (kr1.kp (by omega)), (kr1.2.2.2).trans (kr0.2.2.2)⟩
theorem N_shelf {q M : Nat} (hk : (sg.2.2.1 q).1 = 0) (hn : sg.1 = q + 1) (hM : 0 < M) (hM8 : M ≤ 8) : Ct (m_X0i 4 (1 + 5 * M) (M + 65 * M)) g [rf g q, .int (nI M)] sg I (fun r0 s0 J => r0 = none ∧ s0.1 = sg.1 + (1 + 5 * M) ∧ s0.2.1 = sg.2.1 + (M + 65 * M) ∧ (ShelfK s0 q M ∧ ∀ i, i < M → WeekSh s0 J (q + 2 + 5 * i)) ∧ Keep sg s0 I J 0 q ∧ J q = I q) := by
  have hp : (2 : Nat) ^ 20 = 1048576 := by decide
  have hp31 : (2 : Nat) ^ 31 = 2147483648 := by decide
  have hnle : ¬ nI M ≤ 0 := fun z => by
    have z2 : nI M ≤ nI 0 := z
    have := (nI_leI (by omega) (by decide)).mp z2
    omega
  refine Ct.of rfl (Nat.le_of_ble_eq_true rfl) fun X => ?_
  show V X _ sg I 0 [some (rf g q), some (.int (nI M)), none] []
  obtain ⟨QQ, hQQ⟩ : ∃ QQ : Option Value → SG → IM → Prop, QQ = (fun r0 s0 J => r0 = none ∧ s0.1 = sg.1 + (1 + 5 * M) ∧ s0.2.1 = sg.2.1 + (M + 65 * M) ∧ (ShelfK s0 q M ∧ ∀ i, i < M → WeekSh s0 J (q + 2 + 5 * i)) ∧ Keep sg s0 I J 0 q ∧ J q = I q) := ⟨_, rfl⟩
  rw [← hQQ]
  have loop : ∀ (d i : Nat) (S : SG) (J : IM), M - i = d → i ≤ M → S.1 = q + 2 + 5 * i → S.2.1 = sg.2.1 + (M + 65 * i) → (S.2.2.1 q).1 = 0 → S.2.2.2 q 0 = some (q + 1) → S.2.2.1 (q + 1) = (10, M) → (∀ k, k < i → S.2.2.2 (q + 1) k = some (q + 2 + 5 * k)) → (∀ k, k < i → WeekSh S J (q + 2 + 5 * k)) → Keep sg S I J 0 q → J q = I q → V X (ZQ X QQ) S J 22 [some (rf g q), some (.int (nI M)), some (.int (nI i))] [] := by
    intro d
    induction d with
    | zero =>
      intro i S J hd hi n1 n2 k1 r1 k2 r2 w1 hK hJq
      have e : i = M := by omega
      subst e
      refine V_iload_n rfl dX0_init_22 ?_
      refine V_aload_n rfl dX0_init_23 ?_
      refine gf_X0_9 (by assumption) (by assumption) rfl dX0_init_24 ?_
      refine V_alen _ (by assumption) (by decide) (by decide) rfl dX0_init_27 ?_
      refine V_icmp_geN 50 dX0_init_28 (by decide) (by omega) (by omega) (fun h28 => ?_) (fun h28 => absurd h28 (by omega))
      refine V_vret rfl (by show S.1 = sg.1 + (1 + 5 * i); omega) (by show S.2.1 = sg.2.1 + (i + 65 * i); omega) ?_ dX0_init_50
      rw [hQQ]
      exact ⟨rfl, by omega, by omega, ⟨⟨k1, r1, k2, fun k hk => r2 k hk, hM, hM8⟩, w1⟩, hK, hJq⟩
    | succ d ih =>
      intro i S J hd hi n1 n2 k1 r1 k2 r2 w1 hK hJq
      refine V_iload_n rfl dX0_init_22 ?_
      refine V_aload_n rfl dX0_init_23 ?_
      refine gf_X0_9 (by assumption) (by assumption) rfl dX0_init_24 ?_
      refine V_alen _ (by assumption) (by decide) (by decide) rfl dX0_init_27 ?_
      refine V_icmp_geN 50 dX0_init_28 (by decide) (by omega) (by omega) (fun h28 => absurd h28 (by omega)) (fun h28 => ?_)
      refine V_aload_n rfl dX0_init_31 ?_
      refine gf_X0_9 (by assumption) (by assumption) rfl dX0_init_32 ?_
      refine V_iload_n rfl dX0_init_35 ?_
      refine V_new 4 (by decide) wk_c_X0_7 wk_i_X4 wi_X4 hdf4 ⟨by show S.1 - sg.1 + 1 ≤ 1 + 5 * M; omega, by show S.2.1 - sg.2.1 + 4 ≤ M + 65 * M; omega⟩ dX0_init_36 ?_
      refine V_dup rfl dX0_init_39 ?_
      refine ci_X0_15 3 4 61 (N_week freshk rfl) rfl rfl ⟨by show S.1 + 1 - sg.1 + 4 ≤ 1 + 5 * M; omega, by show S.2.1 + 4 - sg.2.1 + 61 ≤ M + 65 * M; omega⟩ (Nat.le_of_ble_eq_true rfl) dX0_init_40 (fun r T1 J1 hq => ?_)
      obtain ⟨rfl, a0, b0, t0, c0, -⟩ := hq
      have hKN := (keepN (S := S) (J := J) (u := kN 4) (s := (4, 0))).trans c0
      have kq1 : T1.2.2.1 (q + 1) = (10, M) := (hKN (q + 1) (Nat.zero_le _) (by omega)).1.trans k2
      have kw : (T1.2.2.1 S.1).1 = 4 := t0.1.1
      show V X _ T1 J1 43 _ [rf g S.1, .int (nI i), rf g (q + 1)]
      refine V_aast i kq1 rfl (by omega) (by omega) kw dX0_init_43 ?_
      refine V_iinc2_ _ (nI_inc _) rfl rfl dX0_init_44 ?_
      refine V_goto 22 dX0_init_47 (by decide) ?_
      have a0 : T1.1 = S.1 + 1 + 4 := a0
      have b0 : T1.2.1 = S.2.1 + 4 + 61 := b0
      have hKe : Keep S (sgR T1 (upR T1.2.2.2 (q + 1) i (some S.1))) J J1 (q + 2) S.1 := (hKN.sub (Nat.zero_le _) (Nat.le_refl _)).trans (keepR (Or.inl (by omega)))
      refine ih (i + 1) _ J1 (by omega) (by omega) (by show T1.1 = _; omega) (by show T1.2.1 = _; omega) ?_ ?_ kq1 (fun k hk => ?_) (fun k hk => ?_) ?_ ?_
      · show (T1.2.2.1 q).1 = 0
        rw [(hKN q (Nat.zero_le _) (by omega)).1]; exact k1
      · show upR T1.2.2.2 (q + 1) i (some S.1) q 0 = _
        rw [upR_ne (Or.inl (by omega)), (hKN q (Nat.zero_le _) (by omega)).2.1]; exact r1
      · show upR T1.2.2.2 (q + 1) i (some S.1) (q + 1) k = _
        by_cases c : k = i
        · rw [c, upR_eq, n1]
        · rw [upR_ne (Or.inr c), (hKN (q + 1) (Nat.zero_le _) (by omega)).2.1]; exact r2 k (by omega)
      · by_cases c : k = i
        · rw [c, ← n1]
          exact t0.kp (keepR (lo := S.1) (hi := S.1 + 5) (Or.inl (by omega))) (Nat.le_refl _) (Nat.le_refl _)
        · exact (w1 k (by omega)).kp hKe (by omega) (by omega)
      · exact (hK.trans (hKN.sub (Nat.zero_le _) (by omega))).trans (keepR (Or.inr (by omega)))
      · exact ((hKN q (Nat.zero_le _) (by omega)).2.2).trans hJq
  refine V_aload_n rfl dX0_init_0 ?_
  refine V_objInit wl_X0_1 ws_obj wc_obj (Nat.le_of_ble_eq_true rfl) (Nat.le_of_ble_eq_true rfl) dX0_init_1 ?_
  refine V_aload_n rfl dX0_init_4 ?_
  refine V_iload_n rfl dX0_init_5 ?_
  refine V_if_le 13 dX0_init_6 (by decide) (fun h => absurd h hnle) (fun _ => ?_)
  refine V_iload_n rfl dX0_init_9 ?_
  refine V_goto 14 dX0_init_10 (by decide) ?_
  refine V_newq M wk_c_X0_7 rfl (by omega) ⟨by show sg.1 - sg.1 + 1 ≤ 1 + 5 * M; omega, by show sg.2.1 - sg.2.1 + M ≤ M + 65 * M; omega⟩ dX0_init_14 ?_
  obtain ⟨S1, hS1⟩ : ∃ S1, S1 = sgN sg M (10, M) := ⟨_, rfl⟩
  rw [← hS1]
  have hk1 : (S1.2.2.1 q).1 = 0 := by rw [hS1, kind_ne (by omega)]; exact hk
  refine pf_X0_9 (by assumption) rfl rfl dX0_init_17 ?_
  refine V_iconst (nI 0) (by decide) dX0_init_20 ?_
  refine V_ist2 rfl rfl dX0_init_21 ?_
  have n1 : S1.1 = sg.1 + 1 := by rw [hS1]; rfl
  have n2 : S1.2.1 = sg.2.1 + M := by rw [hS1]; rfl
  refine loop M 0 _ _ rfl (Nat.zero_le _) (by show S1.1 = _; omega) (by show S1.2.1 = _; omega) hk1 ?_ ?_ (fun k hk => absurd hk (Nat.not_lt_zero k)) (fun k hk => absurd hk (Nat.not_lt_zero k)) ?_ (im_ne (by omega))
  · show upR S1.2.2.2 q 0 (some sg.1) q 0 = _
    rw [upR_eq, hn]
  · show S1.2.2.1 (q + 1) = _
    rw [hS1, ← hn]; exact fresh1
  · rw [hS1]
    exact (keepN.sub (Nat.zero_le _) (by omega)).trans (keepR (Or.inr (Nat.le_refl _)))
end CNEW
