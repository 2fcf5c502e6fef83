/-! CarvedWeeksModel: stand -/
theorem cnt_none (n : Nat) : cnt n (fun _ => false) = 0 := by
  induction n with
  | zero => rfl
  | succ n ih => rw [cnt_succ, ih]; rfl
theorem cnt_one {p p' : Nat → Bool} {a : Nat} : ∀ {N : Nat}, a < N → (∀ i, i < N → i ≠ a → p' i = p i) → p a = false → p' a = true → cnt N p' = cnt N p + 1
  | 0, h, _, _, _ => absurd h (Nat.not_lt_zero a)
  | N + 1, h, he, h1, h2 => by
    rw [cnt_succ, cnt_succ]
    by_cases e : a = N
    · subst e
      rw [h1, h2, cnt_congr (fun i hi => he i (by omega) (by omega))]; rfl
    · rw [cnt_one (N := N) (by omega) (fun i hi hn => he i (by omega) hn) h1 h2, he N (by omega) (by omega)]
      omega
theorem cnt_img (f : Nat → Nat) (q : Nat → Bool) (N : Nat) : ∀ n, (∀ i, i < n → f i < N) → cnt N (fun s => q s && anyB n (fun i => decide (f i = s))) = cnt n (fun k => q (f k) && !anyB k (fun i => decide (f i = f k)))
  | 0, _ => by
    rw [cnt_congr (q := fun _ => false) (fun i _ => by show (q i && false) = false; exact Bool.and_false _)]
    exact cnt_none N
  | n + 1, h => by
    rw [cnt_succ, ← cnt_img f q N n (fun i hi => h i (by omega))]
    have hs : ∀ s, anyB (n + 1) (fun i => decide (f i = s)) = (anyB n (fun i => decide (f i = s)) || decide (f n = s)) := fun s => anyB_succ _ _
    cases c : anyB n (fun i => decide (f i = f n)) with
    | true =>
      rw [Bool.not_true, Bool.and_false]
      refine cnt_congr (fun s _ => ?_)
      rw [hs]
      by_cases e : f n = s
      · subst e; rw [c]; rfl
      · rw [decide_eq_false e, Bool.or_false]
    | false =>
      rw [Bool.not_false, Bool.and_true]
      cases hq : q (f n) with
      | true =>
        refine cnt_one (a := f n) (h n (by omega)) (fun s _ e => ?_) ?_ ?_
        · rw [hs, decide_eq_false (fun z => e z.symm), Bool.or_false]
        · rw [c, Bool.and_false]
        · rw [hs, hq, decide_eq_true rfl, Bool.or_true]; rfl
      | false =>
        refine cnt_congr (fun s _ => ?_)
        rw [hs]
        by_cases e : f n = s
        · subst e; rw [hq]; rfl
        · rw [decide_eq_false e, Bool.or_false]
theorem cnt_same {p q : Nat → Bool} : ∀ {n : Nat}, (∀ i, i < n → p i = true → q i = true) → cnt n p = cnt n q → ∀ i, i < n → p i = q i
  | 0, _, _, i, hi => absurd hi (Nat.not_lt_zero i)
  | n + 1, h, e, i, hi => by
    rw [cnt_succ, cnt_succ] at e
    have h1 := cnt_le_of (p := p) (q := q) (n := n) (fun j hj => h j (by omega))
    have h2 := h n (by omega)
    have h3 : p n = q n ∧ cnt n p = cnt n q := by
      cases hp : p n <;> cases hq : q n
      · rw [hp, hq] at e; exact ⟨rfl, by simpa using e⟩
      · exfalso; rw [hp, hq] at e; simp at e; omega
      · rw [h2 hp] at hq; cases hq
      · rw [hp, hq] at e; exact ⟨rfl, by simpa using e⟩
    by_cases c : i = n
    · rw [c]; exact h3.1
    · exact cnt_same (fun j hj => h j (by omega)) h3.2 i (by omega)
theorem pc_sub {s t : Nat} (h : ∀ i, s.testBit i = true → t.testBit i = true) : pc16 s ≤ pc16 t := by
  show pcN 16 s ≤ pcN 16 t
  rw [pcN_cnt, pcN_cnt]; exact cnt_le_of (fun i _ => h i)
theorem pc_eq {s t : Nat} (hs : s < 2 ^ 16) (ht : t < 2 ^ 16) (h : ∀ i, s.testBit i = true → t.testBit i = true) (e : pc16 s = pc16 t) : s = t := by
  have e2 : pcN 16 s = pcN 16 t := e
  rw [pcN_cnt, pcN_cnt] at e2
  have h3 := cnt_same (fun i _ => h i) e2
  apply Nat.eq_of_testBit_eq
  intro i
  rcases Nat.lt_or_ge i 16 with z | z
  · exact h3 i z
  · rw [Nat.testBit_lt_two_pow (Nat.lt_of_lt_of_le hs (Nat.pow_le_pow_right (by decide) z)), Nat.testBit_lt_two_pow (Nat.lt_of_lt_of_le ht (Nat.pow_le_pow_right (by decide) z))]
theorem sy_sat {tv : TV} {W : WV} {set w : Nat} (hm : MKok tv (wM W) (wK W)) (h8 : tF tv ≤ 8) : sat (syN tv W set) w = true ↔ ∀ m, m < (wM W).1 → set.testBit m = true → so ((wM W).2 m 0) w = true := by
  unfold sat
  rw [allB_iff]
  constructor
  · intro h m hmn hb
    have hv := (hm.2.1 m hmn).1
    have h1 := h ((wM W).2 m 0) (by omega)
    have h2 : (syN tv W set).testBit ((wM W).2 m 0) = true := by
      unfold syN
      rw [bm_bit, decide_eq_true hv, Bool.true_and]
      exact anyB_iff.mpr ⟨m, hmn, by rw [hb, decide_eq_true rfl]; rfl⟩
    rw [h2] at h1; simpa using h1
  · intro h v hv
    cases hb : (syN tv W set).testBit v with
    | false => rfl
    | true =>
      unfold syN at hb
      rw [bm_bit, Bool.and_eq_true] at hb
      obtain ⟨m, hmn, h2⟩ := anyB_iff.mp hb.2
      rw [Bool.and_eq_true, decide_eq_true_eq] at h2
      have h3 := h m hmn h2.1
      rw [h2.2] at h3
      rw [h3]; rfl
theorem ms_bit {W : WV} {w m : Nat} : (msN W w).testBit m = (decide (m < (wM W).1) && so ((wM W).2 m 0) w) := bm_bit _ _ _
theorem ps_iff {tv : TV} {W : WV} {s : Nat} (hm : MKok tv (wM W) (wK W)) (h8 : tF tv ≤ 8) (hs : s < 2 ^ (wM W).1) : anyW tv (syN tv W s) = true ↔ ∃ i, i < nw' tv ∧ ∀ m, s.testBit m = true → (msN W (wl tv i)).testBit m = true := by
  unfold anyW
  rw [anyB_iff]
  constructor
  · rintro ⟨i, hi, h⟩
    refine ⟨i, hi, fun m hb => ?_⟩
    have hmn : m < (wM W).1 := by
      rcases Nat.lt_or_ge m (wM W).1 with z | z
      · exact z
      · rw [Nat.testBit_lt_two_pow (Nat.lt_of_lt_of_le hs (Nat.pow_le_pow_right (by decide) z))] at hb; cases hb
    rw [ms_bit, decide_eq_true hmn, (sy_sat hm h8).mp h m hmn hb]; rfl
  · rintro ⟨i, hi, h⟩
    refine ⟨i, hi, (sy_sat hm h8).mpr (fun m hmn hb => ?_)⟩
    have h1 := h m hb
    rw [ms_bit, Bool.and_eq_true] at h1
    exact h1.2
/-- the sets of marks in their order: the most that can be so, how many have so many -/
def stM (p : Nat → Bool) : Nat → Nat × Nat
  | 0 => (0, 0)
  | k + 1 => if p k && decide ((stM p k).1 ≤ pc16 k) then (pc16 k, if (stM p k).1 < pc16 k then 1 else (stM p k).2 + 1) else stM p k
theorem stM_succ (p : Nat → Bool) (k : Nat) : stM p (k + 1) = if p k && decide ((stM p k).1 ≤ pc16 k) then (pc16 k, if (stM p k).1 < pc16 k then 1 else (stM p k).2 + 1) else stM p k := rfl
theorem stM_spec (p : Nat → Bool) : ∀ k, (∀ s, s < k → p s = true → pc16 s ≤ (stM p k).1) ∧ (stM p k).2 = cnt k (fun s => p s && decide (pc16 s = (stM p k).1)) ∧ ((stM p k).1 = 0 ∨ ∃ s, s < k ∧ p s = true ∧ pc16 s = (stM p k).1)
  | 0 => ⟨fun s hs => absurd hs (Nat.not_lt_zero s), rfl, Or.inl rfl⟩
  | k + 1 => by
    obtain ⟨h1, h2, h3⟩ := stM_spec p k
    rw [stM_succ]
    by_cases c : (p k && decide ((stM p k).1 ≤ pc16 k)) = true
    · rw [if_pos c]
      rw [Bool.and_eq_true, decide_eq_true_eq] at c
      obtain ⟨c1, c2⟩ := c
      refine ⟨fun s hs hp => ?_, ?_, Or.inr ⟨k, by omega, c1, rfl⟩⟩
      · show pc16 s ≤ pc16 k
        by_cases e : s = k
        · rw [e]; exact Nat.le_refl _
        · exact Nat.le_trans (h1 s (by omega) hp) c2
      · show (if (stM p k).1 < pc16 k then 1 else (stM p k).2 + 1) = cnt (k + 1) (fun s => p s && decide (pc16 s = pc16 k))
        rw [cnt_succ, c1, decide_eq_true rfl]
        by_cases e : (stM p k).1 < pc16 k
        · rw [if_pos e]
          rw [cnt_congr (q := fun _ => false) (fun s hs => by
            cases hp : p s with
            | false => rfl
            | true => have := h1 s hs hp; show (true && decide (pc16 s = pc16 k)) = false; rw [decide_eq_false (by omega)]; rfl), cnt_none]
          rfl
        · have e2 : (stM p k).1 = pc16 k := by omega
          rw [if_neg e, h2, e2]; rfl
    · rw [if_neg c]
      rw [Bool.and_eq_true, decide_eq_true_eq] at c
      refine ⟨fun s hs hp => ?_, ?_, h3.imp id (fun ⟨s, a, b⟩ => ⟨s, by omega, b⟩)⟩
      · by_cases e : s = k
        · subst e
          rcases Nat.lt_or_ge (pc16 s) (stM p s).1 with z | z
          · omega
          · exact absurd ⟨hp, z⟩ c
        · exact h1 s (by omega) hp
      · rw [cnt_succ, ← h2]
        cases hp : p k with
        | false => rfl
        | true =>
          rw [decide_eq_false (fun z => c ⟨hp, by omega⟩)]; rfl
theorem mst_ge {tv : TV} {W : WV} : ∀ {n i : Nat}, i < n → pc16 (msN W (wl tv i)) ≤ mstN tv W n
  | 0, i, h => absurd h (Nat.not_lt_zero i)
  | n + 1, i, h => by
    unfold mstN
    by_cases e : i = n
    · rw [e]; exact Nat.le_max_right _ _
    · exact Nat.le_trans (mst_ge (n := n) (by omega)) (Nat.le_max_left _ _)
theorem mst_at {tv : TV} {W : WV} : ∀ {n : Nat}, 0 < n → ∃ i, i < n ∧ pc16 (msN W (wl tv i)) = mstN tv W n
  | 0, h => absurd h (Nat.lt_irrefl 0)
  | n + 1, _ => by
    rcases Nat.lt_or_ge (mstN tv W n) (pc16 (msN W (wl tv n))) with z | z
    · exact ⟨n, by omega, by unfold mstN; rw [Nat.max_eq_right (by omega)]⟩
    · rcases Nat.eq_zero_or_pos n with h | h
      · subst h
        exact ⟨0, by omega, by unfold mstN; unfold mstN at z ⊢; omega⟩
      · obtain ⟨i, hi, e⟩ := mst_at (tv := tv) (W := W) h
        exact ⟨i, by omega, by unfold mstN; rw [Nat.max_eq_left z]; exact e⟩
theorem st_eq {tv : TV} {W : WV} (hm : MKok tv (wM W) (wK W)) (h8 : tF tv ≤ 8) (hw : 0 < nw' tv) : stM (fun s => anyW tv (syN tv W s)) (2 ^ (wM W).1) = (mstN tv W (nw' tv), stsN tv W (mstN tv W (nw' tv))) := by
  have hn := hm.1
  obtain ⟨h1, h2, h3⟩ := stM_spec (fun s => anyW tv (syN tv W s)) (2 ^ (wM W).1)
  have hp2 : 2 ^ (wM W).1 ≤ 2 ^ 16 := Nat.pow_le_pow_right (by decide) (by omega)
  have hms : ∀ i, msN W (wl tv i) < 2 ^ (wM W).1 := fun i => bm_lt _ _
  have hpm : ∀ i, i < nw' tv → anyW tv (syN tv W (msN W (wl tv i))) = true := fun i hi => (ps_iff hm h8 (hms i)).mpr ⟨i, hi, fun _ h => h⟩
  have hle : ∀ s, s < 2 ^ (wM W).1 → anyW tv (syN tv W s) = true → pc16 s ≤ mstN tv W (nw' tv) := fun s hs hp => by
    obtain ⟨i, hi, h⟩ := (ps_iff hm h8 hs).mp hp
    exact Nat.le_trans (pc_sub h) (mst_ge hi)
  have e1 : (stM (fun s => anyW tv (syN tv W s)) (2 ^ (wM W).1)).1 = mstN tv W (nw' tv) := by
    apply Nat.le_antisymm
    · rcases h3 with z | ⟨s, a, b, e⟩
      · rw [z]; exact Nat.zero_le _
      · rw [← e]; exact hle s a b
    · obtain ⟨i, hi, e⟩ := mst_at (tv := tv) (W := W) hw
      rw [← e]; exact h1 _ (hms i) (hpm i hi)
  refine Prod.ext e1 ?_
  show (stM (fun s => anyW tv (syN tv W s)) (2 ^ (wM W).1)).2 = stsN tv W (mstN tv W (nw' tv))
  rw [h2, e1]
  have h9 := cnt_img (fun i => msN W (wl tv i)) (fun s => decide (pc16 s = mstN tv W (nw' tv))) (2 ^ (wM W).1) (nw' tv) (fun i _ => hms i)
  show _ = cnt (nw' tv) (fun k => decide (pc16 (msN W (wl tv k)) = mstN tv W (nw' tv)) && !anyB k (fun i => decide (msN W (wl tv i) = msN W (wl tv k))))
  rw [← h9]
  refine cnt_congr (fun s hs => ?_)
  apply Bool.eq_iff_iff.mpr
  rw [Bool.and_eq_true, Bool.and_eq_true, decide_eq_true_eq, anyB_iff]
  constructor
  · rintro ⟨a, b⟩
    obtain ⟨i, hi, h⟩ := (ps_iff hm h8 hs).mp a
    refine ⟨b, i, hi, decide_eq_true ?_⟩
    have := mst_ge (tv := tv) (W := W) hi
    have h4 := pc_sub h
    exact (pc_eq (by omega) (Nat.lt_of_lt_of_le (hms i) hp2) h (by omega)).symm
  · rintro ⟨b, i, hi, h⟩
    rw [decide_eq_true_eq] at h
    subst h
    exact ⟨hpm i hi, b⟩
section MSTAND
variable {g : GC} {sg : SG} {I : IM} {x : XV} {tv : TV} {W : WV} {P K : SV} {np : Nat}
theorem D_stand {w : Int32} (hM : MSt sg I x tv W P K) (hS : STok x tv W P K) : Ct m_X6_stand g [rf g 92, .int w] sg I (knQ sg I (fStand tv W w)) := by
  obtain ⟨hX0, hok, hnp, hns, ⟨hWok, hwk⟩, hPok, hKok⟩ := hS
  obtain ⟨hK, ⟨mlen, mtx⟩, hT, hW, mkept, mKs, mdone, mPs⟩ := hM
  have hK0 := hK
  have hT0 := hT
  have hW0 := hW
  obtain ⟨m0, mR1, mR3, mR4, mR5, mR6, mR7, mR8, mR10, mR16, mR17, mA93, mA94, mA95, mA96, mA97, mA98, mA99, mA100, mA101, mA102⟩ := hK
  obtain ⟨mF, mnL, mnP, mnS, mnB, mL, mP, mS, mB, mWd, mnw⟩ := hT
  have hF1 := hok.1
  have hF8 := hok.2.1
  have h256 := p2_le8 hF8
  have h16 := p2_le16 hF8
  have nL10 := hok.2.2.2.2.2.2.2.1
  have nP5 := hok.2.2.2.2.2.2.2.2.1
  have nS5 := hok.2.2.2.2.2.2.2.2.2.1
  have nB6 := hok.2.2.2.2.2.2.2.2.2.2
  have hmk := hWok.2.2.2.1
  have hn12 := hmk.1
  have htr := hWok.1
  have hnw := nw_le hF8
  have hnw0 := nw_pos hWok
  obtain ⟨wT0, wK0, wM0, wH0, wC0⟩ := id hW
  have hp2 : 2 ^ (wM W).1 ≤ 2 ^ 12 := Nat.pow_le_pow_right (by decide) hn12
  obtain ⟨p, hp⟩ : ∃ p : Nat → Bool, p = fun s => anyW tv (syN tv W s) := ⟨_, rfl⟩
  have hst := st_eq hmk hF8 hnw0
  rw [← hp] at hst
  have hl16 : ∀ k, (stM p k).1 ≤ 16 := fun k => by
    rcases (stM_spec p k).2.2 with z | ⟨s, a, b, e⟩
    · omega
    · rw [← e]; exact pcN_le 16 _
  refine Ct.of rfl (Nat.le_of_ble_eq_true rfl) fun X => ?_
  show V X _ sg I 0 [some (rf g 92), some (.int w), none, none, none, none] []
  have loop : ∀ q, q < 2 → w = nI q → ∀ (d k : Nat) (J : IM) (z : Option Value), 2 ^ (wM W).1 - k = d → k ≤ 2 ^ (wM W).1 → knF I J → V X (ZQ X (knQ sg I (fStand tv W w))) sg J 19 [some (rf g 92), some (.int (nI q)), some (.int (nI (stM p k).1)), some (.int (nI (stM p k).2)), some (.int (nI k)), z] [] := by
    intro q hq ew d
    have hff : fStand tv W w = if q = 0 then nI (stM p (2 ^ (wM W).1)).1 else nI (stM p (2 ^ (wM W).1)).2 := by
      rw [hst]; unfold fStand; rw [ifb_pos hq (by decide) ew]
    induction d with
    | zero =>
      intro k J z hd hkn hf
      have e : k = 2 ^ (wM W).1 := by omega
      subst e
      have hW1 := hW0.kn hf
      refine V_iload rfl dX6_stand_19 ?_
      refine V_iconst (nI 1) (by decide) dX6_stand_21 ?_
      refine V_aload_n rfl dX6_stand_22 ?_
      refine gf_X6_33 (by assumption) (by assumption) rfl dX6_stand_23 ?_
      refine V_iconst (nI 2) (by decide) dX6_stand_26 ?_
      refine V_iald _ (by assumption) rfl (by omega) (by omega) dX6_stand_27 ?_
      refine V_topi (hW1.2.2.1) ?_
      refine V_ishl1N (by omega) dX6_stand_28 ?_
      refine V_icmp_geN 100 dX6_stand_29 (by decide) (by omega) (by omega) (fun h29 => ?_) (fun h29 => absurd h29 (by omega))
      refine V_iload_n rfl dX6_stand_100 ?_
      refine V_if_neN 108 dX6_stand_101 (by decide) (by omega) (fun h101 => ?_) (fun h101 => ?_)
      · skip
        refine V_iload_n rfl dX6_stand_108 ?_
        refine V_iret rfl rfl rfl ?_ dX6_stand_109
        exact ⟨by rw [hff]; first | rw [if_pos h101] | rw [if_neg h101], rfl, hf⟩
      · skip
        refine V_iload_n rfl dX6_stand_104 ?_
        refine V_goto 109 dX6_stand_105 (by decide) ?_
        refine V_iret rfl rfl rfl ?_ dX6_stand_109
        exact ⟨by rw [hff]; first | rw [if_pos h101] | rw [if_neg h101], rfl, hf⟩
    | succ d ih =>
      intro k J z hd hkn hf
      have hW1 := hW0.kn hf
      have hT1 := hT0.kn hf
      have hsl : syN tv W k < 65536 := Nat.lt_of_lt_of_le sy_lt h16
      have hih := fun J z hf => ih (k + 1) J z (by omega) (by omega) hf
      have hpk : p k = anyW tv (syN tv W k) := by rw [hp]
      have hc1 : pc16 k ≤ 16 := pcN_le 16 _
      have hc2 := hl16 k
      rw [stM_succ] at hih
      refine V_iload rfl dX6_stand_19 ?_
      refine V_iconst (nI 1) (by decide) dX6_stand_21 ?_
      refine V_aload_n rfl dX6_stand_22 ?_
      refine gf_X6_33 (by assumption) (by assumption) rfl dX6_stand_23 ?_
      refine V_iconst (nI 2) (by decide) dX6_stand_26 ?_
      refine V_iald _ (by assumption) rfl (by omega) (by omega) dX6_stand_27 ?_
      refine V_topi (hW1.2.2.1) ?_
      refine V_ishl1N (by omega) dX6_stand_28 ?_
      refine V_icmp_geN 100 dX6_stand_29 (by decide) (by omega) (by omega) (fun h29 => absurd h29 (by omega)) (fun h29 => ?_)
      refine V_iload rfl dX6_stand_32 ?_
      refine cf_X6_149 (D_many (by omega)) rfl rfl ft0 (Nat.le_of_ble_eq_true rfl) dX6_stand_34 ?_
      refine V_ist5 rfl rfl dX6_stand_37 ?_
      refine V_iload rfl dX6_stand_39 ?_
      refine V_iload_n rfl dX6_stand_41 ?_
      refine V_icmp_ltN 94 dX6_stand_42 (by decide) (by omega) (by omega) (fun h42 => ?_) (fun h42 => ?_)
      · skip
        refine V_iinc4_ _ (nI_inc _) rfl rfl dX6_stand_94 ?_
        refine V_goto 19 dX6_stand_97 (by decide) ?_
        first
        | (exfalso; first | exact h59 h84 | exact h84 h59)
        | (have h9 := fun z => hih J z hf; rw [if_neg (by rw [decide_eq_false (by omega), Bool.and_false]; decide)] at h9; exact h9 _)
        | (rw [if_neg (by rw [hpk]; simp [h59])] at h9; exact h9 _)
        | (rw [if_pos (by rw [hpk, h59, decide_eq_true (by omega)]; rfl), if_neg (by omega)] at h9; exact h9 _)
        | (rw [if_pos (by rw [hpk, h59, decide_eq_true (by omega)]; rfl), if_pos (by omega)] at h9; exact h9 _)
      · skip
        refine V_aload_n rfl dX6_stand_45 ?_
        refine V_aload_n rfl dX6_stand_46 ?_
        refine V_iload rfl dX6_stand_47 ?_
        refine cf_X6_224 (D_says hK0 hok hW1 hmk (by omega)) (by assumption) rfl rfl ft0 (Nat.le_of_ble_eq_true rfl) dX6_stand_49 ?_
        refine cl_X6_196 (D_knows hK0 hT1 hok hsl) (by assumption) rfl rfl ft0 (Nat.le_of_ble_eq_true rfl) dX6_stand_52 (fun rr s9 J1 hq2 => ?_)
        have hkn2 := hf.trans (kw_kn hq2)
        obtain ⟨rfl, hs, q13, -⟩ := id hq2
        have hs := hs.symm
        subst hs
        show V X _ sg J1 55 _ []
        have h9 := fun z => hih J1 z hkn2
        refine V_aload_n rfl dX6_stand_55 ?_
        refine gfe_X6_174 (by assumption) (by assumption) rfl dX6_stand_56 ?_
        refine V_if_neB 66 dX6_stand_59 (by decide) (fun h59 => ?_) (fun h59 => ?_)
        · skip
          refine V_iload rfl dX6_stand_66 ?_
          refine V_iload_n rfl dX6_stand_68 ?_
          refine V_icmp_leN 76 dX6_stand_69 (by decide) (by omega) (by omega) (fun h69 => ?_) (fun h69 => ?_)
          · skip
            refine V_iload_n rfl dX6_stand_76 ?_
            refine V_iconst (nI 1) (by decide) dX6_stand_77 ?_
            refine V_iaddN dX6_stand_78 ?_
            refine V_ist3 rfl rfl dX6_stand_79 ?_
            refine V_aload_n rfl dX6_stand_80 ?_
            refine gfe_X6_174 (by assumption) (by assumption) rfl dX6_stand_81 ?_
            refine V_if_eqB 92 dX6_stand_84 (by decide) (fun h84 => ?_) (fun h84 => ?_)
            · skip
              refine V_iload_n rfl dX6_stand_92 ?_
              refine V_ist2 rfl rfl dX6_stand_93 ?_
              refine V_iinc4_ _ (nI_inc _) rfl rfl dX6_stand_94 ?_
              refine V_goto 19 dX6_stand_97 (by decide) ?_
              first
              | (exfalso; first | exact h59 h84 | exact h84 h59)
              | (have h9 := fun z => hih J z hf; rw [if_neg (by rw [decide_eq_false (by omega), Bool.and_false]; decide)] at h9; exact h9 _)
              | (rw [if_neg (by rw [hpk]; simp [h59])] at h9; exact h9 _)
              | (rw [if_pos (by rw [hpk, h59, decide_eq_true (by omega)]; rfl), if_neg (by omega)] at h9; exact h9 _)
              | (rw [if_pos (by rw [hpk, h59, decide_eq_true (by omega)]; rfl), if_pos (by omega)] at h9; exact h9 _)
            · skip
              refine V_iload rfl dX6_stand_87 ?_
              refine V_goto 93 dX6_stand_89 (by decide) ?_
              refine V_ist2 rfl rfl dX6_stand_93 ?_
              refine V_iinc4_ _ (nI_inc _) rfl rfl dX6_stand_94 ?_
              refine V_goto 19 dX6_stand_97 (by decide) ?_
              first
              | (exfalso; first | exact h59 h84 | exact h84 h59)
              | (have h9 := fun z => hih J z hf; rw [if_neg (by rw [decide_eq_false (by omega), Bool.and_false]; decide)] at h9; exact h9 _)
              | (rw [if_neg (by rw [hpk]; simp [h59])] at h9; exact h9 _)
              | (rw [if_pos (by rw [hpk, h59, decide_eq_true (by omega)]; rfl), if_neg (by omega)] at h9; exact h9 _)
              | (rw [if_pos (by rw [hpk, h59, decide_eq_true (by omega)]; rfl), if_pos (by omega)] at h9; exact h9 _)
          · skip
            refine V_iconst (nI 1) (by decide) dX6_stand_72 ?_
            refine V_goto 79 dX6_stand_73 (by decide) ?_
            refine V_ist3 rfl rfl dX6_stand_79 ?_
            refine V_aload_n rfl dX6_stand_80 ?_
            refine gfe_X6_174 (by assumption) (by assumption) rfl dX6_stand_81 ?_
            refine V_if_eqB 92 dX6_stand_84 (by decide) (fun h84 => ?_) (fun h84 => ?_)
            · skip
              refine V_iload_n rfl dX6_stand_92 ?_
              refine V_ist2 rfl rfl dX6_stand_93 ?_
              refine V_iinc4_ _ (nI_inc _) rfl rfl dX6_stand_94 ?_
              refine V_goto 19 dX6_stand_97 (by decide) ?_
              first
              | (exfalso; first | exact h59 h84 | exact h84 h59)
              | (have h9 := fun z => hih J z hf; rw [if_neg (by rw [decide_eq_false (by omega), Bool.and_false]; decide)] at h9; exact h9 _)
              | (rw [if_neg (by rw [hpk]; simp [h59])] at h9; exact h9 _)
              | (rw [if_pos (by rw [hpk, h59, decide_eq_true (by omega)]; rfl), if_neg (by omega)] at h9; exact h9 _)
              | (rw [if_pos (by rw [hpk, h59, decide_eq_true (by omega)]; rfl), if_pos (by omega)] at h9; exact h9 _)
            · skip
              refine V_iload rfl dX6_stand_87 ?_
              refine V_goto 93 dX6_stand_89 (by decide) ?_
              refine V_ist2 rfl rfl dX6_stand_93 ?_
              refine V_iinc4_ _ (nI_inc _) rfl rfl dX6_stand_94 ?_
              refine V_goto 19 dX6_stand_97 (by decide) ?_
              first
              | (exfalso; first | exact h59 h84 | exact h84 h59)
              | (have h9 := fun z => hih J z hf; rw [if_neg (by rw [decide_eq_false (by omega), Bool.and_false]; decide)] at h9; exact h9 _)
              | (rw [if_neg (by rw [hpk]; simp [h59])] at h9; exact h9 _)
              | (rw [if_pos (by rw [hpk, h59, decide_eq_true (by omega)]; rfl), if_neg (by omega)] at h9; exact h9 _)
              | (rw [if_pos (by rw [hpk, h59, decide_eq_true (by omega)]; rfl), if_pos (by omega)] at h9; exact h9 _)
        · skip
          refine V_iload_n rfl dX6_stand_62 ?_
          refine V_goto 79 dX6_stand_63 (by decide) ?_
          refine V_ist3 rfl rfl dX6_stand_79 ?_
          refine V_aload_n rfl dX6_stand_80 ?_
          refine gfe_X6_174 (by assumption) (by assumption) rfl dX6_stand_81 ?_
          refine V_if_eqB 92 dX6_stand_84 (by decide) (fun h84 => ?_) (fun h84 => ?_)
          · skip
            refine V_iload_n rfl dX6_stand_92 ?_
            refine V_ist2 rfl rfl dX6_stand_93 ?_
            refine V_iinc4_ _ (nI_inc _) rfl rfl dX6_stand_94 ?_
            refine V_goto 19 dX6_stand_97 (by decide) ?_
            first
            | (exfalso; first | exact h59 h84 | exact h84 h59)
            | (have h9 := fun z => hih J z hf; rw [if_neg (by rw [decide_eq_false (by omega), Bool.and_false]; decide)] at h9; exact h9 _)
            | (rw [if_neg (by rw [hpk]; simp [h59])] at h9; exact h9 _)
            | (rw [if_pos (by rw [hpk, h59, decide_eq_true (by omega)]; rfl), if_neg (by omega)] at h9; exact h9 _)
            | (rw [if_pos (by rw [hpk, h59, decide_eq_true (by omega)]; rfl), if_pos (by omega)] at h9; exact h9 _)
          · skip
            refine V_iload rfl dX6_stand_87 ?_
            refine V_goto 93 dX6_stand_89 (by decide) ?_
            refine V_ist2 rfl rfl dX6_stand_93 ?_
            refine V_iinc4_ _ (nI_inc _) rfl rfl dX6_stand_94 ?_
            refine V_goto 19 dX6_stand_97 (by decide) ?_
            first
            | (exfalso; first | exact h59 h84 | exact h84 h59)
            | (have h9 := fun z => hih J z hf; rw [if_neg (by rw [decide_eq_false (by omega), Bool.and_false]; decide)] at h9; exact h9 _)
            | (rw [if_neg (by rw [hpk]; simp [h59])] at h9; exact h9 _)
            | (rw [if_pos (by rw [hpk, h59, decide_eq_true (by omega)]; rfl), if_neg (by omega)] at h9; exact h9 _)
            | (rw [if_pos (by rw [hpk, h59, decide_eq_true (by omega)]; rfl), if_pos (by omega)] at h9; exact h9 _)
  refine V_iload_n rfl dX6_stand_0 ?_
  refine V_i2l dX6_stand_1 ?_
  refine V_lconst (lN 0) rfl dX6_stand_2 ?_
  refine V_lconst (lN 1) rfl dX6_stand_3 ?_
  refine cf_X6_52 (C_in0k (k := 1) (by decide)) rfl rfl ft0 (Nat.le_of_ble_eq_true rfl) dX6_stand_4 ?_
  refine V_if_neB 12 dX6_stand_7 (by decide) (fun h7 => ?_) (fun h7 => ?_)
  · skip
    refine V_iconst (nI 0) (by decide) dX6_stand_12 ?_
    refine V_ist2 rfl rfl dX6_stand_13 ?_
    refine V_iconst (nI 0) (by decide) dX6_stand_14 ?_
    refine V_ist3 rfl rfl dX6_stand_15 ?_
    refine V_iconst (nI 0) (by decide) dX6_stand_16 ?_
    refine V_ist4 rfl rfl dX6_stand_17 ?_
    obtain ⟨q, hq, rfl⟩ := bel_ex (by decide) h7
    exact loop q hq rfl (2 ^ (wM W).1) 0 I _ rfl (Nat.zero_le _) knF.refl
  · skip
    refine V_iconst (-1) (by decide) dX6_stand_10 ?_
    refine V_iret rfl rfl rfl ?_ dX6_stand_11
    exact ⟨by unfold fStand; rw [ifb_neg h7], rfl, knF.refl⟩
end MSTAND
