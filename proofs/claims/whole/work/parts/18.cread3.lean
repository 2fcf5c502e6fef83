/-! CarvedWeeks: the fewest, how many stand, belief, soonest -/
/-- of the numbers below n with p that of least cost, the lowest -/
def am (p : Nat → Bool) (c : Nat → Nat) : Nat → Option Nat
  | 0 => none
  | n + 1 => match am p c n with
    | none => if p n then some n else none
    | some j => if p n && decide (c n < c j) then some n else some j
theorem am_none {p : Nat → Bool} {c : Nat → Nat} : ∀ {n : Nat}, am p c n = none ↔ ∀ i, i < n → p i = false
  | 0 => by simp [am]
  | n + 1 => by
    unfold am
    cases h : am p c n with
    | none =>
      have h1 := am_none.mp h
      simp only []
      cases hp : p n
      · simp only [Bool.false_eq_true, if_false, true_iff]
        intro i hi
        by_cases e : i = n
        · subst e; exact hp
        · exact h1 i (by omega)
      · simp only [if_true]
        constructor
        · intro z; cases z
        · intro z; rw [z n (by omega)] at hp; cases hp
    | some j =>
      simp only []
      constructor
      · intro z; split at z <;> cases z
      · intro z
        have := (am_none (p := p) (c := c) (n := n)).mpr (fun i hi => z i (by omega))
        rw [h] at this; cases this
theorem am_some {p : Nat → Bool} {c : Nat → Nat} : ∀ {n r : Nat}, am p c n = some r → r < n ∧ p r = true ∧ (∀ i, i < n → p i = true → c r ≤ c i) ∧ ∀ i, i < r → p i = true → c r < c i
  | 0, r, h => by cases h
  | n + 1, r, h => by
    unfold am at h
    cases h2 : am p c n with
    | none =>
      rw [h2] at h
      simp only [] at h
      have h1 := am_none.mp h2
      split at h
      · cases h
        rename_i hp
        refine ⟨by omega, hp, fun i hi hpi => ?_, fun i hi hpi => by rw [h1 i hi] at hpi; cases hpi⟩
        by_cases e : i = n
        · subst e; exact Nat.le_refl _
        · rw [h1 i (by omega)] at hpi; cases hpi
      · cases h
    | some j =>
      rw [h2] at h
      simp only [] at h
      obtain ⟨a, b, d, e⟩ := am_some h2
      split at h
      · cases h
        rename_i hp
        rw [Bool.and_eq_true, decide_eq_true_iff] at hp
        refine ⟨by omega, hp.1, fun i hi hpi => ?_, fun i hi hpi => ?_⟩
        · by_cases e : i = n
          · subst e; exact Nat.le_refl _
          · have := d i (by omega) hpi; omega
        · have := d i hi hpi; omega
      · cases h
        rename_i hp
        refine ⟨by omega, b, fun i hi hpi => ?_, e⟩
        by_cases q : i = n
        · subst q
          rw [hpi, Bool.true_and, decide_eq_true_iff] at hp
          omega
        · exact d i (by omega) hpi
theorem am_eq {p : Nat → Bool} {c : Nat → Nat} {n r : Nat} (h1 : r < n) (h2 : p r = true) (h3 : ∀ i, i < n → p i = true → c r ≤ c i) (h4 : ∀ i, i < r → p i = true → c r < c i) : am p c n = some r := by
  cases h : am p c n with
  | none => rw [am_none.mp h r h1] at h2; cases h2
  | some j =>
    obtain ⟨a, b, d, e⟩ := am_some h
    congr 1
    have x1 := h3 j a b
    have x2 := d r h1 h2
    rcases Nat.lt_trichotomy j r with q | q | q
    · have := h4 j q b; omega
    · exact q
    · have := e r q h2; omega
def clsN (tv : TV) (W : WV) : Option Nat := am (fun s => !anyW tv (syN tv W s)) pc16 (2 ^ (wM W).1)
def fClash (tv : TV) (W : WV) : Int32 := o4 (clsN tv W)
def lstN (tv : TV) (W : WV) (set : Nat) : Nat := (am (fun t => tlsB tv t set (wT W)) pc16 (2 ^ tF tv)).getD 0
noncomputable def fLeast (tv : TV) (W : WV) (s : Int32) : Int32 := ifb s (2 ^ tF tv) (fun s => nI (lstN tv W s)) (-1)
theorem pc_lt {n k : Nat} (hn : n < 2 ^ k) (hk : k ≤ 16) : pc16 n ≤ k := by
  show pcN 16 n ≤ k
  rw [pcN_cnt, show 16 = k + (16 - k) by omega, cnt_more (16 - k) (fun i hi => Nat.testBit_lt_two_pow (Nat.lt_of_lt_of_le hn (Nat.pow_le_pow_right (by decide) hi)))]
  exact cnt_le _ _
theorem cnt_mono (p : Nat → Bool) (k : Nat) : ∀ e, cnt k p ≤ cnt (k + e) p
  | 0 => Nat.le_refl _
  | e + 1 => Nat.le_trans (cnt_mono p k e) (by rw [← Nat.add_assoc, cnt_succ (k + e)]; omega)
theorem pc_zero {s : Nat} (h : pc16 s = 0) : ∀ i, i < 16 → s.testBit i = false := by
  intro i hi
  have h1 : pcN 16 s = 0 := h
  rw [pcN_cnt] at h1
  have h2 := cnt_mono (fun i => s.testBit i) (i + 1) (16 - (i + 1))
  rw [show i + 1 + (16 - (i + 1)) = 16 by omega, h1, cnt_succ] at h2
  cases hb : s.testBit i
  · rfl
  · rw [hb, if_pos rfl] at h2; omega
theorem cnt_full {p : Nat → Bool} : ∀ {k : Nat}, cnt k p = k → ∀ i, i < k → p i = true
  | 0, _, i, hi => absurd hi (Nat.not_lt_zero i)
  | k + 1, h, i, hi => by
    rw [cnt_succ] at h
    have h1 := cnt_le p k
    have h2 : p k = true := by
      cases hp : p k
      · rw [hp, if_neg (by decide)] at h; omega
      · rfl
    rw [if_pos h2] at h
    by_cases e : i = k
    · subst e; exact h2
    · exact cnt_full (k := k) (by omega) i (by omega)
theorem pc_full {n k : Nat} (hn : n < 2 ^ k) (hk : k ≤ 16) (h : pc16 n = k) : n = 2 ^ k - 1 := by
  have h' : pcN 16 n = k := h
  rw [pcN_cnt, show 16 = k + (16 - k) by omega, cnt_more (16 - k) (fun i hi => Nat.testBit_lt_two_pow (Nat.lt_of_lt_of_le hn (Nat.pow_le_pow_right (by decide) hi)))] at h'
  have hb := cnt_full h'
  apply Nat.eq_of_testBit_eq
  intro i
  rw [Nat.testBit_two_pow_sub_one]
  by_cases hi : i < k
  · rw [hb i hi, decide_eq_true hi]
  · rw [Nat.testBit_lt_two_pow (Nat.lt_of_lt_of_le hn (Nat.pow_le_pow_right (by decide) (by omega))), decide_eq_false hi]
theorem tls_full {tv : TV} {set tr : Nat} (hs : set < 2 ^ tF tv) : tlsB tv (2 ^ tF tv - 1) set tr = true := by
  unfold tlsB
  rw [allB_iff]
  intro i hi
  by_cases h : (wl tv i ^^^ tr) &&& (2 ^ tF tv - 1) = 0
  · have h2 : (wl tv i ^^^ tr) &&& set = 0 := by
      rw [and_eq0_iff] at h ⊢
      intro v hv
      refine h v ⟨hv.1, ?_⟩
      rw [Nat.testBit_two_pow_sub_one]
      refine decide_eq_true (Nat.lt_of_not_le fun z => ?_)
      rw [Nat.testBit_lt_two_pow (Nat.lt_of_lt_of_le hs (Nat.pow_le_pow_right (by decide) z))] at hv
      cases hv.2
    rw [h2]; simp
  · rw [decide_eq_false h]; rfl
theorem lst_spec {tv : TV} {W : WV} {set : Nat} (hs : set < 2 ^ tF tv) : lstN tv W set < 2 ^ tF tv ∧ am (fun t => tlsB tv t set (wT W)) pc16 (2 ^ tF tv) = some (lstN tv W set) := by
  unfold lstN
  cases h : am (fun t => tlsB tv t set (wT W)) pc16 (2 ^ tF tv) with
  | none =>
    have := am_none.mp h (2 ^ tF tv - 1) (by have := p2_pos (tF tv); omega)
    rw [tls_full hs] at this
    cases this
  | some r => exact ⟨(am_some h).1, rfl⟩
/-- one pass of stones that cost c: what is left to cut, hours -/
def snS (tv : TV) (W : WV) (c : Nat) : Nat → Nat × Nat → Nat × Nat
  | 0, z => z
  | s + 1, z => if hrsN tv s = c then ((snS tv W c s z).1 - min (snS tv W c s z).1 (freeN tv W s), (snS tv W c s z).2 + min (snS tv W c s z).1 (freeN tv W s) * c) else snS tv W c s z
def snC (tv : TV) (W : WV) : Nat → Nat × Nat → Nat × Nat
  | 0, z => z
  | c + 1, z => snS tv W (c + 1) (tS tv).1 (snC tv W c z)
noncomputable def fSoonest (tv : TV) (W : WV) (s : Int32) : Int32 := ifb s (2 ^ tF tv) (fun s => if 0 < (snC tv W 9 (pc16 (lstN tv W s), 0)).1 then -4 else nI (snC tv W 9 (pc16 (lstN tv W s), 0)).2) (-1)
/-- sums over worlds -/
def smN : Nat → (Nat → Nat) → Nat
  | 0, _ => 0
  | n + 1, f => smN n f + f n
def allN (tv : TV) (W : WV) : Nat := smN (nw' tv) (fun i => wtN tv W (wl tv i) (wM W).1)
def sosN (tv : TV) (W : WV) (f : Nat) : Nat := smN (nw' tv) (fun i => if (wl tv i).testBit f then wtN tv W (wl tv i) (wM W).1 else 0)
noncomputable def fBelief (tv : TV) (W : WV) (f p : Int32) : Int64 := ifb f (tF tv) (fun f => ifb p 2 (fun p => if allN tv W = 0 then -4 else if p = 0 then lN (sosN tv W f / Nat.gcd (allN tv W) (sosN tv W f)) else lN (allN tv W / Nat.gcd (allN tv W) (sosN tv W f))) (-1)) (-1)
/-- the most marks that are so together; how many sets of so many -/
def mstN (tv : TV) (W : WV) : Nat → Nat
  | 0 => 0
  | k + 1 => max (mstN tv W k) (pc16 (msN W (wl tv k)))
def stsN (tv : TV) (W : WV) (most : Nat) : Nat := cnt (nw' tv) (fun k => decide (pc16 (msN W (wl tv k)) = most) && !anyB k (fun i => decide (msN W (wl tv i) = msN W (wl tv k))))
noncomputable def fStand (tv : TV) (W : WV) (w : Int32) : Int32 := ifb w 2 (fun w => if w = 0 then nI (mstN tv W (nw' tv)) else nI (stsN tv W (mstN tv W (nw' tv)))) (-1)
section CREAD3
variable {g : GC} {sg : SG} {I : IM} {A B : Nat} {x : XV} {tv : TV} {W : WV} {P K : SV}
theorem sy_lt {s : Nat} : syN tv W s < 2 ^ (2 * tF tv) := bm_lt _ _
theorem X_clash (hC : CSt sg I A B x tv W P K) (hS : STok x tv W P K) : Fn m_X5_clash g [rf g 0] sg I (some (.int (fClash tv W))) sg I := by
  obtain ⟨hX0, hok, hnp, hns, ⟨hWok, hwk⟩, hPok, hKok⟩ := hS
  obtain ⟨⟨kc, c0, c1, c2, c3, c4, c5, c6, hAB, kt, u0, u1⟩, ⟨hXt, cX⟩, ⟨nn, hNt⟩, hPs, hKs, hW, hD, ⟨hT, hWl⟩, hB⟩ := hC
  have hmk := hWok.2.2.2.1
  have hn12 := hmk.1
  have hF1 := hok.1
  have hF8 := hok.2.1
  have h256 := p2_le8 hF8
  have h16 := p2_le16 hF8
  have hnw := nw_le hF8
  have hnw0 := nw_pos hWok
  have htr := hWok.1
  obtain ⟨⟨wk, w0, w1⟩, we2, we3, ⟨hM, cM⟩, hH, cH⟩ := id hW
  obtain ⟨⟨tk, t0, t1, t2, t3, t4⟩, tF5, tX6, ⟨hLt, cL⟩, ⟨hPt, cP⟩, ⟨hSt, cS⟩, ⟨hBt, cB⟩⟩ := id hT
  obtain ⟨hWt, cW⟩ := id hWl
  have kX := hXt.1
  have kM := hM.1
  have kH := hH.1
  have kL := hLt.1
  have kP := hPt.1
  have kS := hSt.1
  have kB := hBt.1
  have kW := hWt.1
  have nL10 := hLt.2.2.2.2.2.2.1
  have nP5 := hPt.2.2.2.2.2.2.1
  have nS5 := hSt.2.2.2.2.2.2.1
  have nB6 := hBt.2.2.2.2.2.2.1
  have kP0 := hPs.1.1
  have kK0 := hKs.1.1
  have hp := p2_pos (wM W).1
  have hp2 : 2 ^ (wM W).1 ≤ 2 ^ 12 := Nat.pow_le_pow_right (by decide) hn12
  have hcost : ∀ s, s < 2 ^ (wM W).1 → pc16 s ≤ (wM W).1 := fun s hs => pc_lt hs (by omega)
  have hall : ∀ s, s < 2 ^ (wM W).1 → anyW tv (syN tv W (2 ^ (wM W).1 - 1)) = true → anyW tv (syN tv W s) = true := by
    intro s hs h
    obtain ⟨i, hi, h2⟩ := anyB_iff.mp h
    refine anyB_iff.mpr ⟨i, hi, ?_⟩
    unfold sat at h2 ⊢
    rw [allB_iff] at h2 ⊢
    intro v hv
    have h3 := h2 v hv
    cases hb : (syN tv W s).testBit v
    · rfl
    · have h4 : (syN tv W (2 ^ (wM W).1 - 1)).testBit v = true := by
        unfold syN at hb ⊢
        rw [bm_bit, Bool.and_eq_true] at hb ⊢
        refine ⟨hb.1, ?_⟩
        obtain ⟨m, a, b⟩ := anyB_iff.mp hb.2
        rw [Bool.and_eq_true] at b
        exact anyB_iff.mpr ⟨m, a, by rw [Nat.testBit_two_pow_sub_one, decide_eq_true a, b.2]; rfl⟩
      rw [h4] at h3
      simpa using h3
  refine Ct.of rfl (Nat.le_of_ble_eq_true rfl) fun X => ?_
  show V X _ sg I 0 [some (rf g 0), none, none, none] []
  by_cases hposs : anyW tv (syN tv W (2 ^ (wM W).1 - 1)) = true
  · have hn : clsN tv W = none := am_none.mpr (fun i hi => by show (!anyW tv (syN tv W i)) = false; rw [hall i hi hposs]; rfl)
    refine V_iconst (nI 1) (by decide) dX5_clash_0 ?_
    refine V_aload_n rfl dX5_clash_1 ?_
    refine gf_X5_31 (by assumption) (by assumption) rfl dX5_clash_2 ?_
    refine gf_X5_122 (by assumption) (by assumption) rfl dX5_clash_5 ?_
    refine cf_X5_84 (C_size hM) (by assumption) rfl rfl ft0 (Nat.le_of_ble_eq_true rfl) dX5_clash_8 ?_
    refine V_ishl1N (by omega) dX5_clash_11 ?_
    refine V_ist1 rfl rfl dX5_clash_12 ?_
    refine V_aload_n rfl dX5_clash_13 ?_
    refine gf_X5_41 (by assumption) (by assumption) rfl dX5_clash_14 ?_
    refine V_aload_n rfl dX5_clash_17 ?_
    refine gf_X5_31 (by assumption) (by assumption) rfl dX5_clash_18 ?_
    refine V_iload_n rfl dX5_clash_21 ?_
    refine V_iconst (nI 1) (by decide) dX5_clash_22 ?_
    refine V_isubN (by omega) dX5_clash_23 ?_
    refine cf_X5_234 (C_sayingsOf hW hmk hF8 (by omega)) (by assumption) rfl rfl ft0 (Nat.le_of_ble_eq_true rfl) dX5_clash_24 ?_
    refine cf_X5_197 (C_isPossible hT hWl hok sy_lt) (by assumption) rfl rfl ft0 (Nat.le_of_ble_eq_true rfl) dX5_clash_27 ?_
    refine V_if_eqB 36 dX5_clash_30 (by decide) (fun h30 => absurd h30 (by exact fun z => z hposs)) (fun h30 => ?_)
    refine V_bipush (-4) (by decide) dX5_clash_33 ?_
    refine V_iret rfl rfl rfl ?_ dX5_clash_35
    exact ⟨by unfold fClash; rw [hn]; rfl, rfl, rfl⟩
  · have hnone : ∀ j, j = (wM W).1 + 1 → (∀ s, s < 2 ^ (wM W).1 → pc16 s < j → anyW tv (syN tv W s) = true) → False := fun j hj h => hposs (h (2 ^ (wM W).1 - 1) (by omega) (by have := hcost (2 ^ (wM W).1 - 1) (by omega); omega))
    have inner : ∀ (j : Nat), j ≤ (wM W).1 → (∀ s, s < 2 ^ (wM W).1 → pc16 s < j → anyW tv (syN tv W s) = true) →
        ((∀ s, s < 2 ^ (wM W).1 → pc16 s < j + 1 → anyW tv (syN tv W s) = true) → V X (ZQ X (fun r0 s0 I0 => r0 = some (.int (fClash tv W)) ∧ s0 = sg ∧ I0 = I)) sg I 93 [some (rf g 0), some (.int (nI (2 ^ (wM W).1))), some (.int (nI j)), some (.int (nI (2 ^ (wM W).1)))] []) →
        ∀ (d s : Nat), 2 ^ (wM W).1 - s = d → s ≤ 2 ^ (wM W).1 → (∀ q, q < s → pc16 q = j → anyW tv (syN tv W q) = true) →
        V X (ZQ X (fun r0 s0 I0 => r0 = some (.int (fClash tv W)) ∧ s0 = sg ∧ I0 = I)) sg I 54 [some (rf g 0), some (.int (nI (2 ^ (wM W).1))), some (.int (nI j)), some (.int (nI s))] [] := by
      intro j hj hlow hexit d
      induction d with
      | zero =>
        intro s hd hsn hq
        have e : s = 2 ^ (wM W).1 := by omega
        subst e
        refine V_iload_n rfl dX5_clash_54 ?_
        refine V_iload_n rfl dX5_clash_55 ?_
        refine V_icmp_geN 93 dX5_clash_56 (by decide) (by omega) (by omega) (fun h56 => ?_) (fun h56 => absurd h56 (by omega))
        exact hexit (fun q h1 h2 => by by_cases e : pc16 q = j; exact hq q h1 e; exact hlow q h1 (by omega))
      | succ d ih =>
        intro s hd hsn hq
        have hs16 : s < 65536 := by omega
        have hpc := hcost s (by omega)
        refine V_iload_n rfl dX5_clash_54 ?_
        refine V_iload_n rfl dX5_clash_55 ?_
        refine V_icmp_geN 93 dX5_clash_56 (by decide) (by omega) (by omega) (fun h56 => absurd h56 (by omega)) (fun h56 => ?_)
        refine V_iload_n rfl dX5_clash_59 ?_
        refine cf_X5_139 (C_bitCount hs16) rfl rfl ft0 (Nat.le_of_ble_eq_true rfl) dX5_clash_60 ?_
        refine V_iload_n rfl dX5_clash_63 ?_
        refine V_icmp_neN 87 dX5_clash_64 (by decide) (by omega) (by omega) (fun h64 => ?_) (fun h64 => ?_)
        · skip
          refine V_iinc3_ _ (nI_inc _) rfl rfl dX5_clash_87 ?_
          refine V_goto 54 dX5_clash_90 (by decide) ?_
          refine ih (s + 1) (by omega) (by omega) (fun q h1 h2 => ?_)
          by_cases e : q = s
          · subst e
            first | exact h82 | exact absurd h2 h64
          · exact hq q (by omega) h2
        · skip
          refine V_aload_n rfl dX5_clash_67 ?_
          refine gf_X5_41 (by assumption) (by assumption) rfl dX5_clash_68 ?_
          refine V_aload_n rfl dX5_clash_71 ?_
          refine gf_X5_31 (by assumption) (by assumption) rfl dX5_clash_72 ?_
          refine V_iload_n rfl dX5_clash_75 ?_
          refine cf_X5_234 (C_sayingsOf hW hmk hF8 (by omega)) (by assumption) rfl rfl ft0 (Nat.le_of_ble_eq_true rfl) dX5_clash_76 ?_
          refine cf_X5_197 (C_isPossible hT hWl hok sy_lt) (by assumption) rfl rfl ft0 (Nat.le_of_ble_eq_true rfl) dX5_clash_79 ?_
          refine V_if_neB 87 dX5_clash_82 (by decide) (fun h82 => ?_) (fun h82 => ?_)
          · skip
            refine V_iinc3_ _ (nI_inc _) rfl rfl dX5_clash_87 ?_
            refine V_goto 54 dX5_clash_90 (by decide) ?_
            refine ih (s + 1) (by omega) (by omega) (fun q h1 h2 => ?_)
            by_cases e : q = s
            · subst e
              first | exact h82 | exact absurd h2 h64
            · exact hq q (by omega) h2
          · skip
            refine V_iload_n rfl dX5_clash_85 ?_
            refine V_iret rfl rfl rfl ?_ dX5_clash_86
            have hcl : clsN tv W = some s := am_eq (by omega) (by show (!anyW tv (syN tv W s)) = true; rw [Bool.not_eq_true', ← Bool.not_eq_true]; exact h82) (fun i hi hpi => by
              apply Nat.le_of_not_lt
              intro z
              have hz : (!anyW tv (syN tv W i)) = true := hpi
              rw [hlow i hi (by omega)] at hz
              cases hz) (fun i hi hpi => by
              have hz : (!anyW tv (syN tv W i)) = true := hpi
              by_cases e : pc16 i = j
              · rw [hq i hi e] at hz; cases hz
              · by_cases e2 : pc16 i < j
                · rw [hlow i (by omega) e2] at hz; cases hz
                · omega)
            exact ⟨by unfold fClash; rw [hcl]; rfl, rfl, rfl⟩
    have outer : ∀ (d j : Nat) (z : Option Value), okp z = true → (wM W).1 + 1 - j = d → j ≤ (wM W).1 + 1 → (∀ s, s < 2 ^ (wM W).1 → pc16 s < j → anyW tv (syN tv W s) = true) →
        V X (ZQ X (fun r0 s0 I0 => r0 = some (.int (fClash tv W)) ∧ s0 = sg ∧ I0 = I)) sg I 38 [some (rf g 0), some (.int (nI (2 ^ (wM W).1))), some (.int (nI j)), z] [] := by
      intro d
      induction d with
      | zero =>
        intro j z hz hd hj hlow
        exact (hnone j (by omega) hlow).elim
      | succ d ih =>
        intro j z hz hd hj hlow
        refine V_iload_n rfl dX5_clash_38 ?_
        refine V_aload_n rfl dX5_clash_39 ?_
        refine gf_X5_31 (by assumption) (by assumption) rfl dX5_clash_40 ?_
        refine gf_X5_122 (by assumption) (by assumption) rfl dX5_clash_43 ?_
        refine cf_X5_84 (C_size hM) (by assumption) rfl rfl ft0 (Nat.le_of_ble_eq_true rfl) dX5_clash_46 ?_
        refine V_icmp_gtN 99 dX5_clash_49 (by decide) (by omega) (by omega) (fun h49 => absurd h49 (by omega)) (fun h49 => ?_)
        refine V_iconst (nI 0) (by decide) dX5_clash_52 ?_
        refine V_ist3 rfl rfl dX5_clash_53 ?_
        refine inner j (by omega) hlow (fun hl2 => ?_) (2 ^ (wM W).1) 0 (by omega) (by omega) (fun q h1 h2 => absurd h1 (Nat.not_lt_zero q))
        refine V_iinc2_ _ (nI_inc _) rfl rfl dX5_clash_93 ?_
        refine V_goto 38 dX5_clash_96 (by decide) ?_
        exact ih (j + 1) _ rfl (by omega) (by omega) hl2
    refine V_iconst (nI 1) (by decide) dX5_clash_0 ?_
    refine V_aload_n rfl dX5_clash_1 ?_
    refine gf_X5_31 (by assumption) (by assumption) rfl dX5_clash_2 ?_
    refine gf_X5_122 (by assumption) (by assumption) rfl dX5_clash_5 ?_
    refine cf_X5_84 (C_size hM) (by assumption) rfl rfl ft0 (Nat.le_of_ble_eq_true rfl) dX5_clash_8 ?_
    refine V_ishl1N (by omega) dX5_clash_11 ?_
    refine V_ist1 rfl rfl dX5_clash_12 ?_
    refine V_aload_n rfl dX5_clash_13 ?_
    refine gf_X5_41 (by assumption) (by assumption) rfl dX5_clash_14 ?_
    refine V_aload_n rfl dX5_clash_17 ?_
    refine gf_X5_31 (by assumption) (by assumption) rfl dX5_clash_18 ?_
    refine V_iload_n rfl dX5_clash_21 ?_
    refine V_iconst (nI 1) (by decide) dX5_clash_22 ?_
    refine V_isubN (by omega) dX5_clash_23 ?_
    refine cf_X5_234 (C_sayingsOf hW hmk hF8 (by omega)) (by assumption) rfl rfl ft0 (Nat.le_of_ble_eq_true rfl) dX5_clash_24 ?_
    refine cf_X5_197 (C_isPossible hT hWl hok sy_lt) (by assumption) rfl rfl ft0 (Nat.le_of_ble_eq_true rfl) dX5_clash_27 ?_
    refine V_if_eqB 36 dX5_clash_30 (by decide) (fun h30 => ?_) (fun h30 => absurd h30 (by exact fun z => hposs z))
    refine V_iconst (nI 1) (by decide) dX5_clash_36 ?_
    refine V_ist2 rfl rfl dX5_clash_37 ?_
    refine outer (wM W).1 1 _ rfl (by omega) (by omega) (fun s h1 h2 => ?_)
    have h3 : syN tv W s = 0 := by
      have h5 := pc_zero (Nat.lt_one_iff.mp h2)
      unfold syN
      rw [← bm_false (2 * tF tv)]
      refine bm_congr (fun v _ => ?_)
      rw [← Bool.not_eq_true]
      intro hz
      obtain ⟨m, a, b⟩ := anyB_iff.mp hz
      rw [h5 m (by omega), Bool.false_and] at b
      cases b
    rw [h3]
    refine anyB_iff.mpr ⟨0, hnw0, ?_⟩
    unfold sat
    rw [allB_iff]
    intro v hv
    rw [Nat.zero_testBit]; rfl
theorem X_leastFor {s : Nat} (hC : CSt sg I A B x tv W P K) (hS : STok x tv W P K) (hs : s < 2 ^ tF tv) : Fn m_X5_leastFor g [rf g 0, .int (nI s)] sg I (some (.int (nI (lstN tv W s)))) sg I := by
  obtain ⟨hX0, hok, hnp, hns, ⟨hWok, hwk⟩, hPok, hKok⟩ := hS
  obtain ⟨⟨kc, c0, c1, c2, c3, c4, c5, c6, hAB, kt, u0, u1⟩, ⟨hXt, cX⟩, ⟨nn, hNt⟩, hPs, hKs, hW, hD, ⟨hT, hWl⟩, hB⟩ := hC
  have hmk := hWok.2.2.2.1
  have hn12 := hmk.1
  have hF1 := hok.1
  have hF8 := hok.2.1
  have h256 := p2_le8 hF8
  have h16 := p2_le16 hF8
  have hnw := nw_le hF8
  have hnw0 := nw_pos hWok
  have htr := hWok.1
  obtain ⟨⟨wk, w0, w1⟩, we2, we3, ⟨hM, cM⟩, hH, cH⟩ := id hW
  obtain ⟨⟨tk, t0, t1, t2, t3, t4⟩, tF5, tX6, ⟨hLt, cL⟩, ⟨hPt, cP⟩, ⟨hSt, cS⟩, ⟨hBt, cB⟩⟩ := id hT
  obtain ⟨hWt, cW⟩ := id hWl
  have kX := hXt.1
  have kM := hM.1
  have kH := hH.1
  have kL := hLt.1
  have kP := hPt.1
  have kS := hSt.1
  have kB := hBt.1
  have kW := hWt.1
  have nL10 := hLt.2.2.2.2.2.2.1
  have nP5 := hPt.2.2.2.2.2.2.1
  have nS5 := hSt.2.2.2.2.2.2.1
  have nB6 := hBt.2.2.2.2.2.2.1
  have kP0 := hPs.1.1
  have kK0 := hKs.1.1
  have hp := p2_pos (tF tv)
  have hcost : ∀ t, t < 2 ^ tF tv → pc16 t ≤ tF tv := fun t ht => pc_lt ht (by omega)
  refine Ct.of rfl (Nat.le_of_ble_eq_true rfl) fun X => ?_
  show V X _ sg I 0 [some (rf g 0), some (.int (nI s)), none, none] []
  have inner : ∀ (j : Nat), j ≤ tF tv → (∀ t, t < 2 ^ tF tv → pc16 t < j → tlsB tv t s (wT W) = false) →
      ((∀ t, t < 2 ^ tF tv → pc16 t < j + 1 → tlsB tv t s (wT W) = false) → V X (ZQ X (fun r0 s0 I0 => r0 = some (.int (nI (lstN tv W s))) ∧ s0 = sg ∧ I0 = I)) sg I 61 [some (rf g 0), some (.int (nI s)), some (.int (nI j)), some (.int (nI (2 ^ tF tv)))] []) →
      ∀ (d t : Nat), 2 ^ tF tv - t = d → t ≤ 2 ^ tF tv → (∀ q, q < t → pc16 q = j → tlsB tv q s (wT W) = false) →
      V X (ZQ X (fun r0 s0 I0 => r0 = some (.int (nI (lstN tv W s))) ∧ s0 = sg ∧ I0 = I)) sg I 15 [some (rf g 0), some (.int (nI s)), some (.int (nI j)), some (.int (nI t))] [] := by
    intro j hj hlow hexit d
    induction d with
    | zero =>
      intro t hd htn hq
      have e : t = 2 ^ tF tv := by omega
      subst e
      refine V_iload_n rfl dX5_leastFor_15 ?_
      refine V_aload_n rfl dX5_leastFor_16 ?_
      refine gf_X5_41 (by assumption) (by assumption) rfl dX5_leastFor_17 ?_
      refine cf_X5_278 (C_allFacts tk tF5 hF8) (by assumption) rfl rfl ft0 (Nat.le_of_ble_eq_true rfl) dX5_leastFor_20 ?_
      refine V_icmp_gtN 61 dX5_leastFor_23 (by decide) (by omega) (by omega) (fun h23 => ?_) (fun h23 => absurd h23 (by omega))
      exact hexit (fun q h1 h2 => by by_cases e : pc16 q = j; exact hq q h1 e; exact hlow q h1 (by omega))
    | succ d ih =>
      intro t hd htn hq
      have ht16 : t < 65536 := by omega
      have hpc := hcost t (by omega)
      refine V_iload_n rfl dX5_leastFor_15 ?_
      refine V_aload_n rfl dX5_leastFor_16 ?_
      refine gf_X5_41 (by assumption) (by assumption) rfl dX5_leastFor_17 ?_
      refine cf_X5_278 (C_allFacts tk tF5 hF8) (by assumption) rfl rfl ft0 (Nat.le_of_ble_eq_true rfl) dX5_leastFor_20 ?_
      refine V_icmp_gtN 61 dX5_leastFor_23 (by decide) (by omega) (by omega) (fun h23 => absurd h23 (by omega)) (fun h23 => ?_)
      refine V_iload_n rfl dX5_leastFor_26 ?_
      refine cf_X5_139 (C_bitCount ht16) rfl rfl ft0 (Nat.le_of_ble_eq_true rfl) dX5_leastFor_27 ?_
      refine V_iload_n rfl dX5_leastFor_30 ?_
      refine V_icmp_neN 55 dX5_leastFor_31 (by decide) (by omega) (by omega) (fun h31 => ?_) (fun h31 => ?_)
      · skip
        refine V_iinc3_ _ (nI_inc _) rfl rfl dX5_leastFor_55 ?_
        refine V_goto 15 dX5_leastFor_58 (by decide) ?_
        refine ih (t + 1) (by omega) (by omega) (fun q h1 h2 => ?_)
        by_cases e : q = t
        · subst e
          first | (rw [← Bool.not_eq_true]; exact h50) | exact absurd h2 h31
        · exact hq q (by omega) h2
      · skip
        refine V_aload_n rfl dX5_leastFor_34 ?_
        refine gf_X5_41 (by assumption) (by assumption) rfl dX5_leastFor_35 ?_
        refine V_iload_n rfl dX5_leastFor_38 ?_
        refine V_iload_n rfl dX5_leastFor_39 ?_
        refine V_aload_n rfl dX5_leastFor_40 ?_
        refine gf_X5_31 (by assumption) (by assumption) rfl dX5_leastFor_41 ?_
        refine gfe_X5_125 (by assumption) (by assumption) rfl dX5_leastFor_44 ?_
        refine cf_X5_281 (C_tells hT hWl hok (by omega) (by omega) (by omega)) (by assumption) rfl rfl ft0 (Nat.le_of_ble_eq_true rfl) dX5_leastFor_47 ?_
        refine V_if_eqB 55 dX5_leastFor_50 (by decide) (fun h50 => ?_) (fun h50 => ?_)
        · skip
          refine V_iinc3_ _ (nI_inc _) rfl rfl dX5_leastFor_55 ?_
          refine V_goto 15 dX5_leastFor_58 (by decide) ?_
          refine ih (t + 1) (by omega) (by omega) (fun q h1 h2 => ?_)
          by_cases e : q = t
          · subst e
            first | (rw [← Bool.not_eq_true]; exact h50) | exact absurd h2 h31
          · exact hq q (by omega) h2
        · skip
          refine V_iload_n rfl dX5_leastFor_53 ?_
          refine V_iret rfl rfl rfl ?_ dX5_leastFor_54
          have hcl : am (fun t => tlsB tv t s (wT W)) pc16 (2 ^ tF tv) = some t := am_eq (by omega) h50 (fun i hi hpi => by
            apply Nat.le_of_not_lt
            intro z
            have hz : tlsB tv i s (wT W) = true := hpi
            rw [hlow i hi (by omega)] at hz
            cases hz) (fun i hi hpi => by
            have hz : tlsB tv i s (wT W) = true := hpi
            by_cases e : pc16 i = j
            · rw [hq i hi e] at hz; cases hz
            · by_cases e2 : pc16 i < j
              · rw [hlow i (by omega) e2] at hz; cases hz
              · omega)
          exact ⟨by unfold lstN; rw [hcl]; rfl, rfl, rfl⟩
  have outer : ∀ (d j : Nat) (z : Option Value), okp z = true → tF tv - j = d → j ≤ tF tv → (∀ t, t < 2 ^ tF tv → pc16 t < j → tlsB tv t s (wT W) = false) →
      V X (ZQ X (fun r0 s0 I0 => r0 = some (.int (nI (lstN tv W s))) ∧ s0 = sg ∧ I0 = I)) sg I 2 [some (rf g 0), some (.int (nI s)), some (.int (nI j)), z] [] := by
    intro d
    induction d with
    | zero =>
      intro j z hz hd hj hlow
      have e : j = tF tv := by omega
      subst e
      have hcl : am (fun t => tlsB tv t s (wT W)) pc16 (2 ^ tF tv) = some (2 ^ tF tv - 1) := by
        have hall : ∀ i, i < 2 ^ tF tv → tlsB tv i s (wT W) = true → i = 2 ^ tF tv - 1 := fun i hi hpi => by
          have h1 := hcost i hi
          by_cases e : pc16 i < tF tv
          · rw [hlow i hi e] at hpi; cases hpi
          · exact pc_full hi (by omega) (by omega)
        refine am_eq (by omega) (tls_full hs) (fun i hi hpi => by rw [hall i hi hpi]; exact Nat.le_refl _) (fun i hi hpi => ?_)
        have := hall i (by omega) hpi
        omega
      refine V_iload_n rfl dX5_leastFor_2 ?_
      refine V_aload_n rfl dX5_leastFor_3 ?_
      refine gf_X5_41 (by assumption) (by assumption) rfl dX5_leastFor_4 ?_
      refine gfe_X5_249 (by assumption) (by assumption) rfl dX5_leastFor_7 ?_
      refine V_icmp_geN 67 dX5_leastFor_10 (by decide) (by omega) (by omega) (fun h10 => ?_) (fun h10 => absurd h10 (by omega))
      refine V_aload_n rfl dX5_leastFor_67 ?_
      refine gf_X5_41 (by assumption) (by assumption) rfl dX5_leastFor_68 ?_
      refine cf_X5_278 (C_allFacts tk tF5 hF8) (by assumption) rfl rfl ft0 (Nat.le_of_ble_eq_true rfl) dX5_leastFor_71 ?_
      refine V_iret rfl rfl rfl ?_ dX5_leastFor_74
      exact ⟨by unfold lstN; rw [hcl]; rfl, rfl, rfl⟩
    | succ d ih =>
      intro j z hz hd hj hlow
      refine V_iload_n rfl dX5_leastFor_2 ?_
      refine V_aload_n rfl dX5_leastFor_3 ?_
      refine gf_X5_41 (by assumption) (by assumption) rfl dX5_leastFor_4 ?_
      refine gfe_X5_249 (by assumption) (by assumption) rfl dX5_leastFor_7 ?_
      refine V_icmp_geN 67 dX5_leastFor_10 (by decide) (by omega) (by omega) (fun h10 => absurd h10 (by omega)) (fun h10 => ?_)
      refine V_iconst (nI 0) (by decide) dX5_leastFor_13 ?_
      refine V_ist3 rfl rfl dX5_leastFor_14 ?_
      refine inner j (by omega) hlow (fun hl2 => ?_) (2 ^ tF tv) 0 (by omega) (by omega) (fun q h1 h2 => absurd h1 (Nat.not_lt_zero q))
      refine V_iinc2_ _ (nI_inc _) rfl rfl dX5_leastFor_61 ?_
      refine V_goto 2 dX5_leastFor_64 (by decide) ?_
      exact ih (j + 1) _ rfl (by omega) (by omega) hl2
  refine V_iconst (nI 0) (by decide) dX5_leastFor_0 ?_
  refine V_ist2 rfl rfl dX5_leastFor_1 ?_
  exact outer (tF tv) 0 _ rfl (by omega) (by omega) (fun t h1 h2 => absurd h2 (Nat.not_lt_zero _))
theorem set_bel {s0 : Int32} (hF8 : tF tv ≤ 8) : (0 ≤ s0 ∧ s0 ≤ nI (2 ^ tF tv - 1)) ↔ bel s0 (2 ^ tF tv) := by
  have hp := p2_pos (tF tv)
  have h2 := p2_le8 hF8
  rcases int_cases s0 with h | ⟨j, hj, rfl⟩
  · constructor
    · intro z; exact absurd z.1 (by rw [Int32.not_le]; exact h)
    · intro z; exact absurd z (bel_neg h)
  · rw [bel_nI hj (by omega), nI_leI hj (by omega)]
    constructor
    · intro z; omega
    · intro z; exact ⟨nI_ge0 hj, by omega⟩
theorem X_least {s : Int32} (hC : CSt sg I A B x tv W P K) (hS : STok x tv W P K) : Fn m_X5_least g [rf g 0, .int s] sg I (some (.int (fLeast tv W s))) sg I := by
  have hC0 := hC
  have hS0 := hS
  obtain ⟨hX0, hok, hnp, hns, ⟨hWok, hwk⟩, hPok, hKok⟩ := hS
  obtain ⟨⟨kc, c0, c1, c2, c3, c4, c5, c6, hAB, kt, u0, u1⟩, ⟨hXt, cX⟩, ⟨nn, hNt⟩, hPs, hKs, hW, hD, ⟨hT, hWl⟩, hB⟩ := hC
  have hmk := hWok.2.2.2.1
  have hn12 := hmk.1
  have hF1 := hok.1
  have hF8 := hok.2.1
  have h256 := p2_le8 hF8
  have h16 := p2_le16 hF8
  have hnw := nw_le hF8
  have hnw0 := nw_pos hWok
  have htr := hWok.1
  obtain ⟨⟨wk, w0, w1⟩, we2, we3, ⟨hM, cM⟩, hH, cH⟩ := id hW
  obtain ⟨⟨tk, t0, t1, t2, t3, t4⟩, tF5, tX6, ⟨hLt, cL⟩, ⟨hPt, cP⟩, ⟨hSt, cS⟩, ⟨hBt, cB⟩⟩ := id hT
  obtain ⟨hWt, cW⟩ := id hWl
  have kX := hXt.1
  have kM := hM.1
  have kH := hH.1
  have kL := hLt.1
  have kP := hPt.1
  have kS := hSt.1
  have kB := hBt.1
  have kW := hWt.1
  have nL10 := hLt.2.2.2.2.2.2.1
  have nP5 := hPt.2.2.2.2.2.2.1
  have nS5 := hSt.2.2.2.2.2.2.1
  have nB6 := hBt.2.2.2.2.2.2.1
  have kP0 := hPs.1.1
  have kK0 := hKs.1.1
  have hsb := set_bel (tv := tv) (s0 := s) hF8
  refine Ct.of rfl (Nat.le_of_ble_eq_true rfl) fun X => ?_
  show V X _ sg I 0 [some (rf g 0), some (.int s)] []
  refine V_aload_n rfl dX5_least_0 ?_
  refine gf_X5_41 (by assumption) (by assumption) rfl dX5_least_1 ?_
  refine V_iload_n rfl dX5_least_4 ?_
  refine cf_X5_132 (C_isSet (tv := tv) tk tF5 hF8) (by assumption) rfl rfl ft0 (Nat.le_of_ble_eq_true rfl) dX5_least_5 ?_
  refine V_if_eqB 19 dX5_least_8 (by decide) (fun h8 => ?_) (fun h8 => ?_)
  · skip
    refine V_iconst (-1) (by decide) dX5_least_19 ?_
    refine V_iret rfl rfl rfl ?_ dX5_least_20
    refine ⟨?_, rfl, rfl⟩
    unfold fLeast
    first
    | rw [ifb_neg (fun z => h8 (hsb.mpr z))]
    | rw [ifb_pos hj (by omega) rfl]
  · skip
    obtain ⟨j, hj, rfl⟩ := bel_ex (by omega) (hsb.mp h8)
    refine V_aload_n rfl dX5_least_11 ?_
    refine V_iload_n rfl dX5_least_12 ?_
    refine cf_X5_219 (X_leastFor hC0 hS0 hj) (by assumption) rfl rfl ft0 (Nat.le_of_ble_eq_true rfl) dX5_least_13 ?_
    refine V_goto 20 dX5_least_16 (by decide) ?_
    refine V_iret rfl rfl rfl ?_ dX5_least_20
    refine ⟨?_, rfl, rfl⟩
    unfold fLeast
    first
    | rw [ifb_neg (fun z => h8 (hsb.mpr z))]
    | rw [ifb_pos hj (by omega) rfl]
end CREAD3
