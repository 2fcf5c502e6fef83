/-! CarvedWeeks: sale -/
def befB (tv : TV) (j k : Nat) : Bool := decide ((tB tv).2 k 2 < (tB tv).2 j 2) || (decide ((tB tv).2 j 2 = (tB tv).2 k 2) && decide (j < k))
def lefN (tv : TV) (n : Nat) (p : Nat → Bool) : Nat := n - smN (tB tv).1 (fun j => if p j then (tB tv).2 j 1 else 0)
def gotN (tv : TV) (n k : Nat) : Nat := min ((tB tv).2 k 1) (lefN tv n (fun j => befB tv j k))
def mxN : Nat → (Nat → Nat) → Nat
  | 0, _ => 0
  | n + 1, f => max (mxN n f) (f n)
def priN (tv : TV) (n : Nat) (p : Nat → Bool) : Nat := mxN (tB tv).1 (fun j => if p j && decide (gotN tv n j < (tB tv).2 j 1) then (tB tv).2 j 2 else 0)
noncomputable def fSale (tv : TV) (n b : Int32) : Int32 := if (nI 1 ≤ n ∧ n ≤ nI 12) ∧ (-1 ≤ b ∧ b < nI (tB tv).1) then (if b = -1 then nI (priN tv (ix n) (fun _ => true)) else nI (gotN tv (ix n) (ix b))) else -1
theorem smN_succ' (n : Nat) (f : Nat → Nat) : smN (n + 1) f = smN n f + f n := rfl
theorem sm_congr {f e : Nat → Nat} : ∀ {n : Nat}, (∀ i, i < n → f i = e i) → smN n f = smN n e
  | 0, _ => rfl
  | n + 1, h => by rw [smN_succ', smN_succ', sm_congr (fun i hi => h i (by omega)), h n (by omega)]
theorem mx_congr {f e : Nat → Nat} : ∀ {n : Nat}, (∀ i, i < n → f i = e i) → mxN n f = mxN n e
  | 0, _ => rfl
  | n + 1, h => by
    show max (mxN n f) (f n) = max (mxN n e) (e n)
    rw [mx_congr (fun i hi => h i (by omega)), h n (by omega)]
theorem sm_upd {f e : Nat → Nat} {k : Nat} : ∀ {n : Nat}, k < n → (∀ i, i < n → i ≠ k → f i = e i) → e k = 0 → smN n f = smN n e + f k
  | 0, h, _, _ => absurd h (Nat.not_lt_zero _)
  | n + 1, hk, h, h0 => by
    rw [smN_succ', smN_succ']
    by_cases e1 : k = n
    · subst e1
      rw [sm_congr (e := e) (fun i hi => h i (by omega) (by omega)), h0]; omega
    · rw [sm_upd (k := k) (e := e) (by omega) (fun i hi hne => h i (by omega) hne) h0, h n (by omega) (fun z => e1 z.symm)]; omega
theorem mx_upd {f e : Nat → Nat} {k : Nat} : ∀ {n : Nat}, k < n → (∀ i, i < n → i ≠ k → f i = e i) → e k = 0 → mxN n f = max (mxN n e) (f k)
  | 0, h, _, _ => absurd h (Nat.not_lt_zero _)
  | n + 1, hk, h, h0 => by
    show max (mxN n f) (f n) = max (max (mxN n e) (e n)) (f k)
    by_cases e1 : k = n
    · subst e1
      rw [mx_congr (e := e) (fun i hi => h i (by omega) (by omega)), h0]; omega
    · rw [mx_upd (k := k) (e := e) (by omega) (fun i hi hne => h i (by omega) hne) h0, h n (by omega) (fun z => e1 z.symm)]; omega
/-- one bid more is served -/
def andB (p : Nat → Bool) (k : Nat) : Nat → Bool := fun j => p j || decide (j = k)
theorem lef_add {tv : TV} {n k : Nat} {p : Nat → Bool} (hk : k < (tB tv).1) (hp : p k = false) : lefN tv n (andB p k) = lefN tv n p - min ((tB tv).2 k 1) (lefN tv n p) := by
  unfold lefN
  rw [sm_upd (f := fun j => if andB p k j then (tB tv).2 j 1 else 0) (e := fun j => if p j then (tB tv).2 j 1 else 0) hk (fun i _ hne => by simp [andB, hne]) (by simp [hp])]
  simp only [andB, decide_true, Bool.or_true, if_true]
  omega
theorem pri_add {tv : TV} {n k : Nat} {p : Nat → Bool} (hk : k < (tB tv).1) (hp : p k = false) : priN tv n (andB p k) = max (priN tv n p) (if gotN tv n k < (tB tv).2 k 1 then (tB tv).2 k 2 else 0) := by
  unfold priN
  rw [mx_upd (f := fun j => if andB p k j && decide (gotN tv n j < (tB tv).2 j 1) then (tB tv).2 j 2 else 0) (e := fun j => if p j && decide (gotN tv n j < (tB tv).2 j 1) then (tB tv).2 j 2 else 0) hk (fun i _ hne => by simp [andB, hne]) (by simp [hp])]
  simp only [andB, decide_true, Bool.or_true, Bool.true_and, decide_eq_true_eq]
theorem lef_congr {tv : TV} {n : Nat} {p q : Nat → Bool} (h : ∀ j, j < (tB tv).1 → p j = q j) : lefN tv n p = lefN tv n q := by
  unfold lefN; rw [sm_congr (fun i hi => by rw [h i hi])]
theorem pri_congr {tv : TV} {n : Nat} {p q : Nat → Bool} (h : ∀ j, j < (tB tv).1 → p j = q j) : priN tv n p = priN tv n q := by
  unfold priN; rw [mx_congr (fun i hi => by rw [h i hi])]
/-- served is an initial part of the order -/
def iniB (tv : TV) (p : Nat → Bool) : Prop := ∀ j k, j < (tB tv).1 → k < (tB tv).1 → p k = true → befB tv j k = true → p j = true
theorem hb_spec {tv : TV} {srv : Nat} : ∀ {k : Nat}, (hbN tv srv k = none → ∀ j, j < k → srv.testBit j = true) ∧ (∀ i, hbN tv srv k = some i → i < k ∧ srv.testBit i = false ∧ ∀ j, j < k → srv.testBit j = false → j ≠ i → befB tv i j = true)
  | 0 => ⟨fun _ j hj => absurd hj (Nat.not_lt_zero j), fun i h => by cases h⟩
  | k + 1 => by
    obtain ⟨h1, h2⟩ := hb_spec (tv := tv) (srv := srv) (k := k)
    have hlast : ∀ {j : Nat}, j < k + 1 → ¬ j < k → j = k := fun a b => by omega
    cases hk : srv.testBit k with
    | true =>
      rw [hb_skip hk]
      refine ⟨fun z j hj => ?_, fun i z => ?_⟩
      · by_cases c : j < k
        · exact h1 z j c
        · rw [hlast hj c]; exact hk
      · obtain ⟨a, b, c⟩ := h2 i z
        refine ⟨by omega, b, fun j hj hs hne => ?_⟩
        by_cases c2 : j < k
        · exact c j c2 hs hne
        · rw [hlast hj c2, hk] at hs; cases hs
    | false =>
      cases hb : hbN tv srv k with
      | none =>
        rw [hb_none hk hb]
        refine ⟨fun z => (by cases z), fun i z => ?_⟩
        cases z
        refine ⟨by omega, hk, fun j hj hs hne => ?_⟩
        have := h1 hb j (by omega)
        rw [hs] at this; cases this
      | some m =>
        obtain ⟨a, b, c⟩ := h2 m hb
        by_cases ho : (tB tv).2 m 2 < (tB tv).2 k 2
        · rw [hb_up hk hb ho]
          refine ⟨fun z => (by cases z), fun i z => ?_⟩
          cases z
          refine ⟨by omega, hk, fun j hj hs hne => ?_⟩
          by_cases e : j = m
          · subst e; unfold befB; rw [decide_eq_true ho]; rfl
          · have h9 := c j (by omega) hs e
            unfold befB at h9 ⊢
            simp only [Bool.or_eq_true, Bool.and_eq_true, decide_eq_true_eq] at h9 ⊢
            omega
        · rw [hb_stay hk hb ho]
          refine ⟨fun z => (by cases z), fun i z => ?_⟩
          cases z
          refine ⟨by omega, b, fun j hj hs hne => ?_⟩
          by_cases c2 : j < k
          · exact c j c2 hs hne
          · have e := hlast hj c2
            subst e
            unfold befB
            simp only [Bool.or_eq_true, Bool.and_eq_true, decide_eq_true_eq]
            omega
theorem ini_next {tv : TV} {srv i : Nat} (hi : iniB tv (fun j => srv.testBit j)) (h : hbN tv srv (tB tv).1 = some i) : (∀ j, j < (tB tv).1 → srv.testBit j = befB tv j i) ∧ iniB tv (andB (fun j => srv.testBit j) i) := by
  obtain ⟨a, b, c⟩ := (hb_spec (tv := tv) (srv := srv)).2 i h
  have hirr : ∀ p q, befB tv p q = true → befB tv q p = true → False := by
    intro p q h1 h2
    unfold befB at h1 h2
    simp only [Bool.or_eq_true, Bool.and_eq_true, decide_eq_true_eq] at h1 h2
    omega
  have h1 : ∀ j, j < (tB tv).1 → srv.testBit j = befB tv j i := by
    intro j hj
    cases hs : srv.testBit j with
    | true =>
      cases hb : befB tv j i with
      | true => rfl
      | false =>
        have : befB tv i j = true := by
          have hne : j ≠ i := fun e => by rw [e, b] at hs; cases hs
          unfold befB at hb ⊢
          simp only [Bool.or_eq_true, Bool.and_eq_true, decide_eq_true_eq, Bool.or_eq_false_iff, decide_eq_false_iff_not, Bool.and_eq_false_iff] at hb ⊢
          omega
        have h5 := hi i j a hj hs this
        simp only [b] at h5
        cases h5
    | false =>
      cases hb : befB tv j i with
      | false => rfl
      | true =>
        by_cases e : j = i
        · subst e; exact (hirr _ _ hb hb).elim
        · exact (hirr _ _ hb (c j hj hs e)).elim
  refine ⟨h1, fun p q hp hq hs hb => ?_⟩
  unfold andB at hs ⊢
  simp only [Bool.or_eq_true, decide_eq_true_eq] at hs ⊢
  rcases hs with hs | hs
  · exact Or.inl (hi p q hp hq hs hb)
  · subst hs; left; rw [h1 p hp]; exact hb
theorem cnt_all {p : Nat → Bool} : ∀ {n : Nat}, (∀ i, i < n → p i = true) → cnt n p = n
  | 0, _ => rfl
  | n + 1, h => by rw [cnt_succ, cnt_all (fun i hi => h i (by omega)), if_pos (h n (by omega))]
theorem cnt_and {p : Nat → Bool} {k : Nat} : ∀ {n : Nat}, k < n → p k = false → cnt n (andB p k) = cnt n p + 1
  | 0, h, _ => absurd h (Nat.not_lt_zero _)
  | n + 1, hk, hp => by
    rw [cnt_succ, cnt_succ]
    by_cases e : k = n
    · subst e
      rw [cnt_congr (q := p) (fun i hi => by unfold andB; rw [decide_eq_false (by omega), Bool.or_false]), hp]
      simp [andB]
    · rw [cnt_and (k := k) (by omega) hp]
      have : andB p k n = p n := by unfold andB; rw [decide_eq_false (fun z => e z.symm), Bool.or_false]
      rw [this]; omega
theorem mx_le {f : Nat → Nat} {M : Nat} : ∀ {n : Nat}, (∀ i, i < n → f i ≤ M) → mxN n f ≤ M
  | 0, _ => Nat.zero_le _
  | n + 1, h => Nat.max_le.mpr ⟨mx_le (fun i hi => h i (by omega)), h n (by omega)⟩
section CREAD6
variable {g : GC} {sg : SG} {I : IM} {A B : Nat} {x : XV} {tv : TV} {W : WV} {P K : SV}
theorem X_sale {n b : Int32} (hC : CSt sg I A B x tv W P K) (hS : STok x tv W P K) : Fn m_X5_sale g [rf g 0, .int n, .int b] sg I (some (.int (fSale tv n b))) sg I := by
  have hC0 := hC
  have hS0 := hS
  obtain ⟨hX0, hok, hnp, hns, ⟨hWok, hwk⟩, hPok, hKok⟩ := hS
  obtain ⟨⟨kc, c0, c1, c2, c3, c4, c5, c6, hAB, kt, u0, u1⟩, ⟨hXt, cX⟩, ⟨nn, hNt⟩, hPs, hKs, hW, hD, ⟨hT, hWl⟩, hB⟩ := hC
  have hmk := hWok.2.2.2.1
  have hn12 := hmk.1
  have hF1 := hok.1
  have hF8 := hok.2.1
  have h256 := p2_le8 hF8
  have h16 := p2_le16 hF8
  have hnw := nw_le hF8
  have hnw0 := nw_pos hWok
  have htr := hWok.1
  obtain ⟨⟨wk, w0, w1⟩, we2, we3, ⟨hM, cM⟩, hH, cH⟩ := id hW
  obtain ⟨⟨tk, t0, t1, t2, t3, t4⟩, tF5, tX6, ⟨hLt, cL⟩, ⟨hPt, cP⟩, ⟨hSt, cS⟩, ⟨hBt, cB⟩⟩ := id hT
  obtain ⟨hWt, cW⟩ := id hWl
  have kX := hXt.1
  have kM := hM.1
  have kH := hH.1
  have kL := hLt.1
  have kP := hPt.1
  have kS := hSt.1
  have kB := hBt.1
  have kW := hWt.1
  have nL10 := hLt.2.2.2.2.2.2.1
  have nP5 := hPt.2.2.2.2.2.2.1
  have nS5 := hSt.2.2.2.2.2.2.1
  have nB6 := hBt.2.2.2.2.2.2.1
  have kP0 := hPs.1.1
  have kK0 := hKs.1.1
  have hbo := hok.2.2.2.2.2.2.1
  refine Ct.of rfl (Nat.le_of_ble_eq_true rfl) fun X => ?_
  show V X _ sg I 0 [some (rf g 0), some (.int n), some (.int b), none, none, none, none, none, none, none] []
  have loop : ∀ m, m < 2147483648 → n = nI m → 1 ≤ m → m ≤ 12 → ¬ b < -1 → ¬ nI (tB tv).1 ≤ b → ∀ (d srv : Nat) (z1 z2 z3 : Option Value), okp z1 = true → okp z2 = true → okp z3 = true → srv < 2 ^ (tB tv).1 → iniB tv (fun j => srv.testBit j) → (tB tv).1 - cnt (tB tv).1 (fun j => srv.testBit j) = d → (∀ q, q < (tB tv).1 → b = nI q → srv.testBit q = false) →
      V X (ZQ X (fun r0 s0 I0 => r0 = some (.int (fSale tv n b)) ∧ s0 = sg ∧ I0 = I)) sg I 43 [some (rf g 0), some (.int (nI m)), some (.int b), some (.int (nI (priN tv m (fun j => srv.testBit j)))), some (.int (nI (lefN tv m (fun j => srv.testBit j)))), some (.int (nI srv)), some (.int (nI (cnt (tB tv).1 (fun j => srv.testBit j)))), z1, z2, z3] [] := by
    intro m hm em hm1 hm12 hb1 hb2 d
    have hcond : (nI 1 ≤ n ∧ n ≤ nI 12) ∧ (-1 ≤ b ∧ b < nI (tB tv).1) := by
      subst em
      exact ⟨⟨(nI_leI (by decide) hm).mpr hm1, (nI_leI hm (by decide)).mpr hm12⟩, by rw [Int32.not_lt] at hb1; exact hb1, by rw [Int32.not_le] at hb2; exact hb2⟩
    have hff : fSale tv n b = if b = -1 then nI (priN tv m (fun _ => true)) else nI (gotN tv m (ix b)) := by
      unfold fSale; rw [if_pos hcond, em, ix_nI hm]
    induction d with
    | zero =>
      intro srv z1 z2 z3 hz1 hz2 hz3 hsv hini hd hnb
      have hce : cnt (tB tv).1 (fun j => srv.testBit j) = (tB tv).1 := by have := cnt_le (fun j => srv.testBit j) (tB tv).1; omega
      have hall := cnt_full hce
      have hbm : b = -1 := by
        rcases int_cases b with hneg | ⟨q, hq, rfl⟩
        · have h1 : ¬ b < -1 := hb1
          rw [Int32.lt_iff_toInt_lt] at hneg h1
          apply Int32.toInt_inj.mp
          have e0 : (0 : Int32).toInt = 0 := by decide
          have e1 : (-1 : Int32).toInt = -1 := by decide
          omega
        · have hq2 : q < (tB tv).1 := by
            have := hcond.2.2
            exact (nI_ltI hq (by omega)).mp this
          have h1 := hnb q hq2 rfl
          have h2 := hall q hq2
          simp only [h1] at h2
          cases h2
      have e : priN tv m (fun j => srv.testBit j) = priN tv m (fun _ => true) := pri_congr (fun j hj => hall j hj)
      rw [hff, if_pos hbm, hce, e]
      refine V_iload rfl dX5_sale_43 ?_
      refine V_aload_n rfl dX5_sale_45 ?_
      refine gf_X5_41 (by assumption) (by assumption) rfl dX5_sale_46 ?_
      refine gf_X5_252 (by assumption) (by assumption) rfl dX5_sale_49 ?_
      refine cf_X5_84 (C_size hBt) (by assumption) rfl rfl ft0 (Nat.le_of_ble_eq_true rfl) dX5_sale_52 ?_
      refine V_icmp_geN 149 dX5_sale_55 (by decide) (by omega) (by omega) (fun h55 => ?_) (fun h55 => absurd h55 (by omega))
      refine V_iload_n rfl dX5_sale_149 ?_
      refine V_iret rfl rfl rfl ?_ dX5_sale_150
      exact ⟨rfl, rfl, rfl⟩
    | succ d ih =>
      intro srv z1 z2 z3 hz1 hz2 hz3 hsv hini hd hnb
      have hcl := cnt_le (fun j => srv.testBit j) (tB tv).1
      have hcc : cnt (tB tv).1 (fun j => srv.testBit j) < (tB tv).1 := by omega
      cases hb : hbN tv srv (tB tv).1 with
      | none =>
        have h1 := (hb_spec (tv := tv) (srv := srv)).1 hb
        have := cnt_all (p := fun j => srv.testBit j) h1
        omega
      | some i =>
        obtain ⟨a, c, -⟩ := (hb_spec (tv := tv) (srv := srv)).2 i hb
        obtain ⟨hs1, hs2⟩ := ini_next hini hb
        have hsv2 : srv < 2147483648 := Nat.lt_of_lt_of_le hsv (Nat.le_trans (Nat.pow_le_pow_right (by decide) nB6) (by decide))
        have hg : min ((tB tv).2 i 1) (lefN tv m (fun j => srv.testBit j)) = gotN tv m i := by unfold gotN; rw [lef_congr hs1]
        have hll : lefN tv m (fun j => srv.testBit j) ≤ 12 := by unfold lefN; omega
        have hpl : priN tv m (fun j => srv.testBit j) ≤ 99 := mx_le (fun j hj => by
          have := hbo j hj
          split <;> omega)
        have hwi := hbo i a
        have hB1 := cB i a 1 (by decide)
        have hB2 := cB i a 2 (by decide)
        have hhb : oI (hbN tv srv (tB tv).1) = nI i := by rw [hb]; rfl
        have hsr : (srv ||| 2 ^ i) < 2 ^ (tB tv).1 := Nat.or_lt_two_pow hsv (Nat.pow_lt_pow_right (by decide) a)
        have hfe : (fun j => (srv ||| 2 ^ i).testBit j) = andB (fun j => srv.testBit j) i := by
          funext j
          rw [Nat.testBit_or, Nat.testBit_two_pow]
          unfold andB
          rw [show decide (i = j) = decide (j = i) from decide_eq_decide.mpr ⟨Eq.symm, Eq.symm⟩]
        have hl2 := lef_add (tv := tv) (n := m) (p := fun j => srv.testBit j) a c
        have hp2 := pri_add (tv := tv) (n := m) (p := fun j => srv.testBit j) a c
        have hc2 := cnt_and (p := fun j => srv.testBit j) a c
        have h8 := fun z1 z2 z3 hz1 hz2 hz3 => ih (srv ||| 2 ^ i) z1 z2 z3 hz1 hz2 hz3 hsr
        rw [hfe] at h8
        have hgl : gotN tv m i ≤ lefN tv m (fun j => srv.testBit j) := by rw [← hg]; exact Nat.min_le_right _ _
        rw [hl2, hp2, hc2, hg] at h8
        have hgt := hg
        rw [Nat.min_def] at hgt
        have h9 := fun hnb2 => h8 (some (.int (nI i))) (some (.int (nI ((tB tv).2 i 1)))) (some (.int (nI (gotN tv m i)))) rfl rfl rfl hs2 (by omega) hnb2
        have hbi : b = nI i ∨ ¬ b = nI i := Classical.em _
        rcases hbi with hbi | hbi
        · have hbne : ¬ b = -1 := fun z => by rw [z] at hbi; exact nI_nm1 (show i < 2147483648 by omega) hbi.symm
          rw [hff, if_neg hbne, hbi, ix_nI (by omega)]
          refine V_iload rfl dX5_sale_43 ?_
          refine V_aload_n rfl dX5_sale_45 ?_
          refine gf_X5_41 (by assumption) (by assumption) rfl dX5_sale_46 ?_
          refine gf_X5_252 (by assumption) (by assumption) rfl dX5_sale_49 ?_
          refine cf_X5_84 (C_size hBt) (by assumption) rfl rfl ft0 (Nat.le_of_ble_eq_true rfl) dX5_sale_52 ?_
          refine V_icmp_geN 149 dX5_sale_55 (by decide) (by omega) (by omega) (fun h55 => absurd h55 (by omega)) (fun h55 => ?_)
          refine V_aload_n rfl dX5_sale_58 ?_
          refine gf_X5_41 (by assumption) (by assumption) rfl dX5_sale_59 ?_
          refine V_iload rfl dX5_sale_62 ?_
          refine cf_X5_255 (C_highestBid hT hok hsv2) (by assumption) rfl rfl ft0 (Nat.le_of_ble_eq_true rfl) dX5_sale_64 ?_
          rw [hhb]
          refine V_ist7 rfl rfl dX5_sale_67 ?_
          refine V_aload_n rfl dX5_sale_69 ?_
          refine gf_X5_41 (by assumption) (by assumption) rfl dX5_sale_70 ?_
          refine gf_X5_252 (by assumption) (by assumption) rfl dX5_sale_73 ?_
          refine V_iload rfl dX5_sale_76 ?_
          refine V_iconst (nI 1) (by decide) dX5_sale_78 ?_
          refine cf_X5_111 (C_get (c := 1) hBt (by omega) (by decide)) (by assumption) rfl rfl ft0 (Nat.le_of_ble_eq_true rfl) dX5_sale_79 ?_
          rw [if_pos a, hB1]
          refine V_ist8 rfl rfl dX5_sale_82 ?_
          refine V_iload rfl dX5_sale_84 ?_
          refine V_iload rfl dX5_sale_86 ?_
          refine V_minN wl_X5_222 ws_min wi_Math wc_min (by decide) (Nat.le_of_ble_eq_true rfl) fh0 (by omega) (by omega) dX5_sale_88 ?_
          rw [hg]
          refine V_ist9 rfl rfl dX5_sale_91 ?_
          refine V_iload rfl dX5_sale_93 ?_
          refine V_iload_n rfl dX5_sale_95 ?_
          refine V_icmp_neN 102 dX5_sale_96 (by decide) (by omega) (by omega) (fun h96 => absurd h96 (by omega)) (fun h96 => ?_)
          refine V_iload rfl dX5_sale_99 ?_
          refine V_iret rfl rfl rfl ?_ dX5_sale_101
          exact ⟨rfl, rfl, rfl⟩
        · have hnb2 : ∀ q, q < (tB tv).1 → b = nI q → andB (fun j => srv.testBit j) i q = false := by
            intro q hq e
            have h1 := hnb q hq e
            unfold andB
            rw [decide_eq_false (fun z => by rw [z] at e; exact hbi e)]
            simp only [h1, Bool.or_false]
          have h10 := h9 (fun q hq e => by have := hnb2 q hq e; rw [← hfe] at this; exact this)
          have hbi2 : ¬ nI i = b := fun z => hbi z.symm
          refine V_iload rfl dX5_sale_43 ?_
          refine V_aload_n rfl dX5_sale_45 ?_
          refine gf_X5_41 (by assumption) (by assumption) rfl dX5_sale_46 ?_
          refine gf_X5_252 (by assumption) (by assumption) rfl dX5_sale_49 ?_
          refine cf_X5_84 (C_size hBt) (by assumption) rfl rfl ft0 (Nat.le_of_ble_eq_true rfl) dX5_sale_52 ?_
          refine V_icmp_geN 149 dX5_sale_55 (by decide) (by omega) (by omega) (fun h55 => absurd h55 (by omega)) (fun h55 => ?_)
          refine V_aload_n rfl dX5_sale_58 ?_
          refine gf_X5_41 (by assumption) (by assumption) rfl dX5_sale_59 ?_
          refine V_iload rfl dX5_sale_62 ?_
          refine cf_X5_255 (C_highestBid hT hok hsv2) (by assumption) rfl rfl ft0 (Nat.le_of_ble_eq_true rfl) dX5_sale_64 ?_
          rw [hhb]
          refine V_ist7 rfl rfl dX5_sale_67 ?_
          refine V_aload_n rfl dX5_sale_69 ?_
          refine gf_X5_41 (by assumption) (by assumption) rfl dX5_sale_70 ?_
          refine gf_X5_252 (by assumption) (by assumption) rfl dX5_sale_73 ?_
          refine V_iload rfl dX5_sale_76 ?_
          refine V_iconst (nI 1) (by decide) dX5_sale_78 ?_
          refine cf_X5_111 (C_get (c := 1) hBt (by omega) (by decide)) (by assumption) rfl rfl ft0 (Nat.le_of_ble_eq_true rfl) dX5_sale_79 ?_
          rw [if_pos a, hB1]
          refine V_ist8 rfl rfl dX5_sale_82 ?_
          refine V_iload rfl dX5_sale_84 ?_
          refine V_iload rfl dX5_sale_86 ?_
          refine V_minN wl_X5_222 ws_min wi_Math wc_min (by decide) (Nat.le_of_ble_eq_true rfl) fh0 (by omega) (by omega) dX5_sale_88 ?_
          rw [hg]
          refine V_ist9 rfl rfl dX5_sale_91 ?_
          refine V_iload rfl dX5_sale_93 ?_
          refine V_iload_n rfl dX5_sale_95 ?_
          refine V_icmp_ne 102 dX5_sale_96 (by decide) (fun h96 => ?_) (fun h96 => absurd h96 (by exact hbi2))
          refine V_iload rfl dX5_sale_102 ?_
          refine V_iload rfl dX5_sale_104 ?_
          refine V_icmp_geN 127 dX5_sale_106 (by decide) (by omega) (by omega) (fun h106 => ?_) (fun h106 => ?_)
          · skip
            refine V_iload rfl dX5_sale_127 ?_
            refine V_iload rfl dX5_sale_129 ?_
            refine V_isubN (by omega) dX5_sale_131 ?_
            refine V_ist4 rfl rfl dX5_sale_132 ?_
            refine V_iload rfl dX5_sale_134 ?_
            refine V_iconst (nI 1) (by decide) dX5_sale_136 ?_
            refine V_iload rfl dX5_sale_137 ?_
            refine V_ishl1N (by omega) dX5_sale_139 ?_
            refine V_iorN dX5_sale_140 ?_
            refine V_ist5 rfl rfl dX5_sale_141 ?_
            refine V_iinc6_ _ (nI_inc _) rfl rfl dX5_sale_143 ?_
            refine V_goto 43 dX5_sale_146 (by decide) ?_
            first
            | (rw [if_pos (by omega)] at h10; exact h10)
            | (rw [if_neg (by omega), Nat.max_eq_left (Nat.zero_le _)] at h10; exact h10)
          · skip
            refine V_iload_n rfl dX5_sale_109 ?_
            refine V_aload_n rfl dX5_sale_110 ?_
            refine gf_X5_41 (by assumption) (by assumption) rfl dX5_sale_111 ?_
            refine gf_X5_252 (by assumption) (by assumption) rfl dX5_sale_114 ?_
            refine V_iload rfl dX5_sale_117 ?_
            refine V_iconst (nI 2) (by decide) dX5_sale_119 ?_
            refine cf_X5_111 (C_get (c := 2) hBt (by omega) (by decide)) (by assumption) rfl rfl ft0 (Nat.le_of_ble_eq_true rfl) dX5_sale_120 ?_
            rw [if_pos a, hB2]
            refine V_maxN wl_X5_240 ws_max wi_Math wc_max (by decide) (Nat.le_of_ble_eq_true rfl) fh0 (by omega) (by omega) dX5_sale_123 ?_
            refine V_ist3 rfl rfl dX5_sale_126 ?_
            refine V_iload rfl dX5_sale_127 ?_
            refine V_iload rfl dX5_sale_129 ?_
            refine V_isubN (by omega) dX5_sale_131 ?_
            refine V_ist4 rfl rfl dX5_sale_132 ?_
            refine V_iload rfl dX5_sale_134 ?_
            refine V_iconst (nI 1) (by decide) dX5_sale_136 ?_
            refine V_iload rfl dX5_sale_137 ?_
            refine V_ishl1N (by omega) dX5_sale_139 ?_
            refine V_iorN dX5_sale_140 ?_
            refine V_ist5 rfl rfl dX5_sale_141 ?_
            refine V_iinc6_ _ (nI_inc _) rfl rfl dX5_sale_143 ?_
            refine V_goto 43 dX5_sale_146 (by decide) ?_
            first
            | (rw [if_pos (by omega)] at h10; exact h10)
            | (rw [if_neg (by omega), Nat.max_eq_left (Nat.zero_le _)] at h10; exact h10)
  have hfb0 : ∀ j, (0 : Nat).testBit j = false := Nat.zero_testBit
  have hp0' : ∀ m, priN tv m (fun j => (0 : Nat).testBit j) = 0 := by
    intro m
    unfold priN
    have : ∀ n f, (∀ i, i < n → f i = 0) → mxN n f = 0 := fun n f h => Nat.le_zero.mp (mx_le (fun i hi => by rw [h i hi]; exact Nat.le_refl _))
    exact this _ _ (fun i hi => by simp only [hfb0]; rfl)
  have hl0 : ∀ m, lefN tv m (fun j => (0 : Nat).testBit j) = m := by
    intro m
    unfold lefN
    have : ∀ n f, (∀ i, i < n → f i = 0) → smN n f = 0 := by
      intro n f h
      have := sm_le (f := f) (M := 0) (n := n) (fun i hi => by rw [h i hi]; exact Nat.le_refl _)
      omega
    rw [this _ _ (fun i hi => by simp only [hfb0]; rfl)]
    exact Nat.sub_zero m
  have hc0 : cnt (tB tv).1 (fun j => (0 : Nat).testBit j) = 0 := by
    have : ∀ n, cnt n (fun j => (0 : Nat).testBit j) = 0 := by
      intro n
      induction n with
      | zero => rfl
      | succ n ih => rw [cnt_succ, ih, hfb0]; rfl
    exact this _
  have hstart : ∀ m, m < 2147483648 → n = nI m → 1 ≤ m → m ≤ 12 → ¬ b < -1 → ¬ nI (tB tv).1 ≤ b → V X (ZQ X (fun r0 s0 I0 => r0 = some (.int (fSale tv n b)) ∧ s0 = sg ∧ I0 = I)) sg I 43 [some (rf g 0), some (.int (nI m)), some (.int b), some (.int (nI 0)), some (.int (nI m)), some (.int (nI 0)), some (.int (nI 0)), none, none, none] [] := by
    intro m hm em h1 h12 hb1 hb2
    have h := loop m hm em h1 h12 hb1 hb2 _ 0 none none none rfl rfl rfl (p2_pos _) (fun j k _ _ h _ => by simp only [hfb0] at h; cases h) rfl (fun q _ _ => hfb0 q)
    rw [hp0' m, hl0 m, hc0] at h
    exact h
  have hbad : (n < nI 1 ∨ nI 12 < n ∨ b < -1 ∨ nI (tB tv).1 ≤ b) → fSale tv n b = -1 := by
    intro h
    unfold fSale
    rw [if_neg]
    intro z
    rcases h with h | h | h | h
    · exact absurd z.1.1 (by rw [Int32.not_le]; exact h)
    · exact absurd z.1.2 (by rw [Int32.not_le]; exact h)
    · exact absurd z.2.1 (by rw [Int32.not_le]; exact h)
    · exact absurd z.2.2 (by rw [Int32.not_lt]; exact h)
  refine V_iload_n rfl dX5_sale_0 ?_
  refine V_iconst (nI 1) (by decide) dX5_sale_1 ?_
  refine V_icmp_lt 30 dX5_sale_2 (by decide) (fun h2 => ?_) (fun h2 => ?_)
  · skip
    refine V_iconst (-1) (by decide) dX5_sale_30 ?_
    refine V_iret rfl rfl rfl ?_ dX5_sale_31
    refine ⟨?_, rfl, rfl⟩
    rw [hbad (by first | exact Or.inl h2 | exact Or.inr (Or.inl h8) | exact Or.inr (Or.inr (Or.inl h13)) | exact Or.inr (Or.inr (Or.inr (by rw [Int32.not_lt] at h27; exact h27))))]
  · skip
    refine V_iload_n rfl dX5_sale_5 ?_
    refine V_bipush (nI 12) (by decide) dX5_sale_6 ?_
    refine V_icmp_gt 30 dX5_sale_8 (by decide) (fun h8 => ?_) (fun h8 => ?_)
    · skip
      refine V_iconst (-1) (by decide) dX5_sale_30 ?_
      refine V_iret rfl rfl rfl ?_ dX5_sale_31
      refine ⟨?_, rfl, rfl⟩
      rw [hbad (by first | exact Or.inl h2 | exact Or.inr (Or.inl h8) | exact Or.inr (Or.inr (Or.inl h13)) | exact Or.inr (Or.inr (Or.inr (by rw [Int32.not_lt] at h27; exact h27))))]
    · skip
      refine V_iload_n rfl dX5_sale_11 ?_
      refine V_iconst (-1) (by decide) dX5_sale_12 ?_
      refine V_icmp_lt 30 dX5_sale_13 (by decide) (fun h13 => ?_) (fun h13 => ?_)
      · skip
        refine V_iconst (-1) (by decide) dX5_sale_30 ?_
        refine V_iret rfl rfl rfl ?_ dX5_sale_31
        refine ⟨?_, rfl, rfl⟩
        rw [hbad (by first | exact Or.inl h2 | exact Or.inr (Or.inl h8) | exact Or.inr (Or.inr (Or.inl h13)) | exact Or.inr (Or.inr (Or.inr (by rw [Int32.not_lt] at h27; exact h27))))]
      · skip
        refine V_iload_n rfl dX5_sale_16 ?_
        refine V_aload_n rfl dX5_sale_17 ?_
        refine gf_X5_41 (by assumption) (by assumption) rfl dX5_sale_18 ?_
        refine gf_X5_252 (by assumption) (by assumption) rfl dX5_sale_21 ?_
        refine cf_X5_84 (C_size hBt) (by assumption) rfl rfl ft0 (Nat.le_of_ble_eq_true rfl) dX5_sale_24 ?_
        refine V_icmp_lt 32 dX5_sale_27 (by decide) (fun h27 => ?_) (fun h27 => ?_)
        · skip
          refine V_iconst (nI 0) (by decide) dX5_sale_32 ?_
          refine V_ist3 rfl rfl dX5_sale_33 ?_
          refine V_iload_n rfl dX5_sale_34 ?_
          refine V_ist4 rfl rfl dX5_sale_35 ?_
          refine V_iconst (nI 0) (by decide) dX5_sale_37 ?_
          refine V_ist5 rfl rfl dX5_sale_38 ?_
          refine V_iconst (nI 0) (by decide) dX5_sale_40 ?_
          refine V_ist6 rfl rfl dX5_sale_41 ?_
          have hn0 : ¬ n < 0 := fun z => h2 (Int32.lt_trans z (by decide))
          obtain ⟨m, hm, rfl⟩ := nn_ex hn0
          rw [nI_ltI hm (by decide)] at h2
          rw [nI_ltI (by decide) hm] at h8
          exact hstart m hm rfl (by omega) (by omega) h13 (by rw [Int32.not_le]; exact h27)
        · skip
          refine V_iconst (-1) (by decide) dX5_sale_30 ?_
          refine V_iret rfl rfl rfl ?_ dX5_sale_31
          refine ⟨?_, rfl, rfl⟩
          rw [hbad (by first | exact Or.inl h2 | exact Or.inr (Or.inl h8) | exact Or.inr (Or.inr (Or.inl h13)) | exact Or.inr (Or.inr (Or.inr (by rw [Int32.not_lt] at h27; exact h27))))]
end CREAD6
