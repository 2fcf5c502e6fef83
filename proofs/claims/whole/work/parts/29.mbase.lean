/-! CarvedWeeksModel: its picture, and the small methods -/
def MK (sg : SG) : Prop := (sg.2.2.1 92).1 = 6 ∧ sg.2.2.2 92 1 = some 93 ∧ sg.2.2.2 92 3 = some 94 ∧ sg.2.2.2 92 4 = some 95 ∧ sg.2.2.2 92 5 = some 96 ∧ sg.2.2.2 92 6 = some 97 ∧ sg.2.2.2 92 7 = some 98 ∧ sg.2.2.2 92 8 = some 99 ∧ sg.2.2.2 92 10 = some 100 ∧ sg.2.2.2 92 16 = some 101 ∧ sg.2.2.2 92 17 = some 102 ∧ sg.2.2.1 93 = (8, 200) ∧ sg.2.2.1 94 = (7, 14) ∧ sg.2.2.1 95 = (7, 40) ∧ sg.2.2.1 96 = (7, 20) ∧ sg.2.2.1 97 = (7, 30) ∧ sg.2.2.1 98 = (7, 36) ∧ sg.2.2.1 99 = (9, 256) ∧ sg.2.2.1 100 = (7, 672) ∧ sg.2.2.1 101 = (7, 3) ∧ sg.2.2.1 102 = (7, 6)
def wB (tv : TV) (w : Nat) : Bool := decide (w < 2 ^ tF tv) && lawB tv w
def MTn (I : IM) (tv : TV) : Prop := I 94 0 = nI (tF tv) ∧ I 94 1 = nI (tL tv).1 ∧ I 94 2 = nI (tP tv).1 ∧ I 94 3 = nI (tS tv).1 ∧ I 94 4 = nI (tB tv).1 ∧ (∀ k, k < (tL tv).1 → ∀ c, c < 2 → I 95 (2 * k + c) = nI ((tL tv).2 k c)) ∧ (∀ k, k < (tP tv).1 → ∀ c, c < 2 → I 96 (2 * k + c) = nI ((tP tv).2 k c)) ∧ (∀ k, k < (tS tv).1 → ∀ c, c < 3 → I 97 (3 * k + c) = nI ((tS tv).2 k c)) ∧ (∀ k, k < (tB tv).1 → ∀ c, c < 3 → I 98 (3 * k + c) = nI ((tB tv).2 k c)) ∧ (∀ w, w < 256 → I 99 w = bI (wB tv w = true)) ∧ I 92 9 = nI (nw' tv)
def SlW (I : IM) (s : Nat) (W : WV) (np : Nat) : Prop := I 100 (56 * s) = nI (wT W) ∧ I 100 (56 * s + 1) = nI (wK W) ∧ I 100 (56 * s + 2) = nI (wM W).1 ∧ (∀ i, i < np → I 100 (56 * s + 3 + i) = nI (wH W i)) ∧ ∀ m, m < (wM W).1 → ∀ c, c < 4 → I 100 (56 * s + 8 + 4 * m + c) = nI ((wM W).2 m c)
theorem i64_lt {a b : Int32} : a.toInt64 < b.toInt64 ↔ a < b := by rw [Int64.lt_iff_toInt_lt, Int32.lt_iff_toInt_lt, Int32.toInt_toInt64, Int32.toInt_toInt64]
theorem lgc_lt {a b : Int32} : lg_cmp a.toInt64 b.toInt64 < 0 ↔ a < b := by
  unfold lg_cmp
  by_cases h : b.toInt64 < a.toInt64
  · rw [if_pos h]
    exact ⟨fun z => absurd z (by decide), fun z => absurd (Int32.lt_trans z (i64_lt.mp h)) Int32.lt_irrefl⟩
  · rw [if_neg h]
    by_cases h2 : a.toInt64 = b.toInt64
    · rw [if_pos h2]
      exact ⟨fun z => absurd z (by decide), fun z => absurd (i64_lt.mpr z) (by rw [h2]; exact Int64.lt_irrefl)⟩
    · rw [if_neg h2]
      refine ⟨fun _ => i64_lt.mp ?_, fun _ => by decide⟩
      rw [Int64.lt_iff_toInt_lt] at h ⊢
      have : ¬ a.toInt64.toInt = b.toInt64.toInt := fun z => h2 (Int64.toInt_inj.mp z)
      omega
theorem lgc_gt {a b : Int32} : 0 < lg_cmp a.toInt64 b.toInt64 ↔ b < a := by
  unfold lg_cmp
  by_cases h : b.toInt64 < a.toInt64
  · rw [if_pos h]
    exact ⟨fun _ => i64_lt.mp h, fun _ => by decide⟩
  · rw [if_neg h]
    by_cases h2 : a.toInt64 = b.toInt64
    · rw [if_pos h2]
      exact ⟨fun z => absurd z (by decide), fun z => absurd (i64_lt.mpr z) h⟩
    · rw [if_neg h2]
      exact ⟨fun z => absurd z (by decide), fun z => absurd (i64_lt.mpr z) h⟩
theorem inB {x : Int32} {n : Nat} (hn : n < 2147483648) : (nI 0 ≤ x ∧ x ≤ nI n - nI 1) ↔ (0 ≤ x ∧ x < nI n) := by
  rcases int_cases x with h | ⟨j, hj, rfl⟩
  · exact ⟨fun z => absurd z.1 (by rw [Int32.not_le]; exact h), fun z => absurd z.1 (by rw [Int32.not_le]; exact h)⟩
  · rw [nI_ltI hj hn]
    by_cases h0 : n = 0
    · subst h0
      rw [show nI 0 - nI 1 = -1 by decide]
      exact ⟨fun z => absurd z.2 (neg_lt (by decide) j hj), fun z => absurd z.2 (Nat.not_lt_zero j)⟩
    · rw [nI_subN (by omega), nI_leI hj (by omega)]
      exact ⟨fun z => ⟨nI_ge0 hj, by omega⟩, fun z => ⟨nI_ge0 hj, by omega⟩⟩
theorem filt_len (p : Nat → Bool) : ∀ n, ((List.range n).filter p).length = cnt n p
  | 0 => rfl
  | n + 1 => by
    rw [filt_succ, List.length_append, filt_len p n, cnt_succ]
    cases p n <;> rfl
theorem cnt_lt {p : Nat → Bool} {w : Nat} (hp : p w = true) : ∀ n, w < n → cnt w p < cnt n p
  | 0, h => absurd h (Nat.not_lt_zero w)
  | n + 1, h => by
    rw [cnt_succ]
    by_cases e : w = n
    · subst e; rw [if_pos hp]; omega
    · have := cnt_lt hp n (by omega); omega
theorem filt_at {p : Nat → Bool} {w : Nat} (hp : p w = true) : ∀ n, w < n → ((List.range n).filter p).getD (cnt w p) 0 = w
  | 0, h => absurd h (Nat.not_lt_zero w)
  | n + 1, h => by
    rw [filt_succ, List.getD_eq_getElem?_getD, List.getElem?_append, filt_len]
    by_cases e : w = n
    · subst e
      rw [if_neg (Nat.lt_irrefl _), if_pos hp, Nat.sub_self]; rfl
    · have h1 := filt_at hp n (by omega)
      rw [List.getD_eq_getElem?_getD] at h1
      rw [if_pos (cnt_lt hp n (by omega))]; exact h1
theorem cnt_ext {p q : Nat → Bool} {a b : Nat} (h : a ≤ b) (h1 : ∀ i, i < a → q i = p i) (h2 : ∀ i, a ≤ i → q i = false) : cnt b q = cnt a p := by
  obtain ⟨d, rfl⟩ : ∃ d, b = a + d := ⟨b - a, by omega⟩
  rw [cnt_more d h2]
  exact cnt_congr h1
theorem nw_cnt {tv : TV} (h8 : tF tv ≤ 8) : nw' tv = cnt 256 (wB tv) := by
  unfold nw' wls
  rw [filt_len, cnt_ext (q := wB tv) (p := lawB tv) (p2_le8 h8) (fun i hi => by unfold wB; rw [decide_eq_true hi, Bool.true_and]) (fun i hi => by unfold wB; rw [decide_eq_false (by omega), Bool.false_and])]
theorem wB_t {tv : TV} {w : Nat} (h : wB tv w = true) : w < 2 ^ tF tv ∧ lawB tv w = true := by
  unfold wB at h
  rw [Bool.and_eq_true, decide_eq_true_eq] at h; exact h
theorem wl_at {tv : TV} {w : Nat} (h : wB tv w = true) : wl tv (cnt w (wB tv)) = w := by
  obtain ⟨a, b⟩ := wB_t h
  have e : cnt w (wB tv) = cnt w (lawB tv) := cnt_congr (fun i hi => by unfold wB; rw [decide_eq_true (by omega), Bool.true_and])
  rw [e]; exact filt_at b _ a
theorem wl_wB {tv : TV} {k : Nat} (h : k < nw' tv) : wB tv (wl tv k) = true := by
  obtain ⟨a, b⟩ := wl_mem h
  unfold wB; rw [decide_eq_true a, b]; rfl
theorem all_wl {tv : TV} (h8 : tF tv ≤ 8) (q : Nat → Bool) : allB (nw' tv) (fun i => q (wl tv i)) = allB 256 (fun w => !wB tv w || q w) := by
  apply Bool.eq_iff_iff.mpr
  rw [allB_iff, allB_iff]
  constructor
  · intro h w hw
    cases hb : wB tv w with
    | false => rfl
    | true =>
      have h1 := h (cnt w (wB tv)) (by rw [nw_cnt h8]; exact cnt_lt hb 256 hw)
      rw [wl_at hb] at h1
      rw [h1]; rfl
  · intro h i hi
    have h1 := h (wl tv i) (Nat.lt_of_lt_of_le (wl_mem hi).1 (p2_le8 h8))
    rw [wl_wB hi] at h1
    simpa using h1
theorem any_wl {tv : TV} (h8 : tF tv ≤ 8) (q : Nat → Bool) : anyB (nw' tv) (fun i => q (wl tv i)) = anyB 256 (fun w => wB tv w && q w) := by
  unfold anyB
  rw [all_wl h8 (fun w => !q w)]
  exact congrArg (fun b => !b) (allB_congr (fun i _ => by show (!wB tv i || !q i) = !(wB tv i && q i); cases wB tv i <;> cases q i <;> rfl))
section MBASE
variable {g : GC} {sg : SG} {I : IM} {tv : TV} {W : WV} {np : Nat}
theorem C_in {a b c : Int32} : Fn m_X6_in g [.long a.toInt64, .long b.toInt64, .long c.toInt64] sg I (some (.int (bI (b ≤ a ∧ a ≤ c)))) sg I := by
  refine Ct.of rfl (Nat.le_of_ble_eq_true rfl) fun X => ?_
  show V X _ sg I 0 [some (.long a.toInt64), none, some (.long b.toInt64), none, some (.long c.toInt64), none] []
  refine V_lload_n rfl dX6_in_0 ?_
  refine V_lload_n rfl dX6_in_1 ?_
  refine V_lcmp dX6_in_2 ?_
  refine V_if_lt 17 dX6_in_3 (by decide) (fun h3 => ?_) (fun h3 => ?_)
  · skip
    refine V_iconst (nI 0) (by decide) dX6_in_17 ?_
    refine V_zret rfl (rfl) rfl rfl ?_ dX6_in_18
    refine ⟨?_, rfl, rfl⟩
    first
    | (rw [lgc_lt] at h3; rw [bI_f (fun z => absurd z.1 (by rw [Int32.not_le]; exact h3))])
    | (rw [lgc_gt] at h10; rw [bI_f (fun z => absurd z.2 (by rw [Int32.not_le]; exact h10))])
    | (rw [lgc_lt] at h3; rw [lgc_gt] at h10; rw [Int32.not_lt] at h3 h10; rw [bI_t ⟨h3, h10⟩])
  · skip
    refine V_lload_n rfl dX6_in_6 ?_
    refine V_lload rfl dX6_in_7 ?_
    refine V_lcmp dX6_in_9 ?_
    refine V_if_gt 17 dX6_in_10 (by decide) (fun h10 => ?_) (fun h10 => ?_)
    · skip
      refine V_iconst (nI 0) (by decide) dX6_in_17 ?_
      refine V_zret rfl (rfl) rfl rfl ?_ dX6_in_18
      refine ⟨?_, rfl, rfl⟩
      first
      | (rw [lgc_lt] at h3; rw [bI_f (fun z => absurd z.1 (by rw [Int32.not_le]; exact h3))])
      | (rw [lgc_gt] at h10; rw [bI_f (fun z => absurd z.2 (by rw [Int32.not_le]; exact h10))])
      | (rw [lgc_lt] at h3; rw [lgc_gt] at h10; rw [Int32.not_lt] at h3 h10; rw [bI_t ⟨h3, h10⟩])
    · skip
      refine V_iconst (nI 1) (by decide) dX6_in_13 ?_
      refine V_goto 18 dX6_in_14 (by decide) ?_
      refine V_zret rfl (rfl) rfl rfl ?_ dX6_in_18
      refine ⟨?_, rfl, rfl⟩
      first
      | (rw [lgc_lt] at h3; rw [bI_f (fun z => absurd z.1 (by rw [Int32.not_le]; exact h3))])
      | (rw [lgc_gt] at h10; rw [bI_f (fun z => absurd z.2 (by rw [Int32.not_le]; exact h10))])
      | (rw [lgc_lt] at h3; rw [lgc_gt] at h10; rw [Int32.not_lt] at h3 h10; rw [bI_t ⟨h3, h10⟩])
theorem C_inN {a c : Int32} {lo : Nat} (hl : lo < 2147483648) : Fn m_X6_in g [.long a.toInt64, .long (lN lo), .long c.toInt64] sg I (some (.int (bI (nI lo ≤ a ∧ a ≤ c)))) sg I := by
  rw [← nI_toL hl]; exact C_in
theorem C_inNN {a : Int32} {lo hi : Nat} (hl : lo < 2147483648) (hh : hi < 2147483648) : Fn m_X6_in g [.long a.toInt64, .long (lN lo), .long (lN hi)] sg I (some (.int (bI (nI lo ≤ a ∧ a ≤ nI hi)))) sg I := by
  rw [← nI_toL hl, ← nI_toL hh]; exact C_in
/-- 0 to n - 1 -/
theorem C_in0 {a : Int32} {n : Nat} (hn : n < 2147483648) : Fn m_X6_in g [.long a.toInt64, .long (lN 0), .long (nI n - nI 1).toInt64] sg I (some (.int (bI (0 ≤ a ∧ a < nI n)))) sg I := by
  have h := C_inN (g := g) (sg := sg) (I := I) (a := a) (c := nI n - nI 1) (lo := 0) (by decide)
  rw [bI_congr (inB hn)] at h
  exact h
/-- 0 to k -/
theorem C_in0k {a : Int32} {k : Nat} (hn : k + 1 < 2147483648) : Fn m_X6_in g [.long a.toInt64, .long (lN 0), .long (lN k)] sg I (some (.int (bI (0 ≤ a ∧ a < nI (k + 1))))) sg I := by
  have h := C_inNN (g := g) (sg := sg) (I := I) (a := a) (lo := 0) (hi := k) (by decide) (by omega)
  rw [show nI k = nI (k + 1) - nI 1 from (nI_pred1 k).symm, bI_congr (inB hn)] at h
  exact h
theorem D_isFact {f : Int32} (hK : MK sg) (hT : MTn I tv) (hok : TVok tv) : Fn m_X6_isFact g [rf g 92, .int f] sg I (some (.int (bI (0 ≤ f ∧ f < nI (tF tv))))) sg I := by
  obtain ⟨m0, mR1, mR3, mR4, mR5, mR6, mR7, mR8, mR10, mR16, mR17, mA93, mA94, mA95, mA96, mA97, mA98, mA99, mA100, mA101, mA102⟩ := hK
  obtain ⟨mF, mnL, mnP, mnS, mnB, mL, mP, mS, mB, mWd, mnw⟩ := hT
  have hF1 := hok.1
  have hF8 := hok.2.1
  have h256 := p2_le8 hF8
  have h16 := p2_le16 hF8
  have nL10 := hok.2.2.2.2.2.2.2.1
  have nP5 := hok.2.2.2.2.2.2.2.2.1
  have nS5 := hok.2.2.2.2.2.2.2.2.2.1
  have nB6 := hok.2.2.2.2.2.2.2.2.2.2
  refine Ct.of rfl (Nat.le_of_ble_eq_true rfl) fun X => ?_
  show V X _ sg I 0 [some (rf g 92), some (.int f)] []
  refine V_iload_n rfl dX6_isFact_0 ?_
  refine V_i2l dX6_isFact_1 ?_
  refine V_lconst (lN 0) rfl dX6_isFact_2 ?_
  refine V_aload_n rfl dX6_isFact_3 ?_
  refine gf_X6_13 (by assumption) (by assumption) rfl dX6_isFact_4 ?_
  refine V_iconst (nI 0) (by decide) dX6_isFact_7 ?_
  refine V_iald _ (by assumption) rfl (by omega) (by omega) dX6_isFact_8 ?_
  refine V_topi (mF) ?_
  refine V_iconst (nI 1) (by decide) dX6_isFact_9 ?_
  refine V_isub dX6_isFact_10 ?_
  refine V_i2l dX6_isFact_11 ?_
  refine cf_X6_52 (C_in0 (by omega)) rfl rfl ft0 (Nat.le_of_ble_eq_true rfl) dX6_isFact_12 ?_
  refine V_zret rfl (bI_nar _) rfl rfl ?_ dX6_isFact_15
  exact ⟨rfl, rfl, rfl⟩
theorem D_isPerson {f : Int32} (hK : MK sg) (hT : MTn I tv) (hok : TVok tv) : Fn m_X6_isPerson g [rf g 92, .int f] sg I (some (.int (bI (0 ≤ f ∧ f < nI (tP tv).1)))) sg I := by
  obtain ⟨m0, mR1, mR3, mR4, mR5, mR6, mR7, mR8, mR10, mR16, mR17, mA93, mA94, mA95, mA96, mA97, mA98, mA99, mA100, mA101, mA102⟩ := hK
  obtain ⟨mF, mnL, mnP, mnS, mnB, mL, mP, mS, mB, mWd, mnw⟩ := hT
  have hF1 := hok.1
  have hF8 := hok.2.1
  have h256 := p2_le8 hF8
  have h16 := p2_le16 hF8
  have nL10 := hok.2.2.2.2.2.2.2.1
  have nP5 := hok.2.2.2.2.2.2.2.2.1
  have nS5 := hok.2.2.2.2.2.2.2.2.2.1
  have nB6 := hok.2.2.2.2.2.2.2.2.2.2
  refine Ct.of rfl (Nat.le_of_ble_eq_true rfl) fun X => ?_
  show V X _ sg I 0 [some (rf g 92), some (.int f)] []
  refine V_iload_n rfl dX6_isPerson_0 ?_
  refine V_i2l dX6_isPerson_1 ?_
  refine V_lconst (lN 0) rfl dX6_isPerson_2 ?_
  refine V_aload_n rfl dX6_isPerson_3 ?_
  refine gf_X6_13 (by assumption) (by assumption) rfl dX6_isPerson_4 ?_
  refine V_iconst (nI 2) (by decide) dX6_isPerson_7 ?_
  refine V_iald _ (by assumption) rfl (by omega) (by omega) dX6_isPerson_8 ?_
  refine V_topi (mnP) ?_
  refine V_iconst (nI 1) (by decide) dX6_isPerson_9 ?_
  refine V_isub dX6_isPerson_10 ?_
  refine V_i2l dX6_isPerson_11 ?_
  refine cf_X6_52 (C_in0 (by omega)) rfl rfl ft0 (Nat.le_of_ble_eq_true rfl) dX6_isPerson_12 ?_
  refine V_zret rfl (bI_nar _) rfl rfl ?_ dX6_isPerson_15
  exact ⟨rfl, rfl, rfl⟩
theorem D_isStone {f : Int32} (hK : MK sg) (hT : MTn I tv) (hok : TVok tv) : Fn m_X6_isStone g [rf g 92, .int f] sg I (some (.int (bI (0 ≤ f ∧ f < nI (tS tv).1)))) sg I := by
  obtain ⟨m0, mR1, mR3, mR4, mR5, mR6, mR7, mR8, mR10, mR16, mR17, mA93, mA94, mA95, mA96, mA97, mA98, mA99, mA100, mA101, mA102⟩ := hK
  obtain ⟨mF, mnL, mnP, mnS, mnB, mL, mP, mS, mB, mWd, mnw⟩ := hT
  have hF1 := hok.1
  have hF8 := hok.2.1
  have h256 := p2_le8 hF8
  have h16 := p2_le16 hF8
  have nL10 := hok.2.2.2.2.2.2.2.1
  have nP5 := hok.2.2.2.2.2.2.2.2.1
  have nS5 := hok.2.2.2.2.2.2.2.2.2.1
  have nB6 := hok.2.2.2.2.2.2.2.2.2.2
  refine Ct.of rfl (Nat.le_of_ble_eq_true rfl) fun X => ?_
  show V X _ sg I 0 [some (rf g 92), some (.int f)] []
  refine V_iload_n rfl dX6_isStone_0 ?_
  refine V_i2l dX6_isStone_1 ?_
  refine V_lconst (lN 0) rfl dX6_isStone_2 ?_
  refine V_aload_n rfl dX6_isStone_3 ?_
  refine gf_X6_13 (by assumption) (by assumption) rfl dX6_isStone_4 ?_
  refine V_iconst (nI 3) (by decide) dX6_isStone_7 ?_
  refine V_iald _ (by assumption) rfl (by omega) (by omega) dX6_isStone_8 ?_
  refine V_topi (mnS) ?_
  refine V_iconst (nI 1) (by decide) dX6_isStone_9 ?_
  refine V_isub dX6_isStone_10 ?_
  refine V_i2l dX6_isStone_11 ?_
  refine cf_X6_52 (C_in0 (by omega)) rfl rfl ft0 (Nat.le_of_ble_eq_true rfl) dX6_isStone_12 ?_
  refine V_zret rfl (bI_nar _) rfl rfl ?_ dX6_isStone_15
  exact ⟨rfl, rfl, rfl⟩
theorem D_isSaying {f : Int32} (hK : MK sg) (hT : MTn I tv) (hok : TVok tv) : Fn m_X6_isSaying g [rf g 92, .int f] sg I (some (.int (bI (0 ≤ f ∧ f < nI (2 * tF tv))))) sg I := by
  obtain ⟨m0, mR1, mR3, mR4, mR5, mR6, mR7, mR8, mR10, mR16, mR17, mA93, mA94, mA95, mA96, mA97, mA98, mA99, mA100, mA101, mA102⟩ := hK
  obtain ⟨mF, mnL, mnP, mnS, mnB, mL, mP, mS, mB, mWd, mnw⟩ := hT
  have hF1 := hok.1
  have hF8 := hok.2.1
  have h256 := p2_le8 hF8
  have h16 := p2_le16 hF8
  have nL10 := hok.2.2.2.2.2.2.2.1
  have nP5 := hok.2.2.2.2.2.2.2.2.1
  have nS5 := hok.2.2.2.2.2.2.2.2.2.1
  have nB6 := hok.2.2.2.2.2.2.2.2.2.2
  refine Ct.of rfl (Nat.le_of_ble_eq_true rfl) fun X => ?_
  show V X _ sg I 0 [some (rf g 92), some (.int f)] []
  refine V_iload_n rfl dX6_isSaying_0 ?_
  refine V_i2l dX6_isSaying_1 ?_
  refine V_lconst (lN 0) rfl dX6_isSaying_2 ?_
  refine V_iconst (nI 2) (by decide) dX6_isSaying_3 ?_
  refine V_aload_n rfl dX6_isSaying_4 ?_
  refine gf_X6_13 (by assumption) (by assumption) rfl dX6_isSaying_5 ?_
  refine V_iconst (nI 0) (by decide) dX6_isSaying_8 ?_
  refine V_iald _ (by assumption) rfl (by omega) (by omega) dX6_isSaying_9 ?_
  refine V_topi (mF) ?_
  refine V_imulN dX6_isSaying_10 ?_
  refine V_iconst (nI 1) (by decide) dX6_isSaying_11 ?_
  refine V_isub dX6_isSaying_12 ?_
  refine V_i2l dX6_isSaying_13 ?_
  refine cf_X6_52 (C_in0 (by omega)) rfl rfl ft0 (Nat.le_of_ble_eq_true rfl) dX6_isSaying_14 ?_
  refine V_zret rfl (bI_nar _) rfl rfl ?_ dX6_isSaying_17
  exact ⟨rfl, rfl, rfl⟩
theorem D_isSet {f : Int32} (hK : MK sg) (hT : MTn I tv) (hok : TVok tv) : Fn m_X6_isSet g [rf g 92, .int f] sg I (some (.int (bI (0 ≤ f ∧ f < nI (2 ^ tF tv))))) sg I := by
  obtain ⟨m0, mR1, mR3, mR4, mR5, mR6, mR7, mR8, mR10, mR16, mR17, mA93, mA94, mA95, mA96, mA97, mA98, mA99, mA100, mA101, mA102⟩ := hK
  obtain ⟨mF, mnL, mnP, mnS, mnB, mL, mP, mS, mB, mWd, mnw⟩ := hT
  have hF1 := hok.1
  have hF8 := hok.2.1
  have h256 := p2_le8 hF8
  have h16 := p2_le16 hF8
  have nL10 := hok.2.2.2.2.2.2.2.1
  have nP5 := hok.2.2.2.2.2.2.2.2.1
  have nS5 := hok.2.2.2.2.2.2.2.2.2.1
  have nB6 := hok.2.2.2.2.2.2.2.2.2.2
  refine Ct.of rfl (Nat.le_of_ble_eq_true rfl) fun X => ?_
  show V X _ sg I 0 [some (rf g 92), some (.int f)] []
  refine V_iload_n rfl dX6_isSet_0 ?_
  refine V_i2l dX6_isSet_1 ?_
  refine V_lconst (lN 0) rfl dX6_isSet_2 ?_
  refine V_iconst (nI 1) (by decide) dX6_isSet_3 ?_
  refine V_aload_n rfl dX6_isSet_4 ?_
  refine gf_X6_13 (by assumption) (by assumption) rfl dX6_isSet_5 ?_
  refine V_iconst (nI 0) (by decide) dX6_isSet_8 ?_
  refine V_iald _ (by assumption) rfl (by omega) (by omega) dX6_isSet_9 ?_
  refine V_topi (mF) ?_
  refine V_ishl1N (by omega) dX6_isSet_10 ?_
  refine V_iconst (nI 1) (by decide) dX6_isSet_11 ?_
  refine V_isub dX6_isSet_12 ?_
  refine V_i2l dX6_isSet_13 ?_
  refine cf_X6_52 (C_in0 (by omega)) rfl rfl ft0 (Nat.le_of_ble_eq_true rfl) dX6_isSet_14 ?_
  refine V_zret rfl (bI_nar _) rfl rfl ?_ dX6_isSet_17
  exact ⟨rfl, rfl, rfl⟩
theorem D_isMark {f : Int32} (hK : MK sg) (hW : SlW I 0 W np) (hm : (wM W).1 ≤ 12) : Fn m_X6_isMark g [rf g 92, .int f] sg I (some (.int (bI (0 ≤ f ∧ f < nI (wM W).1)))) sg I := by
  obtain ⟨m0, mR1, mR3, mR4, mR5, mR6, mR7, mR8, mR10, mR16, mR17, mA93, mA94, mA95, mA96, mA97, mA98, mA99, mA100, mA101, mA102⟩ := hK
  refine Ct.of rfl (Nat.le_of_ble_eq_true rfl) fun X => ?_
  show V X _ sg I 0 [some (rf g 92), some (.int f)] []
  refine V_iload_n rfl dX6_isMark_0 ?_
  refine V_i2l dX6_isMark_1 ?_
  refine V_lconst (lN 0) rfl dX6_isMark_2 ?_
  refine V_aload_n rfl dX6_isMark_3 ?_
  refine gf_X6_33 (by assumption) (by assumption) rfl dX6_isMark_4 ?_
  refine V_iconst (nI 2) (by decide) dX6_isMark_7 ?_
  refine V_iald _ (by assumption) rfl (by omega) (by omega) dX6_isMark_8 ?_
  refine V_topi (hW.2.2.1) ?_
  refine V_iconst (nI 1) (by decide) dX6_isMark_9 ?_
  refine V_isub dX6_isMark_10 ?_
  refine V_i2l dX6_isMark_11 ?_
  refine cf_X6_52 (C_in0 (by omega)) rfl rfl ft0 (Nat.le_of_ble_eq_true rfl) dX6_isMark_12 ?_
  refine V_zret rfl (bI_nar _) rfl rfl ?_ dX6_isMark_15
  exact ⟨rfl, rfl, rfl⟩
theorem D_isRule {h : Int32} : Fn m_X6_isRule g [.int h] sg I (some (.int (bI (h = nI 1 ∨ h = nI 2)))) sg I := by
  refine Ct.of rfl (Nat.le_of_ble_eq_true rfl) fun X => ?_
  show V X _ sg I 0 [some (.int h)] []
  have e : (nI 1 ≤ h ∧ h ≤ nI 2) ↔ (h = nI 1 ∨ h = nI 2) := by
    rcases int_cases h with z | ⟨j, hj, rfl⟩
    · constructor
      · intro y; exact absurd (Int32.lt_of_lt_of_le z (show (0 : Int32) ≤ nI 1 by decide)) (by rw [Int32.not_lt]; exact y.1)
      · rintro (rfl | rfl) <;> exact absurd z (by decide)
    · rw [nI_leI (by decide) hj, nI_leI hj (by decide), nI_eq hj (by decide), nI_eq hj (by decide)]
      omega
  rw [← bI_congr e]
  refine V_iload_n rfl dX6_isRule_0 ?_
  refine V_i2l dX6_isRule_1 ?_
  refine V_lconst (lN 1) rfl dX6_isRule_2 ?_
  refine V_ldc2 RX6 _ rfl wk_X6_67 dX6_isRule_3 ?_
  rw [show (2 : Int64) = lN 2 from by decide]
  refine cf_X6_52 (C_inNN (by decide) (by decide)) rfl rfl ft0 (Nat.le_of_ble_eq_true rfl) dX6_isRule_6 ?_
  refine V_zret rfl (bI_nar _) rfl rfl ?_ dX6_isRule_9
  exact ⟨rfl, rfl, rfl⟩
theorem D_isSo {v s : Nat} (hv : v < 62) (hs : s < 2147483648) : Fn m_X6_isSo g [.int (nI v), .int (nI s)] sg I (some (.int (bI (so v s = true)))) sg I := by
  have e : so v s = true ↔ ¬ s / 2 ^ (v / 2) % 2 = v % 2 := by
    unfold so
    rw [Nat.testBit_eq_decide_div_mod_eq]
    have h1 := Nat.mod_two_eq_zero_or_one (s / 2 ^ (v / 2))
    have h2 := Nat.mod_two_eq_zero_or_one v
    rcases h1 with a | a <;> rcases h2 with b | b <;> rw [a, b] <;> decide
  have hle : s / 2 ^ (v / 2) ≤ s := Nat.div_le_self _ _
  rw [bI_congr e]
  refine Ct.of rfl (Nat.le_of_ble_eq_true rfl) fun X => ?_
  show V X _ sg I 0 [some (.int (nI v)), some (.int (nI s))] []
  refine V_iload_n rfl dX6_isSo_0 ?_
  refine V_iload_n rfl dX6_isSo_1 ?_
  refine V_iconst (nI 2) (by decide) dX6_isSo_2 ?_
  refine V_idiv (by decide) dX6_isSo_3 ?_
  refine V_topi (nI_div (by omega) (by decide) (by decide)) ?_
  refine V_ishrN ⟨by omega, by omega⟩ dX6_isSo_4 ?_
  refine V_iconst (nI 1) (by decide) dX6_isSo_5 ?_
  refine V_iand1N dX6_isSo_6 ?_
  refine V_iload_n rfl dX6_isSo_7 ?_
  refine V_iconst (nI 1) (by decide) dX6_isSo_8 ?_
  refine V_iand1N dX6_isSo_9 ?_
  refine V_icmp_eqN 17 dX6_isSo_10 (by decide) (by omega) (by omega) (fun h10 => ?_) (fun h10 => ?_)
  · skip
    refine V_iconst (nI 0) (by decide) dX6_isSo_17 ?_
    refine V_zret rfl (rfl) rfl rfl ?_ dX6_isSo_18
    exact ⟨by first | rw [bI_t h10] | rw [bI_f (fun z => z h10)], rfl, rfl⟩
  · skip
    refine V_iconst (nI 1) (by decide) dX6_isSo_13 ?_
    refine V_goto 18 dX6_isSo_14 (by decide) ?_
    refine V_zret rfl (rfl) rfl rfl ?_ dX6_isSo_18
    exact ⟨by first | rw [bI_t h10] | rw [bI_f (fun z => z h10)], rfl, rfl⟩
theorem D_many {n : Nat} (hn : n < 65536) : Fn m_X6_many g [.int (nI n)] sg I (some (.int (nI (pc16 n)))) sg I := by
  refine Ct.of rfl (Nat.le_of_ble_eq_true rfl) fun X => ?_
  show V X _ sg I 0 [some (.int (nI n)), none, none] []
  have loop : ∀ (d k : Nat), 16 - k = d → k ≤ 16 → V X (ZQ X (fun r0 s0 I0 => r0 = some (.int (nI (pc16 n))) ∧ s0 = sg ∧ I0 = I)) sg I 4 [some (.int (nI n)), some (.int (nI (pcN k n))), some (.int (nI k))] [] := by
    intro d
    induction d with
    | zero =>
      intro k hd hk
      have e : k = 16 := by omega
      subst e
      refine V_iload_n rfl dX6_many_4 ?_
      refine V_bipush (nI 16) (by decide) dX6_many_5 ?_
      refine V_icmp_geN 24 dX6_many_7 (by decide) (by omega) (by omega) (fun h7 => ?_) (fun h7 => absurd h7 (by decide))
      refine V_iload_n rfl dX6_many_24 ?_
      refine V_iret rfl rfl rfl ?_ dX6_many_25
      exact ⟨rfl, rfl, rfl⟩
    | succ d ih =>
      intro k hd hk
      have h8 := ih (k + 1) (by omega) (by omega)
      rw [pcN_succ] at h8
      refine V_iload_n rfl dX6_many_4 ?_
      refine V_bipush (nI 16) (by decide) dX6_many_5 ?_
      refine V_icmp_geN 24 dX6_many_7 (by decide) (by omega) (by omega) (fun h7 => absurd h7 (by omega)) (fun h7 => ?_)
      refine V_iload_n rfl dX6_many_10 ?_
      refine V_iload_n rfl dX6_many_11 ?_
      refine V_iload_n rfl dX6_many_12 ?_
      refine V_ishrN ⟨by omega, by omega⟩ dX6_many_13 ?_
      refine V_iconst (nI 1) (by decide) dX6_many_14 ?_
      refine V_iand1N dX6_many_15 ?_
      refine V_iaddN dX6_many_16 ?_
      refine V_ist1 rfl rfl dX6_many_17 ?_
      refine V_iinc2_ _ (nI_inc _) rfl rfl dX6_many_18 ?_
      refine V_goto 4 dX6_many_21 (by decide) ?_
      exact h8
  refine V_iconst (nI 0) (by decide) dX6_many_0 ?_
  refine V_ist1 rfl rfl dX6_many_1 ?_
  refine V_iconst (nI 0) (by decide) dX6_many_2 ?_
  refine V_ist2 rfl rfl dX6_many_3 ?_
  exact loop 16 0 rfl (by decide)
theorem D_areSo {rd s : Nat} (hr : rd < 65536) (hs : s < 256) : Fn m_X6_areSo g [.int (nI rd), .int (nI s)] sg I (some (.int (bI (sat rd s = true)))) sg I := by
  refine Ct.of rfl (Nat.le_of_ble_eq_true rfl) fun X => ?_
  show V X _ sg I 0 [some (.int (nI rd)), some (.int (nI s)), none, none] []
  have loop : ∀ (d k : Nat), 16 - k = d → k ≤ 16 → V X (ZQ X (fun r0 s0 I0 => r0 = some (.int (bI (sat rd s = true))) ∧ s0 = sg ∧ I0 = I)) sg I 4 [some (.int (nI rd)), some (.int (nI s)), some (.int (bI (allB k (fun v => !rd.testBit v || so v s) = true))), some (.int (nI k))] [] := by
    intro d
    induction d with
    | zero =>
      intro k hd hk
      have e : k = 16 := by omega
      subst e
      refine V_iload_n rfl dX6_areSo_4 ?_
      refine V_bipush (nI 16) (by decide) dX6_areSo_5 ?_
      refine V_icmp_geN 42 dX6_areSo_7 (by decide) (by omega) (by omega) (fun h7 => ?_) (fun h7 => absurd h7 (by decide))
      refine V_iload_n rfl dX6_areSo_42 ?_
      refine V_zret rfl (bI_nar _) rfl rfl ?_ dX6_areSo_43
      exact ⟨rfl, rfl, rfl⟩
    | succ d ih =>
      intro k hd hk
      have h8 := ih (k + 1) (by omega) (by omega)
      have ha : allB (k + 1) (fun v => !rd.testBit v || so v s) = (allB k (fun v => !rd.testBit v || so v s) && (!rd.testBit k || so k s)) := rfl
      rw [ha] at h8
      have htb : rd.testBit k = decide (rd / 2 ^ k % 2 = 1) := Nat.testBit_eq_decide_div_mod_eq
      have hle : rd / 2 ^ k ≤ rd := Nat.div_le_self _ _
      refine V_iload_n rfl dX6_areSo_4 ?_
      refine V_bipush (nI 16) (by decide) dX6_areSo_5 ?_
      refine V_icmp_geN 42 dX6_areSo_7 (by decide) (by omega) (by omega) (fun h7 => absurd h7 (by omega)) (fun h7 => ?_)
      refine V_iload_n rfl dX6_areSo_10 ?_
      refine V_if_eqB 34 dX6_areSo_11 (by decide) (fun h11 => ?_) (fun h11 => ?_)
      · skip
        refine V_iconst (nI 0) (by decide) dX6_areSo_34 ?_
        refine V_ist2 rfl rfl dX6_areSo_35 ?_
        refine V_iinc3_ _ (nI_inc _) rfl rfl dX6_areSo_36 ?_
        refine V_goto 4 dX6_areSo_39 (by decide) ?_
        refine V_same ?_ h8
        congr 4
        first
        | rw [bI_f (by rw [Bool.and_eq_true]; exact fun z => h11 z.1)]
        | (rw [bI_t]; rw [Bool.and_eq_true]; refine ⟨h11, ?_⟩; rw [htb, decide_eq_false (by omega)]; rfl)
        | (rw [bI_t]; rw [Bool.and_eq_true]; refine ⟨h11, ?_⟩; rw [h27, Bool.or_true])
        | (rw [bI_f]; rw [Bool.and_eq_true]; intro z; have z2 := z.2; rw [htb, decide_eq_true (by omega)] at z2; exact h27 z2)
      · skip
        refine V_iload_n rfl dX6_areSo_14 ?_
        refine V_iload_n rfl dX6_areSo_15 ?_
        refine V_ishrN ⟨by omega, by omega⟩ dX6_areSo_16 ?_
        refine V_iconst (nI 1) (by decide) dX6_areSo_17 ?_
        refine V_iand1N dX6_areSo_18 ?_
        refine V_if_eqN 30 dX6_areSo_19 (by decide) (by omega) (fun h19 => ?_) (fun h19 => ?_)
        · skip
          refine V_iconst (nI 1) (by decide) dX6_areSo_30 ?_
          refine V_goto 35 dX6_areSo_31 (by decide) ?_
          refine V_ist2 rfl rfl dX6_areSo_35 ?_
          refine V_iinc3_ _ (nI_inc _) rfl rfl dX6_areSo_36 ?_
          refine V_goto 4 dX6_areSo_39 (by decide) ?_
          refine V_same ?_ h8
          congr 4
          first
          | rw [bI_f (by rw [Bool.and_eq_true]; exact fun z => h11 z.1)]
          | (rw [bI_t]; rw [Bool.and_eq_true]; refine ⟨h11, ?_⟩; rw [htb, decide_eq_false (by omega)]; rfl)
          | (rw [bI_t]; rw [Bool.and_eq_true]; refine ⟨h11, ?_⟩; rw [h27, Bool.or_true])
          | (rw [bI_f]; rw [Bool.and_eq_true]; intro z; have z2 := z.2; rw [htb, decide_eq_true (by omega)] at z2; exact h27 z2)
        · skip
          refine V_iload_n rfl dX6_areSo_22 ?_
          refine V_iload_n rfl dX6_areSo_23 ?_
          refine cf_X6_91 (D_isSo (by omega) (by omega)) rfl rfl ft0 (Nat.le_of_ble_eq_true rfl) dX6_areSo_24 ?_
          refine V_if_eqB 34 dX6_areSo_27 (by decide) (fun h27 => ?_) (fun h27 => ?_)
          · skip
            refine V_iconst (nI 0) (by decide) dX6_areSo_34 ?_
            refine V_ist2 rfl rfl dX6_areSo_35 ?_
            refine V_iinc3_ _ (nI_inc _) rfl rfl dX6_areSo_36 ?_
            refine V_goto 4 dX6_areSo_39 (by decide) ?_
            refine V_same ?_ h8
            congr 4
            first
            | rw [bI_f (by rw [Bool.and_eq_true]; exact fun z => h11 z.1)]
            | (rw [bI_t]; rw [Bool.and_eq_true]; refine ⟨h11, ?_⟩; rw [htb, decide_eq_false (by omega)]; rfl)
            | (rw [bI_t]; rw [Bool.and_eq_true]; refine ⟨h11, ?_⟩; rw [h27, Bool.or_true])
            | (rw [bI_f]; rw [Bool.and_eq_true]; intro z; have z2 := z.2; rw [htb, decide_eq_true (by omega)] at z2; exact h27 z2)
          · skip
            refine V_iconst (nI 1) (by decide) dX6_areSo_30 ?_
            refine V_goto 35 dX6_areSo_31 (by decide) ?_
            refine V_ist2 rfl rfl dX6_areSo_35 ?_
            refine V_iinc3_ _ (nI_inc _) rfl rfl dX6_areSo_36 ?_
            refine V_goto 4 dX6_areSo_39 (by decide) ?_
            refine V_same ?_ h8
            congr 4
            first
            | rw [bI_f (by rw [Bool.and_eq_true]; exact fun z => h11 z.1)]
            | (rw [bI_t]; rw [Bool.and_eq_true]; refine ⟨h11, ?_⟩; rw [htb, decide_eq_false (by omega)]; rfl)
            | (rw [bI_t]; rw [Bool.and_eq_true]; refine ⟨h11, ?_⟩; rw [h27, Bool.or_true])
            | (rw [bI_f]; rw [Bool.and_eq_true]; intro z; have z2 := z.2; rw [htb, decide_eq_true (by omega)] at z2; exact h27 z2)
  refine V_iconst (nI 1) (by decide) dX6_areSo_0 ?_
  refine V_ist2 rfl rfl dX6_areSo_1 ?_
  refine V_iconst (nI 0) (by decide) dX6_areSo_2 ?_
  refine V_ist3 rfl rfl dX6_areSo_3 ?_
  exact loop 16 0 rfl (by decide)
end MBASE
