/-! bits, sayings, worlds: plain mathematics -/
theorem sh_l : ∀ n, n < 32 → ((nI n &&& 31).toBitVec.smod 32).toNat = n := by decide +kernel
theorem sh_u : ∀ n, n < 32 → (((nI n).toUInt32 &&& Int32.toUInt32 31).toBitVec % 32).toNat = n := by decide +kernel
theorem nI_and (a b : Nat) : nI a &&& nI b = nI (a &&& b) := by
  apply Int32.toBitVec_inj.1
  show BitVec.ofNat 32 a &&& BitVec.ofNat 32 b = BitVec.ofNat 32 (a &&& b)
  apply BitVec.eq_of_getLsbD_eq
  intro i hi
  simp [hi]
theorem nI_xor (a b : Nat) : nI a ^^^ nI b = nI (a ^^^ b) := by
  apply Int32.toBitVec_inj.1
  show BitVec.ofNat 32 a ^^^ BitVec.ofNat 32 b = BitVec.ofNat 32 (a ^^^ b)
  apply BitVec.eq_of_getLsbD_eq
  intro i hi
  simp [hi]
theorem nI_or (a b : Nat) : nI a ||| nI b = nI (a ||| b) := by
  apply Int32.toBitVec_inj.1
  show BitVec.ofNat 32 a ||| BitVec.ofNat 32 b = BitVec.ofNat 32 (a ||| b)
  apply BitVec.eq_of_getLsbD_eq
  intro i hi
  simp [hi]
/-- a and not b -/
theorem nI_andn (a b : Nat) (ha : a < 2147483648) : nI a &&& (nI b ^^^ (-1)) = nI (a ^^^ (a &&& b)) := by
  apply Int32.toBitVec_inj.1
  show BitVec.ofNat 32 a &&& (BitVec.ofNat 32 b ^^^ BitVec.ofInt 32 (-1)) = BitVec.ofNat 32 (a ^^^ (a &&& b))
  apply BitVec.eq_of_getLsbD_eq
  intro i hi
  have h : (BitVec.ofInt 32 (-1)).getLsbD i = true := by
    rw [show BitVec.ofInt 32 (-1) = BitVec.allOnes 32 by decide, BitVec.getLsbD_allOnes]
    exact decide_eq_true hi
  rw [BitVec.getLsbD_and, BitVec.getLsbD_xor, h, BitVec.getLsbD_ofNat, BitVec.getLsbD_ofNat, BitVec.getLsbD_ofNat, Nat.testBit_xor, Nat.testBit_and, decide_eq_true hi]
  cases a.testBit i <;> cases b.testBit i <;> rfl
theorem nI_shr {a k : Nat} (ha : a < 2147483648) (hk : k < 32) : nI a >>> (nI k &&& 31) = nI (a / 2 ^ k) := pk_shrN ha _ k (sh_l k hk)
theorem nI_shl {a k : Nat} (hk : k < 32) (h : a * 2 ^ k < 4294967296) : nI a <<< (nI k &&& 31) = nI (a * 2 ^ k) := pk_shlN _ k (sh_l k hk) h
theorem nI_shl1 {k : Nat} (hk : k < 31) : nI 1 <<< (nI k &&& 31) = nI (2 ^ k) := by
  have h : 2 ^ k ≤ 2 ^ 30 := Nat.pow_le_pow_right (by decide) (by omega)
  rw [nI_shl (by omega) (by omega), Nat.one_mul]
theorem nI_ushr {a k : Nat} (ha : a < 4294967296) (hk : k < 32) : ((nI a).toUInt32 >>> ((nI k).toUInt32 &&& Int32.toUInt32 31)).toInt32 = nI (a / 2 ^ k) := pk_ushrN ha _ k (sh_u k hk)
theorem nI_and1 (a : Nat) : nI a &&& nI 1 = nI (a % 2) := by rw [nI_and, Nat.and_one_is_mod]
theorem p2_pos (n : Nat) : 0 < 2 ^ n := Nat.pow_pos (by decide)
/-- the mask of the i below n with p -/
def bm : Nat → (Nat → Bool) → Nat
  | 0, _ => 0
  | n + 1, p => bm n p ||| (if p n then 2 ^ n else 0)
theorem bm_bit (p : Nat → Bool) (i : Nat) : ∀ n, (bm n p).testBit i = (decide (i < n) && p i)
  | 0 => by simp [bm]
  | n + 1 => by
    unfold bm
    rw [Nat.testBit_or, bm_bit p i n]
    by_cases hp : p n
    · rw [if_pos hp, Nat.testBit_two_pow]
      by_cases e : n = i
      · subst e; simp [hp]
      · have : (i < n + 1) ↔ (i < n) := by omega
        simp [e, this]
    · rw [if_neg hp, Nat.zero_testBit, Bool.or_false]
      by_cases e : n = i
      · subst e; simp [hp]
      · have : (i < n + 1) ↔ (i < n) := by omega
        simp [this]
theorem bm_lt (n : Nat) (p : Nat → Bool) : bm n p < 2 ^ n := Nat.lt_pow_two_of_testBit _ (fun i hi => by rw [bm_bit]; simp [Nat.not_lt.mpr hi])
theorem bm_ext {n a : Nat} {p : Nat → Bool} (ha : a < 2 ^ n) (h : ∀ i, i < n → a.testBit i = p i) : a = bm n p := by
  apply Nat.eq_of_testBit_eq
  intro i
  rw [bm_bit]
  by_cases hi : i < n
  · rw [h i hi]; simp [hi]
  · rw [Nat.testBit_lt_two_pow (Nat.lt_of_lt_of_le ha (Nat.pow_le_pow_right (by decide) (by omega)))]; simp [hi]
theorem bm_congr {n : Nat} {p q : Nat → Bool} (h : ∀ i, i < n → p i = q i) : bm n p = bm n q := bm_ext (bm_lt n p) (fun i hi => by rw [bm_bit]; simp [hi, h i hi])
theorem bm_small {n m : Nat} {p : Nat → Bool} (h : n ≤ m) : bm n p < 2 ^ m := Nat.lt_of_lt_of_le (bm_lt n p) (Nat.pow_le_pow_right (by decide) h)
theorem bm_16 {n : Nat} {p : Nat → Bool} (h : n ≤ 16) : bm n p < 65536 := bm_small (m := 16) h
/-- how many i below n -/
def cnt : Nat → (Nat → Bool) → Nat
  | 0, _ => 0
  | n + 1, p => cnt n p + (if p n then 1 else 0)
theorem cnt_succ (n : Nat) (p : Nat → Bool) : cnt (n + 1) p = cnt n p + (if p n then 1 else 0) := rfl
theorem bm_succ (n : Nat) (p : Nat → Bool) : bm (n + 1) p = bm n p ||| (if p n then 2 ^ n else 0) := rfl
theorem cnt_le (p : Nat → Bool) : ∀ n, cnt n p ≤ n
  | 0 => Nat.le_refl _
  | n + 1 => by
    have := cnt_le p n
    unfold cnt
    split <;> omega
theorem cnt_congr {p q : Nat → Bool} : ∀ {n : Nat}, (∀ i, i < n → p i = q i) → cnt n p = cnt n q
  | 0, _ => rfl
  | n + 1, h => by
    unfold cnt
    rw [cnt_congr (fun i hi => h i (by omega)), h n (by omega)]
theorem cnt_more {p : Nat → Bool} {n : Nat} (d : Nat) (h : ∀ i, n ≤ i → p i = false) : cnt (n + d) p = cnt n p := by
  induction d with
  | zero => rfl
  | succ d ih => rw [← Nat.add_assoc, cnt_succ, ih, h (n + d) (by omega)]; rfl
theorem cnt_pair (p : Nat → Bool) : ∀ n, cnt (2 * n) p = cnt n (fun i => p (2 * i)) + cnt n (fun i => p (2 * i + 1))
  | 0 => rfl
  | n + 1 => by
    rw [show 2 * (n + 1) = 2 * n + 1 + 1 by omega, cnt_succ, cnt_succ, cnt_succ, cnt_succ, cnt_pair p n]
    omega
/-- bits that are set, below k -/
def pcN : Nat → Nat → Nat
  | 0, _ => 0
  | k + 1, n => pcN k n + n / 2 ^ k % 2
theorem pcN_succ (k n : Nat) : pcN (k + 1) n = pcN k n + n / 2 ^ k % 2 := rfl
theorem pcN_cnt (n : Nat) : ∀ k, pcN k n = cnt k (fun i => n.testBit i)
  | 0 => rfl
  | k + 1 => by
    rw [pcN_succ, cnt_succ, pcN_cnt n k, Nat.testBit_eq_decide_div_mod_eq]
    have : n / 2 ^ k % 2 = 0 ∨ n / 2 ^ k % 2 = 1 := by omega
    rcases this with h | h <;> simp [h]
theorem pcN_le (k n : Nat) : pcN k n ≤ k := by rw [pcN_cnt]; exact cnt_le _ _
theorem pc_bm {n m : Nat} {p : Nat → Bool} (h : n ≤ m) : pcN m (bm n p) = cnt n p := by
  rw [pcN_cnt, show m = n + (m - n) by omega, cnt_more (m - n) (fun i hi => by rw [bm_bit]; simp [Nat.not_lt.mpr hi])]
  exact cnt_congr (fun i hi => by rw [bm_bit]; simp [hi])
abbrev pc16 (n : Nat) : Nat := pcN 16 n
def bcN (n : Nat) : Nat :=
  let a := n - ((n / 2 ^ 1) &&& 1431655765)
  let b := (a &&& 858993459) + ((a / 2 ^ 2) &&& 858993459)
  let c := (b + b / 2 ^ 4) &&& 252645135
  let d := c + c / 2 ^ 8
  (d + d / 2 ^ 16) &&& 63
theorem and_split {h l m1 m0 : Nat} (hl : l < 256) (hm : m0 < 256) : (256 * h + l) &&& (256 * m1 + m0) = 256 * (h &&& m1) + (l &&& m0) := by
  have h3 : l &&& m0 < 2 ^ 8 := Nat.and_lt_two_pow l hm
  apply Nat.eq_of_testBit_eq
  intro i
  rw [Nat.testBit_and]
  rw [show (256 : Nat) = 2 ^ 8 by decide] at hl hm ⊢
  rw [Nat.testBit_two_pow_mul_add _ hl, Nat.testBit_two_pow_mul_add _ hm, Nat.testBit_two_pow_mul_add _ h3]
  split <;> rw [Nat.testBit_and]
theorem bc_1 : ∀ x, x < 256 → (x / 2 &&& 5592405) = (x / 2 &&& 85) ∧ (x / 2 &&& 85) ≤ x ∧ x - (x / 2 &&& 85) < 256 := by decide +kernel
theorem bc_1b : ∀ x, x < 2 → ∀ y, y < 128 → (128 * x + y) &&& 85 = y &&& 85 := by decide +kernel
theorem bc_2 : ∀ x, x < 256 → (x &&& 3355443) = (x &&& 51) ∧ (x / 4 &&& 3355443) = (x / 4 &&& 51) := by decide +kernel
theorem bc_2b : ∀ x, x < 4 → ∀ y, y < 64 → (64 * x + y) &&& 51 = y &&& 51 := by decide +kernel
def bs1 (x : Nat) : Nat := x - (x / 2 &&& 85)
def bs2 (x : Nat) : Nat := (x &&& 51) + (x / 4 &&& 51)
def bs3 (x : Nat) : Nat := (x + x / 16) % 16
theorem bc_3 : ∀ x, x < 256 → bs3 (bs2 (bs1 x)) = pcN 8 x ∧ bs2 (bs1 x) ≤ 68 ∧ bs2 (bs1 x) % 16 ≤ 4 ∧ (bs2 (bs1 x) + bs2 (bs1 x) / 16) &&& 986895 = bs3 (bs2 (bs1 x)) ∧ pcN 8 x ≤ 8 := by decide +kernel
theorem pc_split {h l : Nat} (hl : l < 256) : pcN 16 (256 * h + l) = pcN 8 h + pcN 8 l := by
  have e : ∀ k, k < 8 → (256 * h + l) / 2 ^ k % 2 = l / 2 ^ k % 2 := fun k hk => by
    have h1 := @Nat.testBit_two_pow_mul_add h l 8 hl k
    rw [if_pos hk, Nat.testBit_eq_decide_div_mod_eq, Nat.testBit_eq_decide_div_mod_eq] at h1
    have h2 := decide_eq_decide.mp h1
    rw [show (2 : Nat) ^ 8 = 256 by decide] at h2
    omega
  have e2 : ∀ k, (256 * h + l) / 2 ^ (k + 8) % 2 = h / 2 ^ k % 2 := fun k => by
    rw [Nat.pow_add, Nat.mul_comm (2 ^ k), ← Nat.div_div_eq_div_mul, show (256 * h + l) / 2 ^ 8 = h by omega]
  simp only [pcN]
  rw [e 0 (by decide), e 1 (by decide), e 2 (by decide), e 3 (by decide), e 4 (by decide), e 5 (by decide), e 6 (by decide), e 7 (by decide), e2 0, e2 1, e2 2, e2 3, e2 4, e2 5, e2 6, e2 7]
  omega
theorem bc_fin {x y : Nat} (hx : x ≤ 8) (hy : y ≤ 8) : ((256 * x + y + (256 * x + y) / 2 ^ 8) + (256 * x + y + (256 * x + y) / 2 ^ 8) / 2 ^ 16) % 2 ^ 6 = x + y := by
  have q1 : (256 * x + y) / 2 ^ 8 = x := by omega
  rw [q1]
  have q2 : (256 * x + y + x) / 2 ^ 16 = 0 := by omega
  rw [q2]
  omega
theorem bc_eq {n : Nat} (hn : n < 65536) : bcN n = pc16 n := by
  obtain ⟨h, l, hh, hl, rfl⟩ : ∃ h l, h < 256 ∧ l < 256 ∧ n = 256 * h + l := ⟨n / 256, n % 256, by omega, by omega, by omega⟩
  obtain ⟨a1, a2, a3⟩ := bc_1 h hh
  obtain ⟨b1, b2, b3⟩ := bc_1 l hl
  have s1 : (256 * h + l) - (((256 * h + l) / 2 ^ 1) &&& 1431655765) = 256 * bs1 h + bs1 l := by
    rw [Nat.pow_one, show (256 * h + l) / 2 = 256 * (h / 2) + (128 * (h % 2) + l / 2) by omega, show 1431655765 = 256 * 5592405 + 85 by decide, and_split (by omega) (by decide), bc_1b _ (by omega) _ (by omega), a1]
    unfold bs1
    omega
  have u3 : bs1 h < 256 := a3
  have v3 : bs1 l < 256 := b3
  obtain ⟨c1, c2⟩ := bc_2 _ u3
  have s2 : ((256 * bs1 h + bs1 l) &&& 858993459) + ((256 * bs1 h + bs1 l) / 2 ^ 2 &&& 858993459) = 256 * bs2 (bs1 h) + bs2 (bs1 l) := by
    rw [show (256 * bs1 h + bs1 l) / 2 ^ 2 = 256 * (bs1 h / 4) + (64 * (bs1 h % 4) + bs1 l / 4) by omega, show 858993459 = 256 * 3355443 + 51 by decide, and_split v3 (by decide), and_split (by omega) (by decide), bc_2b _ (by omega) _ (by omega), c1, c2]
    unfold bs2
    omega
  obtain ⟨d1, d2, d3, d4, d5⟩ := bc_3 h hh
  obtain ⟨e1, e2, e3, e4, e5⟩ := bc_3 l hl
  have s3 : ((256 * bs2 (bs1 h) + bs2 (bs1 l)) + (256 * bs2 (bs1 h) + bs2 (bs1 l)) / 2 ^ 4) &&& 252645135 = 256 * pcN 8 h + pcN 8 l := by
    rw [show (256 * bs2 (bs1 h) + bs2 (bs1 l)) + (256 * bs2 (bs1 h) + bs2 (bs1 l)) / 2 ^ 4 = 256 * (bs2 (bs1 h) + bs2 (bs1 h) / 16) + (bs2 (bs1 l) + bs2 (bs1 l) / 16 + 16 * (bs2 (bs1 h) % 16)) by omega, show 252645135 = 256 * 986895 + 15 by decide, and_split (by omega) (by decide), d4, d1, show (15 : Nat) = 2 ^ 4 - 1 by decide, Nat.and_two_pow_sub_one_eq_mod, ← e1]
    unfold bs3
    omega
  unfold bcN
  simp only []
  rw [s1, s2, s3, show pc16 (256 * h + l) = pcN 8 h + pcN 8 l from pc_split hl, show (63 : Nat) = 2 ^ 6 - 1 by decide, Nat.and_two_pow_sub_one_eq_mod]
  exact bc_fin d5 e5
/-- is the saying v so in the set s -/
def so (v s : Nat) : Bool := (s.testBit (v / 2)) ^^ decide (v % 2 = 1)
theorem so_even (f s : Nat) : so (2 * f) s = s.testBit f := by
  unfold so
  rw [show 2 * f / 2 = f by omega, decide_eq_false (by omega), Bool.xor_false]
theorem so_odd (f s : Nat) : so (2 * f + 1) s = !s.testBit f := by
  unfold so
  rw [show (2 * f + 1) / 2 = f by omega, decide_eq_true (by omega), Bool.xor_true]
theorem so_cls {v s : Nat} (hv : v < 62) (hs : s < 2147483648) : ((nI s >>> ((nI v >>> (nI 1 &&& 31)) &&& 31)) ^^^ nI v) &&& nI 1 = bI (so v s = true) := by
  rw [nI_shr (by omega) (by decide), Nat.pow_one, nI_shr hs (by omega), nI_xor, nI_and1]
  unfold so bI
  rw [Nat.testBit_eq_decide_div_mod_eq]
  have h := @Nat.xor_mod_two_eq_one (s / 2 ^ (v / 2)) v
  have h2 : (s / 2 ^ (v / 2) ^^^ v) % 2 = 0 ∨ (s / 2 ^ (v / 2) ^^^ v) % 2 = 1 := by omega
  rcases h2 with e | e
  · rw [e] at h ⊢
    rw [if_neg (fun z => absurd (h.mpr (by
      by_cases a1 : s / 2 ^ (v / 2) % 2 = 1 <;> by_cases a2 : v % 2 = 1 <;> simp_all)) (by decide))]
    rfl
  · rw [e] at h ⊢
    rw [if_pos (by
      have h3 := h.mp rfl
      by_cases a1 : s / 2 ^ (v / 2) % 2 = 1 <;> by_cases a2 : v % 2 = 1 <;> simp_all)]
    rfl
/-- the true saying of a fact -/
def tsy (f s : Nat) : Nat := if s.testBit f then 2 * f else 2 * f + 1
theorem tsy_lt {f n s : Nat} (h : f < n) : tsy f s < 2 * n := by unfold tsy; split <;> omega
/-- all sayings that are so -/
def sim (F s : Nat) : Nat := bm (2 * F) (fun v => so v s)
theorem sim_step (F s : Nat) : sim (F + 1) s = sim F s ||| 2 ^ (tsy F s) := by
  unfold sim
  rw [show 2 * (F + 1) = 2 * F + 1 + 1 by omega, bm_succ, bm_succ, so_even, so_odd]
  unfold tsy
  cases s.testBit F
  · simp
  · simp
theorem and_eq_iff {m rd : Nat} : m &&& rd = rd ↔ ∀ v, rd.testBit v = true → m.testBit v = true := by
  constructor
  · intro h v hv
    rw [← h, Nat.testBit_and, Bool.and_eq_true] at hv
    exact hv.1
  · intro h
    apply Nat.eq_of_testBit_eq
    intro i
    rw [Nat.testBit_and]
    cases hb : rd.testBit i
    · simp
    · rw [h i hb]; rfl
theorem and_eq0_iff {a b : Nat} : a &&& b = 0 ↔ ∀ v, ¬ (a.testBit v = true ∧ b.testBit v = true) := by
  constructor
  · intro h v hv
    have h1 : (a &&& b).testBit v = true := by rw [Nat.testBit_and, hv.1, hv.2]; rfl
    rw [h, Nat.zero_testBit] at h1
    cases h1
  · intro h
    apply Nat.eq_of_testBit_eq
    intro i
    rw [Nat.testBit_and, Nat.zero_testBit]
    have := h i
    cases h1 : a.testBit i <;> cases h2 : b.testBit i <;> simp_all
def allB : Nat → (Nat → Bool) → Bool
  | 0, _ => true
  | n + 1, p => allB n p && p n
theorem allB_iff {p : Nat → Bool} : ∀ {n : Nat}, allB n p = true ↔ ∀ i, i < n → p i = true
  | 0 => by simp [allB]
  | n + 1 => by
    unfold allB
    rw [Bool.and_eq_true, allB_iff]
    constructor
    · rintro ⟨h1, h2⟩ i hi
      by_cases e : i = n
      · subst e; exact h2
      · exact h1 i (by omega)
    · intro h
      exact ⟨fun i hi => h i (by omega), h n (by omega)⟩
theorem allB_congr {p q : Nat → Bool} {n : Nat} (h : ∀ i, i < n → p i = q i) : allB n p = allB n q := by
  rw [Bool.eq_iff_iff, allB_iff, allB_iff]
  exact ⟨fun a i hi => by rw [← h i hi]; exact a i hi, fun a i hi => by rw [h i hi]; exact a i hi⟩
theorem bI_eq1 {p : Prop} [Decidable p] : bI p = nI 1 ↔ p := by
  by_cases h : p
  · rw [bI_t h]; simp [h]
  · rw [bI_f h]
    exact ⟨fun z => absurd z (by decide), fun z => absurd z h⟩
def anyB (n : Nat) (p : Nat → Bool) : Bool := !(allB n (fun i => !p i))
theorem anyB_iff {p : Nat → Bool} {n : Nat} : anyB n p = true ↔ ∃ i, i < n ∧ p i = true := by
  unfold anyB
  rw [Bool.not_eq_true', ← Bool.not_eq_true, allB_iff]
  constructor
  · intro h
    apply Classical.byContradiction
    intro h2
    exact h (fun i hi => by
      cases hp : p i
      · rfl
      · exact absurd ⟨i, hi, hp⟩ h2)
  · rintro ⟨i, hi, hp⟩ h
    have := h i hi
    rw [hp] at this
    cases this
theorem bm_false (n : Nat) : bm n (fun _ => false) = 0 := by
  symm
  exact bm_ext (p2_pos n) (fun i _ => Nat.zero_testBit i)
/-- a town as told: facts, those at first, laws, persons, stones, bids (how many, rows) -/
abbrev TB : Type := Nat × (Nat → Nat → Nat)
abbrev TV : Type := Nat × Nat × TB × TB × TB × TB
abbrev tF (T : TV) : Nat := T.1
abbrev tX (T : TV) : Nat := T.2.1
abbrev tL (T : TV) : TB := T.2.2.1
abbrev tP (T : TV) : TB := T.2.2.2.1
abbrev tS (T : TV) : TB := T.2.2.2.2.1
abbrev tB (T : TV) : TB := T.2.2.2.2.2
def TVok (T : TV) : Prop := 1 ≤ tF T ∧ tF T ≤ 8 ∧ tX T < 2 ^ tF T ∧ (∀ k, k < (tL T).1 → (tL T).2 k 0 < 2 * tF T ∧ (tL T).2 k 1 < 2 * tF T) ∧ (∀ k, k < (tP T).1 → (tP T).2 k 0 ≤ 40 ∧ (tP T).2 k 1 ≤ 9) ∧ (∀ k, k < (tS T).1 → 1 ≤ (tS T).2 k 0 ∧ (tS T).2 k 0 ≤ 6 ∧ 1 ≤ (tS T).2 k 1 ∧ (tS T).2 k 1 ≤ 9 ∧ (tS T).2 k 2 ≤ 3) ∧ (∀ k, k < (tB T).1 → (tB T).2 k 0 < (tP T).1 ∧ 1 ≤ (tB T).2 k 1 ∧ (tB T).2 k 1 ≤ 6 ∧ (tB T).2 k 2 ≤ 99) ∧ (tL T).1 ≤ 10 ∧ (tP T).1 ≤ 5 ∧ (tS T).1 ≤ 5 ∧ (tB T).1 ≤ 6
def lawB (T : TV) (s : Nat) : Bool := allB (tL T).1 (fun k => !so ((tL T).2 k 0) s || so ((tL T).2 k 1) s)
def wls (T : TV) : List Nat := (List.range (2 ^ tF T)).filter (lawB T)
def wl (T : TV) (k : Nat) : Nat := (wls T).getD k 0
def nw' (T : TV) : Nat := (wls T).length
theorem wl_mem {T : TV} {k : Nat} (h : k < nw' T) : wl T k < 2 ^ tF T ∧ lawB T (wl T k) = true := by
  have h1 : wl T k ∈ wls T := by
    unfold wl
    rw [List.getD_eq_getElem?_getD, List.getElem?_eq_getElem h]
    exact List.getElem_mem h
  have h2 := List.mem_filter.mp h1
  exact ⟨List.mem_range.mp h2.1, h2.2⟩
theorem p2_le8 {F : Nat} (h : F ≤ 8) : 2 ^ F ≤ 256 := Nat.pow_le_pow_right (n := 2) (i := F) (j := 8) (by decide) h
theorem p2_le16 {F : Nat} (h : F ≤ 8) : 2 ^ (2 * F) ≤ 65536 := Nat.pow_le_pow_right (n := 2) (i := 2 * F) (j := 16) (by decide) (by omega)
theorem nw_le {T : TV} (h : tF T ≤ 8) : nw' T ≤ 256 := by
  have h1 : nw' T ≤ (List.range (2 ^ tF T)).length := List.length_filter_le _ _
  rw [List.length_range] at h1
  exact Nat.le_trans h1 (p2_le8 h)
/-- are all sayings so that are read -/
def sat (rd s : Nat) : Bool := allB 16 (fun v => !rd.testBit v || so v s)
theorem sat_cls {F rd s : Nat} (hF : F ≤ 8) (hrd : rd < 2 ^ (2 * F)) : (sim F s &&& rd = rd) ↔ sat rd s = true := by
  rw [and_eq_iff]
  unfold sat
  rw [allB_iff]
  have big : ∀ v, 2 * F ≤ v → rd.testBit v = false := fun v hv => Nat.testBit_lt_two_pow (Nat.lt_of_lt_of_le hrd (Nat.pow_le_pow_right (by decide) hv))
  constructor
  · intro h v hv
    cases hb : rd.testBit v
    · rfl
    · have := h v hb
      unfold sim at this
      rw [bm_bit, Bool.and_eq_true] at this
      simpa using this.2
  · intro h v hv
    have hvF : v < 2 * F := by
      apply Nat.lt_of_not_le
      intro z
      rw [big v z] at hv; cases hv
    have := h v (by omega)
    rw [hv] at this
    unfold sim
    rw [bm_bit]
    simpa [hvF] using this
def anyW (T : TV) (rd : Nat) : Bool := anyB (nw' T) (fun i => sat rd (wl T i))
def knw (T : TV) (rd v : Nat) : Bool := anyW T rd && allB (nw' T) (fun i => !sat rd (wl T i) || so v (wl T i))
/-- hours that a stone costs -/
def hrsN (T : TV) (s : Nat) : Nat := if (tS T).2 s 2 = 2 then 1 else (tS T).2 s 1
def wornB (T : TV) (s hd : Nat) : Bool := (decide ((tS T).2 s 2 = 1) && decide ((tS T).2 s 1 ≤ hd)) || (decide ((tS T).2 s 2 = 2) && decide (2 ≤ hd))
/-- a number or none -/
def oI (o : Option Nat) : Int32 := match o with
  | none => -1
  | some j => nI j
/-- the highest bid not served, of the first k -/
def hbN (T : TV) (srv : Nat) : Nat → Option Nat
  | 0 => none
  | k + 1 => if srv.testBit k then hbN T srv k else match hbN T srv k with
    | none => some k
    | some j => if (tB T).2 j 2 < (tB T).2 k 2 then some k else some j
def tlsB (T : TV) (told set tr : Nat) : Bool := allB (nw' T) (fun i => !(decide ((wl T i ^^^ tr) &&& told = 0) && !decide ((wl T i ^^^ tr) &&& set = 0)))
