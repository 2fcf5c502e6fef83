/-! Week: mathematics, and its contracts -/
/-- truth, weeks gone by, marks (saying, stone, cutter, heard), hours left -/
abbrev WV : Type := Nat × Nat × TB × (Nat → Nat)
abbrev wT (W : WV) : Nat := W.1
abbrev wK (W : WV) : Nat := W.2.1
abbrev wM (W : WV) : TB := W.2.2.1
abbrev wH (W : WV) : Nat → Nat := W.2.2.2
def stB (W : WV) (s m : Nat) : Bool := decide ((wM W).2 m 1 = s)
def freeN (T : TV) (W : WV) (s : Nat) : Nat := (tS T).2 s 0 - cnt (wM W).1 (stB W s)
def MKok (T : TV) (tb : TB) (kk : Nat) : Prop := tb.1 ≤ 12 ∧ (∀ m, m < tb.1 → tb.2 m 0 < 2 * tF T ∧ tb.2 m 1 < (tS T).1 ∧ tb.2 m 2 < (tP T).1 ∧ tb.2 m 3 ≤ kk) ∧ ∀ s, s < (tS T).1 → cnt tb.1 (fun m => decide (tb.2 m 1 = s)) ≤ (tS T).2 s 0
def WVok (T : TV) (W : WV) : Prop := wT W < 2 ^ tF T ∧ lawB T (wT W) = true ∧ wK W < 100000 ∧ MKok T (wM W) (wK W) ∧ ∀ i, i < (tP T).1 → wH W i ≤ 40
def cutB (W : WV) (v wo k i : Nat) : Bool := anyB k (fun m => decide ((wM W).2 m 0 = v) && decide (m ≠ wo) && decide ((wM W).2 m 2 = i))
def archB (T : TV) (W : WV) (v wo k : Nat) : Bool := anyB k (fun m => decide ((wM W).2 m 0 = v) && decide (m ≠ wo) && decide ((tS T).2 ((wM W).2 m 1) 2 = 3))
def hdsN (T : TV) (W : WV) (v wo al : Nat) : Nat := cnt 8 (fun i => decide (i = al) || cutB W v wo (wM W).1 i) + if archB T W v wo (wM W).1 then 1 else 0
def rdN (T : TV) (W : WV) (h wo : Nat) : Nat := bm (2 * tF T) (fun v => decide (h ≤ hdsN T W v wo 99))
def syN (T : TV) (W : WV) (set : Nat) : Nat := bm (2 * tF T) (fun v => anyB (wM W).1 (fun m => set.testBit m && decide ((wM W).2 m 0 = v)))
def msN (W : WV) (s : Nat) : Nat := bm (wM W).1 (fun m => so ((wM W).2 m 0) s)
def wtN (T : TV) (W : WV) (s : Nat) : Nat → Nat
  | 0 => 1
  | m + 1 => wtN T W s m * (if so ((wM W).2 m 0) s then 10 - (tP T).2 ((wM W).2 m 2) 1 else (tP T).2 ((wM W).2 m 2) 1)
def fstB : Nat → (Nat → Bool) → Option Nat
  | 0, _ => none
  | n + 1, p => match fstB n p with
    | some i => some i
    | none => if p n then some n else none
theorem fstB_none {p : Nat → Bool} : ∀ {n : Nat}, fstB n p = none ↔ ∀ i, i < n → p i = false
  | 0 => by simp [fstB]
  | n + 1 => by
    unfold fstB
    cases h : fstB n p with
    | some i =>
      simp only []
      constructor
      · intro z; cases z
      · intro z
        have := (fstB_none (p := p) (n := n)).mpr (fun i hi => z i (by omega))
        rw [h] at this; cases this
    | none =>
      have h1 := fstB_none.mp h
      simp only []
      cases hp : p n
      · simp only [Bool.false_eq_true, if_false, true_iff]
        intro i hi
        by_cases e : i = n
        · subst e; exact hp
        · exact h1 i (by omega)
      · simp only [if_true]
        constructor
        · intro z; cases z
        · intro z; rw [z n (by omega)] at hp; cases hp
theorem fstB_some {p : Nat → Bool} : ∀ {n i : Nat}, fstB n p = some i → i < n ∧ p i = true ∧ ∀ j, j < i → p j = false
  | 0, i, h => by cases h
  | n + 1, i, h => by
    unfold fstB at h
    cases h2 : fstB n p with
    | some j =>
      rw [h2] at h
      cases h
      obtain ⟨a, b, c⟩ := fstB_some h2
      exact ⟨by omega, b, c⟩
    | none =>
      rw [h2] at h
      simp only [] at h
      split at h
      · cases h
        rename_i hp
        exact ⟨by omega, hp, fun j hj => fstB_none.mp h2 j hj⟩
      · cases h
theorem fstB_at {p : Nat → Bool} {n k : Nat} (hk : k < n) (hp : p k = true) (h : ∀ j, j < k → p j = false) : fstB n p = some k := by
  cases h2 : fstB n p with
  | none => rw [fstB_none.mp h2 k hk] at hp; cases hp
  | some i =>
    obtain ⟨a, b, c⟩ := fstB_some h2
    congr 1
    rcases Nat.lt_trichotomy i k with q | q | q
    · rw [h i q] at b; cases b
    · exact q
    · rw [c k q] at hp; cases hp
def lowF (T : TV) (W : WV) : Option Nat := fstB (tS T).1 (fun s => decide (0 < freeN T W s))
-- tables as numbers
def setTB (tb : TB) (m c v : Nat) : TB := (tb.1, fun k d => if k = m ∧ d = c then v else tb.2 k d)
def rmTB (tb : TB) (m : Nat) : TB := (tb.1 - 1, fun k d => if k < m then tb.2 k d else tb.2 (k + 1) d)
def addTB (tb : TB) (x y z : Nat) : TB := (tb.1 + 1, fun k d => if k = tb.1 then (if d = 0 then x else if d = 1 then y else if d = 2 then z else 0) else tb.2 k d)
def rgS (T : TV) (tb : TB) (m : Nat) : TB := if wornB T (tb.2 m 1) (tb.2 m 3 + 1) then rmTB (setTB tb m 3 (tb.2 m 3 + 1)) m else setTB tb m 3 (tb.2 m 3 + 1)
/-- the bell over the marks below k, the last first -/
def rgN (T : TV) : Nat → TB → TB
  | 0, tb => tb
  | k + 1, tb => rgN T k (rgS T tb k)
def ringV (T : TV) (W : WV) : WV := (wT W, wK W + 1, rgN T (wM W).1 (wM W), fun i => (tP T).2 i 0)
theorem cnt_le_of {p q : Nat → Bool} : ∀ {n : Nat}, (∀ i, i < n → p i = true → q i = true) → cnt n p ≤ cnt n q
  | 0, _ => Nat.le_refl _
  | n + 1, h => by
    rw [cnt_succ, cnt_succ]
    have h1 := cnt_le_of (p := p) (q := q) (n := n) (fun i hi => h i (by omega))
    have h2 := h n (by omega)
    by_cases a : p n = true
    · rw [if_pos a, if_pos (h2 a)]; omega
    · rw [if_neg a]; split <;> omega
theorem cnt_rm {p q : Nat → Bool} (m : Nat) : ∀ {n : Nat}, m ≤ n → (∀ k, k < m → q k = p k) → (∀ k, m ≤ k → q k = p (k + 1)) → cnt (n + 1) p = cnt n q + (if p m then 1 else 0)
  | n, hmn, h1, h2 => by
    induction n with
    | zero =>
      have e : m = 0 := by omega
      subst e
      rfl
    | succ n ih =>
      rw [cnt_succ (n + 1) p]
      by_cases e : m = n + 1
      · subst e
        rw [cnt_congr (p := p) (q := q) (fun i hi => (h1 i hi).symm)]
      · rw [ih (by omega), cnt_succ n q, h2 n (by omega)]
        omega
theorem MKok.step {T : TV} {tb : TB} {kk m : Nat} (h : MKok T tb kk) (hm : m < tb.1) (hk : tb.2 m 3 + 1 ≤ kk) : MKok T (rgS T tb m) kk ∧ (rgS T tb m).1 ≤ tb.1 ∧ m ≤ (rgS T tb m).1 ∧ ∀ j, j < m → (rgS T tb m).2 j = tb.2 j := by
  obtain ⟨h1, h2, h3⟩ := h
  have hs : MKok T (setTB tb m 3 (tb.2 m 3 + 1)) kk := by
    refine ⟨h1, fun j hj => ?_, fun s hs => ?_⟩
    · obtain ⟨a, b, c, d⟩ := h2 j hj
      unfold setTB
      refine ⟨?_, ?_, ?_, ?_⟩
      · show (if j = m ∧ 0 = 3 then _ else _) < _; rw [if_neg (by omega)]; exact a
      · show (if j = m ∧ 1 = 3 then _ else _) < _; rw [if_neg (by omega)]; exact b
      · show (if j = m ∧ 2 = 3 then _ else _) < _; rw [if_neg (by omega)]; exact c
      · show (if j = m ∧ 3 = 3 then _ else _) ≤ _
        split <;> omega
    · have := h3 s hs
      refine Nat.le_trans (Nat.le_of_eq (cnt_congr fun i hi => ?_)) this
      show decide ((if i = m ∧ 1 = 3 then _ else _) = s) = _
      rw [if_neg (by omega)]
  unfold rgS
  split
  · obtain ⟨g1, g2, g3⟩ := hs
    refine ⟨⟨?_, fun j hj => ?_, fun s hs => ?_⟩, ?_, ?_, ?_⟩
    · show tb.1 - 1 ≤ 12; omega
    · have hj' : j < tb.1 - 1 := hj
      show (if j < m then _ else _) < _ ∧ (if j < m then _ else _) < _ ∧ (if j < m then _ else _) < _ ∧ (if j < m then _ else _) ≤ _
      by_cases e : j < m
      · simp only [if_pos e]; exact g2 j (by show j < tb.1; omega)
      · simp only [if_neg e]; exact g2 (j + 1) (by show j + 1 < tb.1; omega)
    · have h4 := g3 s hs
      refine Nat.le_trans ?_ h4
      have h5 := cnt_rm (p := fun k => decide ((setTB tb m 3 (tb.2 m 3 + 1)).2 k 1 = s)) (q := fun k => decide ((rmTB (setTB tb m 3 (tb.2 m 3 + 1)) m).2 k 1 = s)) m (n := tb.1 - 1) (by omega) (fun k hk => by show decide ((if k < m then _ else _) = s) = _; rw [if_pos hk]) (fun k hk => by show decide ((if k < m then _ else _) = s) = _; rw [if_neg (by omega)])
      rw [show tb.1 - 1 + 1 = tb.1 by omega] at h5
      show cnt (tb.1 - 1) _ ≤ cnt tb.1 _
      rw [h5]; omega
    · show tb.1 - 1 ≤ tb.1; omega
    · show m ≤ tb.1 - 1; omega
    · intro j hj
      funext d
      show (if j < m then (if j = m ∧ d = 3 then _ else _) else _) = _
      rw [if_pos hj, if_neg (by omega)]
  · refine ⟨hs, Nat.le_refl _, by show m ≤ tb.1; omega, ?_⟩
    intro j hj
    funext d
    show (if j = m ∧ d = 3 then _ else _) = _
    rw [if_neg (by omega)]
theorem MKok.mono {T : TV} {tb : TB} {k l : Nat} (h : MKok T tb k) (hkl : k ≤ l) : MKok T tb l := ⟨h.1, fun m hm => by obtain ⟨a, b, c, d⟩ := h.2.1 m hm; exact ⟨a, b, c, by omega⟩, h.2.2⟩
theorem MKok.ring {T : TV} {kk : Nat} : ∀ {k : Nat} {tb : TB}, k ≤ tb.1 → MKok T tb kk → (∀ j, j < k → tb.2 j 3 + 1 ≤ kk) → MKok T (rgN T k tb) kk ∧ (rgN T k tb).1 ≤ tb.1
  | 0, tb, _, h, _ => ⟨h, Nat.le_refl _⟩
  | k + 1, tb, hk, h, hh => by
    obtain ⟨a, b, c, d⟩ := h.step (m := k) (by omega) (hh k (by omega))
    obtain ⟨e, f⟩ := MKok.ring (k := k) c a (fun j hj => by rw [d j hj]; exact hh j (by omega))
    exact ⟨e, Nat.le_trans f b⟩
theorem WVok.ring {T : TV} {W : WV} (hT : TVok T) (h : WVok T W) (hk : wK W + 1 < 100000) : WVok T (ringV T W) := by
  obtain ⟨h1, h2, h3, h4, h5⟩ := h
  refine ⟨h1, h2, hk, ?_, fun i hi => (hT.2.2.2.2.1 i hi).1⟩
  exact ((h4.mono (Nat.le_succ (wK W))).ring (Nat.le_refl _) (fun j hj => by have := (h4.2.1 j hj).2.2.2; omega)).1
theorem cnt_add {p q : Nat → Bool} {n : Nat} (h : ∀ i, i < n → q i = p i) : cnt (n + 1) q = cnt n p + if q n then 1 else 0 := by
  rw [cnt_succ, cnt_congr h]
theorem MKok.add {T : TV} {tb : TB} {kk x y z : Nat} (h : MKok T tb kk) (hn : tb.1 < 12) (hx : x < 2 * tF T) (hy : y < (tS T).1) (hz : z < (tP T).1) (hf : cnt tb.1 (fun m => decide (tb.2 m 1 = y)) < (tS T).2 y 0) : MKok T (addTB tb x y z) kk := by
  obtain ⟨h1, h2, h3⟩ := h
  have old : ∀ j d, j < tb.1 → (addTB tb x y z).2 j d = tb.2 j d := fun j d hj => by show (if j = tb.1 then _ else _) = _; rw [if_neg (by omega)]
  have new : ∀ d, (addTB tb x y z).2 tb.1 d = (if d = 0 then x else if d = 1 then y else if d = 2 then z else 0) := fun d => if_pos rfl
  refine ⟨hn, fun j hj => ?_, fun s hs => ?_⟩
  · by_cases e : j = tb.1
    · subst e
      rw [new, new, new, new]
      exact ⟨hx, hy, hz, Nat.zero_le _⟩
    · have hj' : j < tb.1 + 1 := hj
      rw [old j 0 (by omega), old j 1 (by omega), old j 2 (by omega), old j 3 (by omega)]
      exact h2 j (by omega)
  · show cnt (tb.1 + 1) _ ≤ _
    rw [cnt_add (p := fun m => decide (tb.2 m 1 = s)) (fun i hi => by rw [old i 1 hi])]
    have h4 := h3 s hs
    rw [new 1]
    by_cases e : y = s
    · subst e
      have h6 : ∀ b : Bool, (if b = true then 1 else 0) ≤ 1 := fun b => by cases b <;> decide
      refine Nat.le_trans (Nat.add_le_add_left (h6 _) _) ?_
      omega
    · rw [if_neg (by simp [e])]; exact h4
theorem wtN_le {T : TV} {W : WV} {s : Nat} (hT : TVok T) (hm : ∀ m, m < (wM W).1 → (wM W).2 m 2 < (tP T).1) : ∀ {k : Nat}, k ≤ (wM W).1 → wtN T W s k ≤ 10 ^ k
  | 0, _ => Nat.le_refl _
  | k + 1, hk => by
    unfold wtN
    rw [Nat.pow_succ]
    refine Nat.mul_le_mul (wtN_le hT hm (by omega)) ?_
    have := (hT.2.2.2.2.1 _ (hm k (by omega))).2
    split <;> omega
theorem or_pow {n j : Nat} {p : Nat → Bool} (hj : j < n) : bm n p ||| 2 ^ j = bm n (fun i => p i || decide (i = j)) := by
  refine bm_ext (Nat.or_lt_two_pow (bm_lt n p) (Nat.pow_lt_pow_right (by decide) hj)) (fun i hi => ?_)
  rw [Nat.testBit_or, bm_bit, Nat.testBit_two_pow]
  have : decide (j = i) = decide (i = j) := by simp [eq_comm]
  rw [this, decide_eq_true hi, Bool.true_and]
/-- a mark is a hand -/
theorem hds_1 {T : TV} {W : WV} {v wo : Nat} (hc : ∀ m, m < (wM W).1 → (wM W).2 m 2 < 8) : (1 ≤ hdsN T W v wo 99) ↔ anyB (wM W).1 (fun m => decide ((wM W).2 m 0 = v) && decide (m ≠ wo)) = true := by
  have hpos : ∀ {n : Nat} {p : Nat → Bool}, 0 < cnt n p ↔ ∃ i, i < n ∧ p i = true := by
    intro n
    induction n with
    | zero => intro p; simp [cnt]
    | succ n ih =>
      intro p
      rw [cnt_succ]
      constructor
      · intro h
        by_cases e : p n = true
        · exact ⟨n, by omega, e⟩
        · rw [if_neg e] at h
          obtain ⟨i, a, b⟩ := ih.mp (by omega)
          exact ⟨i, by omega, b⟩
      · rintro ⟨i, a, b⟩
        by_cases e : i = n
        · subst e; rw [if_pos b]; omega
        · have := ih.mpr ⟨i, by omega, b⟩; omega
  unfold hdsN
  rw [anyB_iff]
  constructor
  · intro h
    have h2 : 0 < cnt 8 (fun i => decide (i = 99) || cutB W v wo (wM W).1 i) ∨ archB T W v wo (wM W).1 = true := by
      by_cases e : archB T W v wo (wM W).1 = true
      · exact Or.inr e
      · rw [if_neg e] at h; exact Or.inl (by omega)
    rcases h2 with h2 | h2
    · obtain ⟨i, a, b⟩ := hpos.mp h2
      rw [decide_eq_false (by omega), Bool.false_or] at b
      obtain ⟨m, c, d⟩ := anyB_iff.mp b
      exact ⟨m, c, by simp at d; simp [d.1.1, d.1.2]⟩
    · obtain ⟨m, c, d⟩ := anyB_iff.mp h2
      exact ⟨m, c, by simp at d; simp [d.1.1, d.1.2]⟩
  · rintro ⟨m, a, b⟩
    have : 0 < cnt 8 (fun i => decide (i = 99) || cutB W v wo (wM W).1 i) := by
      refine hpos.mpr ⟨(wM W).2 m 2, hc m a, ?_⟩
      have h9 : cutB W v wo (wM W).1 ((wM W).2 m 2) = true := anyB_iff.mpr ⟨m, a, by simp at b; simp [b.1, b.2]⟩
      rw [h9, Bool.or_true]
    omega
