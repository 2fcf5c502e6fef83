/-! the text, read item by item: plain mathematics, and Text's contracts -/
abbrev PS : Type := TV × Bool
def chr (x : XV) (p : Nat) : Nat := if p < x.1 then x.2 p else 0
def dgB (x : XV) (p : Nat) : Bool := decide (48 ≤ chr x p) && decide (chr x p ≤ 57)
/-- one or two figures at p: the number, and where it ends -/
def nvP (x : XV) (p : Nat) : Option Nat := if dgB x p then (if dgB x (p + 1) then some (10 * (chr x p - 48) + (chr x (p + 1) - 48)) else some (chr x p - 48)) else none
def nqP (x : XV) (p : Nat) : Nat := if dgB x p then (if dgB x (p + 1) then p + 2 else p + 1) else p
/-- so many numbers, each with its sign behind it -/
def itL (x : XV) : Nat → Nat → Option (List Nat × Nat)
  | 0, p => some ([], p)
  | k + 1, p => match nvP x p with
    | none => none
    | some v => if chr x (nqP x p) = (if k = 0 then 59 else 44) then (match itL x k (nqP x p + 1) with
      | none => none
      | some y => some (v :: y.1, y.2)) else none
def wN (l : Nat) : Nat := if l = 102 ∨ l = 100 then 1 else if l = 105 ∨ l = 112 then 2 else if l = 115 ∨ l = 98 then 3 else 0
/-- what an item tells -/
def tlF (s : PS) (l a b c : Nat) : Option PS :=
  if l = 102 then (if s.2 = false ∧ 1 ≤ a ∧ a ≤ 8 then some ((a, s.1.2), s.2) else none)
  else if l = 100 then (if a < tF s.1 then some ((tF s.1, tX s.1 ||| 2 ^ a, s.1.2.2), true) else none)
  else if l = 105 then (if a < 2 * tF s.1 ∧ b < 2 * tF s.1 ∧ (tL s.1).1 < 10 then some ((tF s.1, tX s.1, addTB (tL s.1) a b c, tP s.1, tS s.1, tB s.1), true) else none)
  else if l = 112 then (if a ≤ 40 ∧ b ≤ 9 ∧ (tP s.1).1 < 5 then some ((tF s.1, tX s.1, tL s.1, addTB (tP s.1) a b c, tS s.1, tB s.1), true) else none)
  else if l = 115 then (if (1 ≤ a ∧ a ≤ 6) ∧ (1 ≤ b ∧ b ≤ 9) ∧ c ≤ 3 ∧ (tS s.1).1 < 5 then some ((tF s.1, tX s.1, tL s.1, tP s.1, addTB (tS s.1) a b c, tB s.1), true) else none)
  else (if a < (tP s.1).1 ∧ (1 ≤ b ∧ b ≤ 6) ∧ c ≤ 99 ∧ (tB s.1).1 < 6 then some ((tF s.1, tX s.1, tL s.1, tP s.1, tS s.1, addTB (tB s.1) a b c), true) else none)
def itF (x : XV) (s : PS) (p : Nat) : Option (PS × Nat) := if wN (chr x p) = 0 then none else match itL x (wN (chr x p)) (p + 1) with
  | none => none
  | some y => match tlF s (chr x p) (y.1.getD 0 0) (y.1.getD 1 0) (y.1.getD 2 0) with
    | none => none
    | some s' => some (s', y.2)
/-- reads on from p, at most so many items: where an item has a fault, and what has been told -/
def rdF (x : XV) : Nat → Nat → PS → Option Nat × PS
  | 0, _, s => (none, s)
  | n + 1, p, s => if p < x.1 then (match itF x s p with
    | none => (some p, s)
    | some y => rdF x n y.2 y.1) else (none, s)
def initT : TV := (4, 0, (0, fun _ _ => 0), (0, fun _ _ => 0), (0, fun _ _ => 0), (0, fun _ _ => 0))
def flt (x : XV) : Option Nat := (rdF x 200 0 (initT, false)).1
def tolT (x : XV) : TV := (rdF x 200 0 (initT, false)).2.1
def PSok (s : PS) : Prop := TVok s.1 ∧ (s.2 = false → (tL s.1).1 = 0 ∧ tX s.1 = 0)
theorem add_lt {tb : TB} {x y z k : Nat} (h : k < (addTB tb x y z).1) : k < tb.1 ∨ k = tb.1 := by
  have : k < tb.1 + 1 := h
  omega
theorem add_at {tb : TB} {x y z k c : Nat} : (addTB tb x y z).2 k c = if k = tb.1 then (if c = 0 then x else if c = 1 then y else if c = 2 then z else 0) else tb.2 k c := rfl
theorem tl_ok {s s' : PS} {l a b c : Nat} (h : PSok s) (e : tlF s l a b c = some s') : PSok s' := by
  obtain ⟨⟨h1, h2, h3, h4, h5, h6, h7, h8, h9, h10, h11⟩, h0⟩ := h
  unfold tlF at e
  split at e
  · split at e
    · rename_i hc
      cases e
      obtain ⟨e1, e2⟩ := h0 hc.1
      refine ⟨⟨hc.2.1, hc.2.2, ?_, ?_, h5, h6, h7, h8, h9, h10, h11⟩, h0⟩
      · show tX s.1 < _
        rw [e2]; exact p2_pos _
      · intro k hk
        have hk2 : k < (tL s.1).1 := hk
        omega
    · cases e
  · split at e
    · split at e
      · rename_i hc
        cases e
        refine ⟨⟨h1, h2, Nat.or_lt_two_pow h3 (Nat.pow_lt_pow_right (by decide) hc), h4, h5, h6, h7, h8, h9, h10, h11⟩, fun z => by cases z⟩
      · cases e
    · split at e
      · split at e
        · rename_i hc
          cases e
          refine ⟨⟨h1, h2, h3, ?_, h5, h6, h7, hc.2.2, h9, h10, h11⟩, fun z => by cases z⟩
          intro k hk
          show (addTB (tL s.1) a b c).2 k 0 < 2 * tF s.1 ∧ (addTB (tL s.1) a b c).2 k 1 < 2 * tF s.1
          rw [add_at, add_at]
          rcases add_lt hk with q | q
          · rw [if_neg (by omega), if_neg (by omega)]; exact h4 k q
          · rw [if_pos q, if_pos q]; exact ⟨hc.1, hc.2.1⟩
        · cases e
      · split at e
        · split at e
          · rename_i hc
            cases e
            refine ⟨⟨h1, h2, h3, h4, ?_, h6, ?_, h8, hc.2.2, h10, h11⟩, fun z => by cases z⟩
            · intro k hk
              show (addTB (tP s.1) a b c).2 k 0 ≤ 40 ∧ (addTB (tP s.1) a b c).2 k 1 ≤ 9
              rw [add_at, add_at]
              rcases add_lt hk with q | q
              · rw [if_neg (by omega), if_neg (by omega)]; exact h5 k q
              · rw [if_pos q, if_pos q]; exact ⟨hc.1, hc.2.1⟩
            · intro k hk
              have := h7 k hk
              exact ⟨Nat.lt_succ_of_lt this.1, this.2⟩
          · cases e
        · split at e
          · split at e
            · rename_i hc
              cases e
              refine ⟨⟨h1, h2, h3, h4, h5, ?_, h7, h8, h9, hc.2.2.2, h11⟩, fun z => by cases z⟩
              intro k hk
              show 1 ≤ (addTB (tS s.1) a b c).2 k 0 ∧ (addTB (tS s.1) a b c).2 k 0 ≤ 6 ∧ 1 ≤ (addTB (tS s.1) a b c).2 k 1 ∧ (addTB (tS s.1) a b c).2 k 1 ≤ 9 ∧ (addTB (tS s.1) a b c).2 k 2 ≤ 3
              rw [add_at, add_at, add_at]
              rcases add_lt hk with q | q
              · rw [if_neg (by omega), if_neg (by omega), if_neg (by omega)]; exact h6 k q
              · rw [if_pos q, if_pos q, if_pos q]; exact ⟨hc.1.1, hc.1.2, hc.2.1.1, hc.2.1.2, hc.2.2.1⟩
            · cases e
          · split at e
            · rename_i hc
              cases e
              refine ⟨⟨h1, h2, h3, h4, h5, h6, ?_, h8, h9, h10, hc.2.2.2⟩, fun z => by cases z⟩
              intro k hk
              show (addTB (tB s.1) a b c).2 k 0 < (tP s.1).1 ∧ 1 ≤ (addTB (tB s.1) a b c).2 k 1 ∧ (addTB (tB s.1) a b c).2 k 1 ≤ 6 ∧ (addTB (tB s.1) a b c).2 k 2 ≤ 99
              rw [add_at, add_at, add_at]
              rcases add_lt hk with q | q
              · rw [if_neg (by omega), if_neg (by omega), if_neg (by omega)]; exact h7 k q
              · rw [if_pos q, if_pos q, if_pos q]; exact ⟨hc.1, hc.2.1.1, hc.2.1.2, hc.2.2.1⟩
            · cases e
theorem it_ok {x : XV} {s : PS} {p : Nat} {y : PS × Nat} (h : PSok s) (e : itF x s p = some y) : PSok y.1 := by
  unfold itF at e
  split at e
  · cases e
  · cases h1 : itL x (wN (chr x p)) (p + 1) with
    | none => rw [h1] at e; cases e
    | some z =>
      rw [h1] at e
      simp only [] at e
      cases h2 : tlF s (chr x p) (z.1.getD 0 0) (z.1.getD 1 0) (z.1.getD 2 0) with
      | none => rw [h2] at e; cases e
      | some s' => rw [h2] at e; cases e; exact tl_ok h h2
theorem init_ok : PSok (initT, false) := ⟨⟨by decide, by decide, by decide, fun k hk => absurd hk (Nat.not_lt_zero k), fun k hk => absurd hk (Nat.not_lt_zero k), fun k hk => absurd hk (Nat.not_lt_zero k), fun k hk => absurd hk (Nat.not_lt_zero k), by decide, by decide, by decide, by decide⟩, fun _ => ⟨rfl, rfl⟩⟩
theorem rd_ok {x : XV} : ∀ {n p : Nat} {s : PS}, PSok s → PSok (rdF x n p s).2
  | 0, _, _, h => h
  | n + 1, p, s, h => by
    unfold rdF
    split
    · cases h1 : itF x s p with
      | none => exact h
      | some y => exact rd_ok (it_ok h h1)
    · exact h
theorem nq_le {x : XV} {p : Nat} : p ≤ nqP x p ∧ nqP x p ≤ p + 2 := by unfold nqP; split <;> (try split) <;> omega
theorem itL_le {x : XV} : ∀ {k p : Nat} {y : List Nat × Nat}, itL x k p = some y → p ≤ y.2 ∧ y.2 ≤ p + 3 * k ∧ y.1.length = k
  | 0, p, y, e => by cases e; exact ⟨Nat.le_refl _, Nat.le_refl _, rfl⟩
  | k + 1, p, y, e => by
    unfold itL at e
    cases h1 : nvP x p with
    | none => rw [h1] at e; cases e
    | some v =>
      rw [h1] at e
      simp only [] at e
      by_cases hs : chr x (nqP x p) = (if k = 0 then 59 else 44)
      · rw [if_pos hs] at e
        cases h2 : itL x k (nqP x p + 1) with
        | none => rw [h2] at e; cases e
        | some z =>
          rw [h2] at e; cases e
          obtain ⟨a, b, c⟩ := itL_le h2
          have := nq_le (x := x) (p := p)
          exact ⟨by show p ≤ z.2; omega, by show z.2 ≤ _; omega, by show z.1.length + 1 = _; omega⟩
      · rw [if_neg hs] at e; cases e
theorem wN_le (l : Nat) : wN l ≤ 3 := by unfold wN; split <;> (try split) <;> (try split) <;> omega
theorem itF_lt {x : XV} {s : PS} {p : Nat} {y : PS × Nat} (e : itF x s p = some y) : p < y.2 ∧ y.2 ≤ p + 10 := by
  unfold itF at e
  split at e
  · cases e
  · cases h1 : itL x (wN (chr x p)) (p + 1) with
    | none => rw [h1] at e; cases e
    | some z =>
      rw [h1] at e
      simp only [] at e
      cases h2 : tlF s (chr x p) (z.1.getD 0 0) (z.1.getD 1 0) (z.1.getD 2 0) with
      | none => rw [h2] at e; cases e
      | some s' =>
        rw [h2] at e; cases e
        have := itL_le h1
        have := wN_le (chr x p)
        show p < z.2 ∧ z.2 ≤ _
        omega
theorem nv_le {x : XV} {p v : Nat} (h : nvP x p = some v) : v ≤ 99 := by
  unfold nvP dgB at h
  simp only [Bool.and_eq_true, decide_eq_true_eq] at h
  split at h
  · split at h <;> (cases h; omega)
  · cases h
theorem chr_le {x : XV} (h : XVok x) (p : Nat) : chr x p ≤ 126 := by
  unfold chr; split
  · exact (h.2 p (by assumption)).2
  · omega
theorem fig_neg : ∀ c, c < 48 → nI c - nI 48 < 0 := by decide +kernel

/-! contracts -/
def TxK (sg : SG) : Prop := (sg.2.2.1 1).1 = 2 ∧ sg.2.2.2 1 0 = some 2 ∧ sg.2.2.2 1 1 = some 4
theorem chr_I {sg : SG} {I : IM} {x : XV} (h : CTxt sg I x) (p : Nat) : (if p < x.1 then I 3 (p * 1 + 0) else nI 0) = nI (chr x p) := by
  unfold chr
  by_cases c : p < x.1
  · rw [if_pos c, if_pos c]; exact h.2 p c
  · rw [if_neg c, if_neg c]
theorem CTown.set7 {sg : SG} {I : IM} {T : Nat} {tv : TV} {v : Int32} (h : CTown sg I T tv) : CTown sg (upI I T 7 v) T tv := by
  have e : ∀ q, q ≠ T → (upI I T 7 v) q = I q := fun q c => funext fun b => upI_ne (Or.inl c)
  obtain ⟨h1, h2, h3, ⟨a1, a2⟩, ⟨b1, b2⟩, ⟨c1, c2⟩, ⟨d1, d2⟩⟩ := h
  refine ⟨h1, by rw [upI_ne (Or.inr (by decide))]; exact h2, by rw [upI_ne (Or.inr (by decide))]; exact h3, ⟨a1.other (e _ (by omega)), ?_⟩, ⟨b1.other (e _ (by omega)), ?_⟩, ⟨c1.other (e _ (by omega)), ?_⟩, ⟨d1.other (e _ (by omega)), ?_⟩⟩
  · intro k hk c hc; rw [e _ (by omega)]; exact a2 k hk c hc
  · intro k hk c hc; rw [e _ (by omega)]; exact b2 k hk c hc
  · intro k hk c hc; rw [e _ (by omega)]; exact c2 k hk c hc
  · intro k hk c hc; rw [e _ (by omega)]; exact d2 k hk c hc
theorem CTown.facts {sg : SG} {I : IM} {T a : Nat} {tv : TV} (h : CTown sg I T tv) : CTown sg (upI I T 5 (nI a)) T (a, tv.2) := by
  have e : ∀ q, q ≠ T → (upI I T 5 (nI a)) q = I q := fun q c => funext fun b => upI_ne (Or.inl c)
  obtain ⟨h1, h2, h3, ⟨a1, a2⟩, ⟨b1, b2⟩, ⟨c1, c2⟩, ⟨d1, d2⟩⟩ := h
  refine ⟨h1, upI_eq, by rw [upI_ne (Or.inr (by decide))]; exact h3, ⟨a1.other (e _ (by omega)), ?_⟩, ⟨b1.other (e _ (by omega)), ?_⟩, ⟨c1.other (e _ (by omega)), ?_⟩, ⟨d1.other (e _ (by omega)), ?_⟩⟩
  · intro k hk c hc; rw [e _ (by omega)]; exact a2 k hk c hc
  · intro k hk c hc; rw [e _ (by omega)]; exact b2 k hk c hc
  · intro k hk c hc; rw [e _ (by omega)]; exact c2 k hk c hc
  · intro k hk c hc; rw [e _ (by omega)]; exact d2 k hk c hc
theorem CTown.first {sg : SG} {I : IM} {T a : Nat} {tv : TV} (h : CTown sg I T tv) : CTown sg (upI I T 6 (nI a)) T (tF tv, a, tv.2.2) := by
  have e : ∀ q, q ≠ T → (upI I T 6 (nI a)) q = I q := fun q c => funext fun b => upI_ne (Or.inl c)
  obtain ⟨h1, h2, h3, ⟨a1, a2⟩, ⟨b1, b2⟩, ⟨c1, c2⟩, ⟨d1, d2⟩⟩ := h
  refine ⟨h1, by rw [upI_ne (Or.inr (by decide))]; exact h2, upI_eq, ⟨a1.other (e _ (by omega)), ?_⟩, ⟨b1.other (e _ (by omega)), ?_⟩, ⟨c1.other (e _ (by omega)), ?_⟩, ⟨d1.other (e _ (by omega)), ?_⟩⟩
  · intro k hk c hc; rw [e _ (by omega)]; exact a2 k hk c hc
  · intro k hk c hc; rw [e _ (by omega)]; exact b2 k hk c hc
  · intro k hk c hc; rw [e _ (by omega)]; exact c2 k hk c hc
  · intro k hk c hc; rw [e _ (by omega)]; exact d2 k hk c hc
theorem CTown.law {sg : SG} {I J : IM} {T : Nat} {tv : TV} {tb : TB} (h : CTown sg I T tv) (h5 : Tab sg J (T + 1) (T + 2) 10 2 tb.1) (h6 : Cel J (T + 2) 2 tb) (e : ∀ q, q ≠ T + 1 → q ≠ T + 2 → J q = I q) : CTown sg J T (tF tv, tX tv, tb, tP tv, tS tv, tB tv) := by
  obtain ⟨h1, h2, h3, ⟨a1, a2⟩, ⟨b1, b2⟩, ⟨c1, c2⟩, ⟨d1, d2⟩⟩ := h
  exact ⟨h1, by rw [e _ (by omega) (by omega)]; exact h2, by rw [e _ (by omega) (by omega)]; exact h3, ⟨h5, h6⟩, ⟨b1.other (e _ (by omega) (by omega)), fun k hk c hc => by rw [e _ (by omega) (by omega)]; exact b2 k hk c hc⟩, ⟨c1.other (e _ (by omega) (by omega)), fun k hk c hc => by rw [e _ (by omega) (by omega)]; exact c2 k hk c hc⟩, ⟨d1.other (e _ (by omega) (by omega)), fun k hk c hc => by rw [e _ (by omega) (by omega)]; exact d2 k hk c hc⟩⟩
theorem CTown.person {sg : SG} {I J : IM} {T : Nat} {tv : TV} {tb : TB} (h : CTown sg I T tv) (h5 : Tab sg J (T + 3) (T + 4) 5 2 tb.1) (h6 : Cel J (T + 4) 2 tb) (e : ∀ q, q ≠ T + 3 → q ≠ T + 4 → J q = I q) : CTown sg J T (tF tv, tX tv, tL tv, tb, tS tv, tB tv) := by
  obtain ⟨h1, h2, h3, ⟨a1, a2⟩, ⟨b1, b2⟩, ⟨c1, c2⟩, ⟨d1, d2⟩⟩ := h
  exact ⟨h1, by rw [e _ (by omega) (by omega)]; exact h2, by rw [e _ (by omega) (by omega)]; exact h3, ⟨a1.other (e _ (by omega) (by omega)), fun k hk c hc => by rw [e _ (by omega) (by omega)]; exact a2 k hk c hc⟩, ⟨h5, h6⟩, ⟨c1.other (e _ (by omega) (by omega)), fun k hk c hc => by rw [e _ (by omega) (by omega)]; exact c2 k hk c hc⟩, ⟨d1.other (e _ (by omega) (by omega)), fun k hk c hc => by rw [e _ (by omega) (by omega)]; exact d2 k hk c hc⟩⟩
theorem CTown.stone {sg : SG} {I J : IM} {T : Nat} {tv : TV} {tb : TB} (h : CTown sg I T tv) (h5 : Tab sg J (T + 5) (T + 6) 5 3 tb.1) (h6 : Cel J (T + 6) 3 tb) (e : ∀ q, q ≠ T + 5 → q ≠ T + 6 → J q = I q) : CTown sg J T (tF tv, tX tv, tL tv, tP tv, tb, tB tv) := by
  obtain ⟨h1, h2, h3, ⟨a1, a2⟩, ⟨b1, b2⟩, ⟨c1, c2⟩, ⟨d1, d2⟩⟩ := h
  exact ⟨h1, by rw [e _ (by omega) (by omega)]; exact h2, by rw [e _ (by omega) (by omega)]; exact h3, ⟨a1.other (e _ (by omega) (by omega)), fun k hk c hc => by rw [e _ (by omega) (by omega)]; exact a2 k hk c hc⟩, ⟨b1.other (e _ (by omega) (by omega)), fun k hk c hc => by rw [e _ (by omega) (by omega)]; exact b2 k hk c hc⟩, ⟨h5, h6⟩, ⟨d1.other (e _ (by omega) (by omega)), fun k hk c hc => by rw [e _ (by omega) (by omega)]; exact d2 k hk c hc⟩⟩
theorem CTown.bid {sg : SG} {I J : IM} {T : Nat} {tv : TV} {tb : TB} (h : CTown sg I T tv) (h5 : Tab sg J (T + 7) (T + 8) 6 3 tb.1) (h6 : Cel J (T + 8) 3 tb) (e : ∀ q, q ≠ T + 7 → q ≠ T + 8 → J q = I q) : CTown sg J T (tF tv, tX tv, tL tv, tP tv, tS tv, tb) := by
  obtain ⟨h1, h2, h3, ⟨a1, a2⟩, ⟨b1, b2⟩, ⟨c1, c2⟩, ⟨d1, d2⟩⟩ := h
  exact ⟨h1, by rw [e _ (by omega) (by omega)]; exact h2, by rw [e _ (by omega) (by omega)]; exact h3, ⟨a1.other (e _ (by omega) (by omega)), fun k hk c hc => by rw [e _ (by omega) (by omega)]; exact a2 k hk c hc⟩, ⟨b1.other (e _ (by omega) (by omega)), fun k hk c hc => by rw [e _ (by omega) (by omega)]; exact b2 k hk c hc⟩, ⟨c1.other (e _ (by omega) (by omega)), fun k hk c hc => by rw [e _ (by omega) (by omega)]; exact c2 k hk c hc⟩, ⟨h5, h6⟩⟩
section TEXT
variable {g : GC} {sg : SG} {I : IM} {T : Nat} {x : XV}
theorem C_numbersOf {l : Nat} (hl : l ≤ 126) : Fn m_X2_numbersOf g [.int (nI l)] sg I (some (.int (nI (wN l)))) sg I := by
  refine Ct.of rfl (Nat.le_of_ble_eq_true rfl) fun X => ?_
  show V X _ sg I 0 [some (.int (nI l))] []
  refine V_iload_n rfl dX2_numbersOf_0 ?_
  have ht : (nI l).toInt = (l : Int) := nI_toInt (by omega)
  by_cases hr : l < 98 ∨ 115 < l
  · have e : wN l = 0 := by unfold wN; rw [if_neg (by omega), if_neg (by omega), if_neg (by omega)]
    rw [e]
    refine V_tableOut 94 dX2_numbersOf_1 (by rw [ht]; omega) (by decide) ?_
    refine V_iconst (nI 0) (by decide) dX2_numbersOf_94 ?_
    refine V_iret rfl rfl rfl ?_ dX2_numbersOf_95
    exact ⟨rfl, rfl, rfl⟩
  · rcases (show l = 98 ∨ l = 99 ∨ l = 100 ∨ l = 101 ∨ l = 102 ∨ l = 103 ∨ l = 104 ∨ l = 105 ∨ l = 106 ∨ l = 107 ∨ l = 108 ∨ l = 109 ∨ l = 110 ∨ l = 111 ∨ l = 112 ∨ l = 113 ∨ l = 114 ∨ l = 115 by omega) with rfl | rfl | rfl | rfl | rfl | rfl | rfl | rfl | rfl | rfl | rfl | rfl | rfl | rfl | rfl | rfl | rfl | rfl
    · refine V_tableIn 91 92 dX2_numbersOf_1 (by decide) (by decide) rfl (by decide) ?_
      refine V_iconst (nI 3) (by decide) dX2_numbersOf_92 ?_
      refine V_iret rfl rfl rfl ?_ dX2_numbersOf_93
      exact ⟨rfl, rfl, rfl⟩
    · refine V_tableIn 93 94 dX2_numbersOf_1 (by decide) (by decide) rfl (by decide) ?_
      refine V_iconst (nI 0) (by decide) dX2_numbersOf_94 ?_
      refine V_iret rfl rfl rfl ?_ dX2_numbersOf_95
      exact ⟨rfl, rfl, rfl⟩
    · refine V_tableIn 87 88 dX2_numbersOf_1 (by decide) (by decide) rfl (by decide) ?_
      refine V_iconst (nI 1) (by decide) dX2_numbersOf_88 ?_
      refine V_iret rfl rfl rfl ?_ dX2_numbersOf_89
      exact ⟨rfl, rfl, rfl⟩
    · refine V_tableIn 93 94 dX2_numbersOf_1 (by decide) (by decide) rfl (by decide) ?_
      refine V_iconst (nI 0) (by decide) dX2_numbersOf_94 ?_
      refine V_iret rfl rfl rfl ?_ dX2_numbersOf_95
      exact ⟨rfl, rfl, rfl⟩
    · refine V_tableIn 87 88 dX2_numbersOf_1 (by decide) (by decide) rfl (by decide) ?_
      refine V_iconst (nI 1) (by decide) dX2_numbersOf_88 ?_
      refine V_iret rfl rfl rfl ?_ dX2_numbersOf_89
      exact ⟨rfl, rfl, rfl⟩
    · refine V_tableIn 93 94 dX2_numbersOf_1 (by decide) (by decide) rfl (by decide) ?_
      refine V_iconst (nI 0) (by decide) dX2_numbersOf_94 ?_
      refine V_iret rfl rfl rfl ?_ dX2_numbersOf_95
      exact ⟨rfl, rfl, rfl⟩
    · refine V_tableIn 93 94 dX2_numbersOf_1 (by decide) (by decide) rfl (by decide) ?_
      refine V_iconst (nI 0) (by decide) dX2_numbersOf_94 ?_
      refine V_iret rfl rfl rfl ?_ dX2_numbersOf_95
      exact ⟨rfl, rfl, rfl⟩
    · refine V_tableIn 89 90 dX2_numbersOf_1 (by decide) (by decide) rfl (by decide) ?_
      refine V_iconst (nI 2) (by decide) dX2_numbersOf_90 ?_
      refine V_iret rfl rfl rfl ?_ dX2_numbersOf_91
      exact ⟨rfl, rfl, rfl⟩
    · refine V_tableIn 93 94 dX2_numbersOf_1 (by decide) (by decide) rfl (by decide) ?_
      refine V_iconst (nI 0) (by decide) dX2_numbersOf_94 ?_
      refine V_iret rfl rfl rfl ?_ dX2_numbersOf_95
      exact ⟨rfl, rfl, rfl⟩
    · refine V_tableIn 93 94 dX2_numbersOf_1 (by decide) (by decide) rfl (by decide) ?_
      refine V_iconst (nI 0) (by decide) dX2_numbersOf_94 ?_
      refine V_iret rfl rfl rfl ?_ dX2_numbersOf_95
      exact ⟨rfl, rfl, rfl⟩
    · refine V_tableIn 93 94 dX2_numbersOf_1 (by decide) (by decide) rfl (by decide) ?_
      refine V_iconst (nI 0) (by decide) dX2_numbersOf_94 ?_
      refine V_iret rfl rfl rfl ?_ dX2_numbersOf_95
      exact ⟨rfl, rfl, rfl⟩
    · refine V_tableIn 93 94 dX2_numbersOf_1 (by decide) (by decide) rfl (by decide) ?_
      refine V_iconst (nI 0) (by decide) dX2_numbersOf_94 ?_
      refine V_iret rfl rfl rfl ?_ dX2_numbersOf_95
      exact ⟨rfl, rfl, rfl⟩
    · refine V_tableIn 93 94 dX2_numbersOf_1 (by decide) (by decide) rfl (by decide) ?_
      refine V_iconst (nI 0) (by decide) dX2_numbersOf_94 ?_
      refine V_iret rfl rfl rfl ?_ dX2_numbersOf_95
      exact ⟨rfl, rfl, rfl⟩
    · refine V_tableIn 93 94 dX2_numbersOf_1 (by decide) (by decide) rfl (by decide) ?_
      refine V_iconst (nI 0) (by decide) dX2_numbersOf_94 ?_
      refine V_iret rfl rfl rfl ?_ dX2_numbersOf_95
      exact ⟨rfl, rfl, rfl⟩
    · refine V_tableIn 89 90 dX2_numbersOf_1 (by decide) (by decide) rfl (by decide) ?_
      refine V_iconst (nI 2) (by decide) dX2_numbersOf_90 ?_
      refine V_iret rfl rfl rfl ?_ dX2_numbersOf_91
      exact ⟨rfl, rfl, rfl⟩
    · refine V_tableIn 93 94 dX2_numbersOf_1 (by decide) (by decide) rfl (by decide) ?_
      refine V_iconst (nI 0) (by decide) dX2_numbersOf_94 ?_
      refine V_iret rfl rfl rfl ?_ dX2_numbersOf_95
      exact ⟨rfl, rfl, rfl⟩
    · refine V_tableIn 93 94 dX2_numbersOf_1 (by decide) (by decide) rfl (by decide) ?_
      refine V_iconst (nI 0) (by decide) dX2_numbersOf_94 ?_
      refine V_iret rfl rfl rfl ?_ dX2_numbersOf_95
      exact ⟨rfl, rfl, rfl⟩
    · refine V_tableIn 91 92 dX2_numbersOf_1 (by decide) (by decide) rfl (by decide) ?_
      refine V_iconst (nI 3) (by decide) dX2_numbersOf_92 ?_
      refine V_iret rfl rfl rfl ?_ dX2_numbersOf_93
      exact ⟨rfl, rfl, rfl⟩
theorem C_isSayingN {a : Nat} {tv : TV} (hT : CTown sg I T tv) (ha : a < 2147483648) (h8 : tF tv ≤ 8) : Fn m_X3_isSaying g [rf g T, .int (nI a)] sg I (some (.int (bI (a < 2 * tF tv)))) sg I := by
  have h := C_isSaying (g := g) (f := nI a) (tv := tv) hT.1.1 hT.2.1
  rw [bI_congr (show (0 ≤ nI a ∧ nI a < nI (2 * tF tv)) ↔ a < 2 * tF tv from bel_nI ha (by omega))] at h
  exact h
theorem C_isFactN {a : Nat} {tv : TV} (hT : CTown sg I T tv) (ha : a < 2147483648) (h8 : tF tv ≤ 8) : Fn m_X3_isFact g [rf g T, .int (nI a)] sg I (some (.int (bI (a < tF tv)))) sg I := by
  have h := C_isFact (g := g) (f := nI a) (tv := tv) hT.1.1 hT.2.1
  rw [bI_congr (show (0 ≤ nI a ∧ nI a < nI (tF tv)) ↔ a < tF tv from bel_nI ha (by omega))] at h
  exact h
theorem C_hasN {t a mx w n j : Nat} (hT : Tab sg I t a mx w n) (hj : j < 2147483648) : Fn m_X1_has g [rf g t, .int (nI j)] sg I (some (.int (bI (j < n)))) sg I := by
  have h := C_has (g := g) (r0 := nI j) hT
  have hn := hT.2.2.2.2.2.2.1
  have hm := hT.2.2.2.2.2.2.2.1
  rw [bI_congr (show (0 ≤ nI j ∧ nI j < nI n) ↔ j < n from bel_nI hj (by omega))] at h
  exact h
def tellQ (sg : SG) (I : IM) (T : Nat) (s : PS) (y : Option PS) : Option Value → SG → IM → Prop := fun r0 s0 J => s0 = sg ∧ (∀ q, (q < T ∨ T + 9 ≤ q) → J q = I q) ∧ match y with
  | some s' => r0 = some (.int (nI 1)) ∧ CTown sg J T s'.1 ∧ J T 7 = bI (s'.2 = true)
  | none => r0 = some (.int (nI 0)) ∧ CTown sg J T s.1
theorem C_tellFacts {s : PS} {a : Nat} (hT : CTown sg I T s.1) (h7 : I T 7 = bI (s.2 = true)) (ha : a ≤ 99) : Ct m_X2_tellFacts g [rf g T, .int (nI a)] sg I (tellQ sg I T s (if s.2 = false ∧ 1 ≤ a ∧ a ≤ 8 then some ((a, s.1.2), s.2) else none)) := by
  have hk := hT.1.1
  refine Ct.of rfl (Nat.le_of_ble_eq_true rfl) fun X => ?_
  show V X _ sg I 0 [some (rf g T), some (.int (nI a))] []
  refine V_aload_n rfl dX2_tellFacts_0 ?_
  refine gfe_X2_69 (by assumption) (by assumption) rfl dX2_tellFacts_1 ?_
  refine V_if_neB 18 dX2_tellFacts_4 (by decide) (fun h4 => ?_) (fun h4 => ?_)
  · skip
    refine V_iconst (nI 0) (by decide) dX2_tellFacts_18 ?_
    refine V_zret rfl (rfl) rfl rfl ?_ dX2_tellFacts_19
    unfold tellQ
    rw [if_neg (by intro z; first | exact absurd h4 (by rw [z.1]; decide) | omega)]
    exact ⟨rfl, fun q _ => rfl, rfl, hT⟩
  · skip
    refine V_iload_n rfl dX2_tellFacts_7 ?_
    refine V_iconst (nI 1) (by decide) dX2_tellFacts_8 ?_
    refine V_icmp_ltN 18 dX2_tellFacts_9 (by decide) (by omega) (by omega) (fun h9 => ?_) (fun h9 => ?_)
    · skip
      refine V_iconst (nI 0) (by decide) dX2_tellFacts_18 ?_
      refine V_zret rfl (rfl) rfl rfl ?_ dX2_tellFacts_19
      unfold tellQ
      rw [if_neg (by intro z; first | exact absurd h4 (by rw [z.1]; decide) | omega)]
      exact ⟨rfl, fun q _ => rfl, rfl, hT⟩
    · skip
      refine V_iload_n rfl dX2_tellFacts_12 ?_
      refine V_bipush (nI 8) (by decide) dX2_tellFacts_13 ?_
      refine V_icmp_leN 20 dX2_tellFacts_15 (by decide) (by omega) (by omega) (fun h15 => ?_) (fun h15 => ?_)
      · skip
        refine V_aload_n rfl dX2_tellFacts_20 ?_
        refine V_iload_n rfl dX2_tellFacts_21 ?_
        refine pf_X2_95 (by assumption) rfl dX2_tellFacts_22 ?_
        refine V_iconst (nI 1) (by decide) dX2_tellFacts_25 ?_
        refine V_zret rfl (rfl) rfl rfl ?_ dX2_tellFacts_26
        unfold tellQ
        rw [if_pos ⟨by rw [Bool.not_eq_true] at h4; exact h4, by omega, by omega⟩]
        exact ⟨rfl, fun q hq => funext fun k => upI_ne (Or.inl (by omega)), rfl, hT.facts, by rw [upI_ne (Or.inr (by decide))]; exact h7⟩
      · skip
        refine V_iconst (nI 0) (by decide) dX2_tellFacts_18 ?_
        refine V_zret rfl (rfl) rfl rfl ?_ dX2_tellFacts_19
        unfold tellQ
        rw [if_neg (by intro z; first | exact absurd h4 (by rw [z.1]; decide) | omega)]
        exact ⟨rfl, fun q _ => rfl, rfl, hT⟩
theorem C_tellFirst {s : PS} {a : Nat} (hT : CTown sg I T s.1) (h7 : I T 7 = nI 1) (hok : TVok s.1) (ha : a ≤ 99) : Ct m_X2_tellFirst g [rf g T, .int (nI a)] sg I (tellQ sg I T s (if a < tF s.1 then some ((tF s.1, tX s.1 ||| 2 ^ a, s.1.2.2), true) else none)) := by
  have hk := hT.1.1
  have h6 := hT.2.2.1
  have hF8 := hok.2.1
  refine Ct.of rfl (Nat.le_of_ble_eq_true rfl) fun X => ?_
  show V X _ sg I 0 [some (rf g T), some (.int (nI a))] []
  refine V_aload_n rfl dX2_tellFirst_0 ?_
  refine V_iload_n rfl dX2_tellFirst_1 ?_
  refine cf_X2_98 (C_isFactN hT (by omega) hF8) (by assumption) rfl rfl ft0 (Nat.le_of_ble_eq_true rfl) dX2_tellFirst_2 ?_
  refine V_if_neB 10 dX2_tellFirst_5 (by decide) (fun h5 => ?_) (fun h5 => ?_)
  · skip
    refine V_aload_n rfl dX2_tellFirst_10 ?_
    refine V_dup rfl dX2_tellFirst_11 ?_
    refine gfe_X2_101 (by assumption) (by assumption) rfl dX2_tellFirst_12 ?_
    refine V_iconst (nI 1) (by decide) dX2_tellFirst_15 ?_
    refine V_iload_n rfl dX2_tellFirst_16 ?_
    refine V_ishl1N (by omega) dX2_tellFirst_17 ?_
    refine V_iorN dX2_tellFirst_18 ?_
    refine pf_X2_101 (by assumption) rfl dX2_tellFirst_19 ?_
    refine V_iconst (nI 1) (by decide) dX2_tellFirst_22 ?_
    refine V_zret rfl (rfl) rfl rfl ?_ dX2_tellFirst_23
    unfold tellQ
    rw [if_pos h5]
    exact ⟨rfl, fun q hq => funext fun k => upI_ne (Or.inl (by omega)), rfl, hT.first, by rw [upI_ne (Or.inr (by decide))]; exact h7⟩
  · skip
    refine V_iconst (nI 0) (by decide) dX2_tellFirst_8 ?_
    refine V_zret rfl (rfl) rfl rfl ?_ dX2_tellFirst_9
    unfold tellQ
    rw [if_neg h5]
    exact ⟨rfl, fun q _ => rfl, rfl, hT⟩
theorem C_tell {s : PS} {l a b c : Nat} (hT : CTown sg I T s.1) (h7 : I T 7 = bI (s.2 = true)) (hok : TVok s.1) (ha : a ≤ 99) (hb : b ≤ 99) (hc : c ≤ 99) (hl : wN l ≠ 0) : Ct m_X2_tell g [rf g T, .int (nI l), .int (nI a), .int (nI b), .int (nI c)] sg I (tellQ sg I T s (tlF s l a b c)) := by
  have hk := hT.1.1
  have hF8 := hok.2.1
  have hlq : l = 102 ∨ l = 100 ∨ l = 105 ∨ l = 112 ∨ l = 115 ∨ l = 98 := by
    unfold wN at hl
    by_cases q : l = 102 ∨ l = 100 ∨ l = 105 ∨ l = 112 ∨ l = 115 ∨ l = 98
    · exact q
    · exact absurd (by rw [if_neg (by omega), if_neg (by omega), if_neg (by omega)]) hl
  obtain ⟨J1, hJ1⟩ : ∃ J1, J1 = upI I T 7 (nI 1) := ⟨_, rfl⟩
  have hf1 : ∀ q, q ≠ T → J1 q = I q := fun q z => by rw [hJ1]; exact funext fun k => upI_ne (Or.inl z)
  have hT1 : CTown sg J1 T s.1 := by rw [hJ1]; exact hT.set7
  have hJ7 : J1 T 7 = nI 1 := by rw [hJ1]; exact upI_eq
  have g0 := hT.1.2.1
  have g1 := hT.1.2.2.1
  have g2 := hT.1.2.2.2.1
  have g3 := hT.1.2.2.2.2.1
  obtain ⟨-, -, -, ⟨hLt, cL⟩, ⟨hPt, cP⟩, ⟨hSt, cS⟩, ⟨hBt, cB⟩⟩ := id hT1
  have kL := hLt.1
  have kP := hPt.1
  have kS := hSt.1
  have kB := hBt.1
  have n1 := hok.2.2.2.2.2.2.2.1
  have n2 := hok.2.2.2.2.2.2.2.2.1
  have n3 := hok.2.2.2.2.2.2.2.2.2.1
  have n4 := hok.2.2.2.2.2.2.2.2.2.2
  refine Ct.of rfl (Nat.le_of_ble_eq_true rfl) fun X => ?_
  show V X _ sg I 0 [some (rf g T), some (.int (nI l)), some (.int (nI a)), some (.int (nI b)), some (.int (nI c))] []
  rcases hlq with rfl | rfl | rfl | rfl | rfl | rfl
  · have hr : tlF s 102 a b c = if s.2 = false ∧ 1 ≤ a ∧ a ≤ 8 then some ((a, s.1.2), s.2) else none := rfl
    rw [hr]
    refine V_iload_n rfl dX2_tell_0 ?_
    refine V_bipush (nI 102) (by decide) dX2_tell_1 ?_
    refine V_icmp_neN 12 dX2_tell_3 (by decide) (by omega) (by omega) (fun h3 => absurd h3 (by decide)) (fun h3 => ?_)
    refine V_aload_n rfl dX2_tell_6 ?_
    refine V_iload_n rfl dX2_tell_7 ?_
    refine cl_X2_65 (C_tellFacts hT h7 ha) rfl rfl ft0 (Nat.le_of_ble_eq_true rfl) dX2_tell_8 (fun rr s9 J9 hq => ?_)
    cases hy : (if s.2 = false ∧ 1 ≤ a ∧ a ≤ 8 then some (((a, s.1.2), s.2) : PS) else none) with
    | none =>
      rw [hy] at hq
      obtain ⟨hs, hfr, rfl, hq⟩ := hq
      have hs := hs.symm
      subst hs
      show V X _ sg J9 11 _ [.int (nI 0)]
      refine V_zret rfl (rfl) rfl rfl ?_ dX2_tell_11
      exact ⟨rfl, hfr, rfl, hq⟩
    | some s2 =>
      rw [hy] at hq
      obtain ⟨hs, hfr, rfl, hq⟩ := hq
      have hs := hs.symm
      subst hs
      show V X _ sg J9 11 _ [.int (nI 1)]
      refine V_zret rfl (rfl) rfl rfl ?_ dX2_tell_11
      exact ⟨rfl, hfr, rfl, hq⟩
  · have hr : tlF s 100 a b c = if a < tF s.1 then some ((tF s.1, tX s.1 ||| 2 ^ a, s.1.2.2), true) else none := rfl
    rw [hr]
    refine V_iload_n rfl dX2_tell_0 ?_
    refine V_bipush (nI 102) (by decide) dX2_tell_1 ?_
    refine V_icmp_neN 12 dX2_tell_3 (by decide) (by omega) (by omega) (fun h3 => ?_) (fun h3 => absurd h3 (by decide))
    refine V_aload_n rfl dX2_tell_12 ?_
    refine V_iconst (nI 1) (by decide) dX2_tell_13 ?_
    refine pf_X2_69 (by assumption) rfl rfl rfl dX2_tell_14 ?_
    rw [← hJ1]
    refine V_iload_n rfl dX2_tell_17 ?_
    refine V_lookup 42 60 dX2_tell_18 (by decide) (by decide) (by decide) ?_
    refine V_aload_n rfl dX2_tell_60 ?_
    refine V_iload_n rfl dX2_tell_61 ?_
    refine cl_X2_73 (C_tellFirst hT1 hJ7 hok ha) rfl rfl ft0 (Nat.le_of_ble_eq_true rfl) dX2_tell_62 (fun rr s9 J9 hq => ?_)
    cases hy : (if a < tF s.1 then some (((tF s.1, tX s.1 ||| 2 ^ a, s.1.2.2), true) : PS) else none) with
    | none =>
      rw [hy] at hq
      obtain ⟨hs, hfr, rfl, hq⟩ := hq
      have hs := hs.symm
      subst hs
      show V X _ sg J9 65 _ [.int (nI 0)]
      refine V_zret rfl (rfl) rfl rfl ?_ dX2_tell_65
      exact ⟨rfl, fun q hq => (hfr q hq).trans (hf1 q (by omega)), rfl, hq⟩
    | some s2 =>
      rw [hy] at hq
      obtain ⟨hs, hfr, rfl, hq⟩ := hq
      have hs := hs.symm
      subst hs
      show V X _ sg J9 65 _ [.int (nI 1)]
      refine V_zret rfl (rfl) rfl rfl ?_ dX2_tell_65
      exact ⟨rfl, fun q hq => (hfr q hq).trans (hf1 q (by omega)), rfl, hq⟩
  · have hr : tlF s 105 a b c = if a < 2 * tF s.1 ∧ b < 2 * tF s.1 ∧ (tL s.1).1 < 10 then some ((tF s.1, tX s.1, addTB (tL s.1) a b c, tP s.1, tS s.1, tB s.1), true) else none := rfl
    rw [hr]
    refine V_iload_n rfl dX2_tell_0 ?_
    refine V_bipush (nI 102) (by decide) dX2_tell_1 ?_
    refine V_icmp_neN 12 dX2_tell_3 (by decide) (by omega) (by omega) (fun h3 => ?_) (fun h3 => absurd h3 (by decide))
    refine V_aload_n rfl dX2_tell_12 ?_
    refine V_iconst (nI 1) (by decide) dX2_tell_13 ?_
    refine pf_X2_69 (by assumption) rfl rfl rfl dX2_tell_14 ?_
    rw [← hJ1]
    refine V_iload_n rfl dX2_tell_17 ?_
    refine V_lookup 48 66 dX2_tell_18 (by decide) (by decide) (by decide) ?_
    refine V_aload_n rfl dX2_tell_66 ?_
    refine V_iload_n rfl dX2_tell_67 ?_
    refine cf_X2_76 (C_isSayingN hT1 (by omega) hF8) (by assumption) rfl rfl ft0 (Nat.le_of_ble_eq_true rfl) dX2_tell_68 ?_
    refine V_if_eqB 100 dX2_tell_71 (by decide) (fun h71 => ?_) (fun h71 => ?_)
    · skip
      refine V_iconst (nI 0) (by decide) dX2_tell_100 ?_
      refine V_zret rfl (rfl) rfl rfl ?_ dX2_tell_101
      rw [if_neg (by omega)]
      exact ⟨rfl, fun q hq => hf1 q (by omega), rfl, hT1⟩
    · skip
      refine V_aload_n rfl dX2_tell_74 ?_
      refine V_iload_n rfl dX2_tell_75 ?_
      refine cf_X2_76 (C_isSayingN hT1 (by omega) hF8) (by assumption) rfl rfl ft0 (Nat.le_of_ble_eq_true rfl) dX2_tell_76 ?_
      refine V_if_eqB 100 dX2_tell_79 (by decide) (fun h79 => ?_) (fun h79 => ?_)
      · skip
        refine V_iconst (nI 0) (by decide) dX2_tell_100 ?_
        refine V_zret rfl (rfl) rfl rfl ?_ dX2_tell_101
        rw [if_neg (by omega)]
        exact ⟨rfl, fun q hq => hf1 q (by omega), rfl, hT1⟩
      · skip
        refine V_aload_n rfl dX2_tell_82 ?_
        refine gf_X2_80 (by assumption) (by assumption) rfl dX2_tell_83 ?_
        refine V_iload_n rfl dX2_tell_86 ?_
        refine V_iload_n rfl dX2_tell_87 ?_
        refine V_iload rfl dX2_tell_88 ?_
        refine cl_X2_52 (C_add hLt) (by assumption) rfl rfl ft0 (Nat.le_of_ble_eq_true rfl) dX2_tell_90 (fun rr s9 J9 hq => ?_)
        obtain ⟨hs, hq⟩ := hq
        have hs := hs.symm
        subst hs
        rcases hq with ⟨a1, rfl, a2, a3, a4, a5⟩ | ⟨a1, rfl, hJ⟩
        · show V X _ sg J9 93 _ [.int (nI 1)]
          rw [if_pos (by omega)]
          refine V_if_eqN 100 dX2_tell_93 (by decide) (by omega) (fun h93 => absurd h93 (by decide)) (fun h93 => ?_)
          refine V_iconst (nI 1) (by decide) dX2_tell_96 ?_
          refine V_goto 101 dX2_tell_97 (by decide) ?_
          refine V_zret rfl (rfl) rfl rfl ?_ dX2_tell_101
          exact ⟨rfl, fun q hq => (a5 q (by omega) (by omega)).trans (hf1 q (by omega)), rfl, CTown.law (tb := addTB (tL s.1) a b c) hT1 a2 (cL.add (by decide) a3 a4) a5, by rw [a5 T (by omega) (by omega)]; exact hJ7⟩
        · have hJ := hJ.symm
          subst hJ
          show V X _ sg J1 93 _ [.int (nI 0)]
          rw [if_neg (by omega)]
          refine V_if_eqN 100 dX2_tell_93 (by decide) (by omega) (fun h93 => ?_) (fun h93 => absurd h93 (by decide))
          refine V_iconst (nI 0) (by decide) dX2_tell_100 ?_
          refine V_zret rfl (rfl) rfl rfl ?_ dX2_tell_101
          exact ⟨rfl, fun q hq => hf1 q (by omega), rfl, hT1⟩
  · have hr : tlF s 112 a b c = if a ≤ 40 ∧ b ≤ 9 ∧ (tP s.1).1 < 5 then some ((tF s.1, tX s.1, tL s.1, addTB (tP s.1) a b c, tS s.1, tB s.1), true) else none := rfl
    rw [hr]
    refine V_iload_n rfl dX2_tell_0 ?_
    refine V_bipush (nI 102) (by decide) dX2_tell_1 ?_
    refine V_icmp_neN 12 dX2_tell_3 (by decide) (by omega) (by omega) (fun h3 => ?_) (fun h3 => absurd h3 (by decide))
    refine V_aload_n rfl dX2_tell_12 ?_
    refine V_iconst (nI 1) (by decide) dX2_tell_13 ?_
    refine pf_X2_69 (by assumption) rfl rfl rfl dX2_tell_14 ?_
    rw [← hJ1]
    refine V_iload_n rfl dX2_tell_17 ?_
    refine V_lookup 84 102 dX2_tell_18 (by decide) (by decide) (by decide) ?_
    refine V_iload_n rfl dX2_tell_102 ?_
    refine V_bipush (nI 40) (by decide) dX2_tell_103 ?_
    refine V_icmp_gtN 132 dX2_tell_105 (by decide) (by omega) (by omega) (fun h105 => ?_) (fun h105 => ?_)
    · skip
      refine V_iconst (nI 0) (by decide) dX2_tell_132 ?_
      refine V_zret rfl (rfl) rfl rfl ?_ dX2_tell_133
      rw [if_neg (by omega)]
      exact ⟨rfl, fun q hq => hf1 q (by omega), rfl, hT1⟩
    · skip
      refine V_iload_n rfl dX2_tell_108 ?_
      refine V_bipush (nI 9) (by decide) dX2_tell_109 ?_
      refine V_icmp_gtN 132 dX2_tell_111 (by decide) (by omega) (by omega) (fun h111 => ?_) (fun h111 => ?_)
      · skip
        refine V_iconst (nI 0) (by decide) dX2_tell_132 ?_
        refine V_zret rfl (rfl) rfl rfl ?_ dX2_tell_133
        rw [if_neg (by omega)]
        exact ⟨rfl, fun q hq => hf1 q (by omega), rfl, hT1⟩
      · skip
        refine V_aload_n rfl dX2_tell_114 ?_
        refine gf_X2_83 (by assumption) (by assumption) rfl dX2_tell_115 ?_
        refine V_iload_n rfl dX2_tell_118 ?_
        refine V_iload_n rfl dX2_tell_119 ?_
        refine V_iload rfl dX2_tell_120 ?_
        refine cl_X2_52 (C_add hPt) (by assumption) rfl rfl ft0 (Nat.le_of_ble_eq_true rfl) dX2_tell_122 (fun rr s9 J9 hq => ?_)
        obtain ⟨hs, hq⟩ := hq
        have hs := hs.symm
        subst hs
        rcases hq with ⟨a1, rfl, a2, a3, a4, a5⟩ | ⟨a1, rfl, hJ⟩
        · show V X _ sg J9 125 _ [.int (nI 1)]
          rw [if_pos (by omega)]
          refine V_if_eqN 132 dX2_tell_125 (by decide) (by omega) (fun h125 => absurd h125 (by decide)) (fun h125 => ?_)
          refine V_iconst (nI 1) (by decide) dX2_tell_128 ?_
          refine V_goto 133 dX2_tell_129 (by decide) ?_
          refine V_zret rfl (rfl) rfl rfl ?_ dX2_tell_133
          exact ⟨rfl, fun q hq => (a5 q (by omega) (by omega)).trans (hf1 q (by omega)), rfl, CTown.person (tb := addTB (tP s.1) a b c) hT1 a2 (cP.add (by decide) a3 a4) a5, by rw [a5 T (by omega) (by omega)]; exact hJ7⟩
        · have hJ := hJ.symm
          subst hJ
          show V X _ sg J1 125 _ [.int (nI 0)]
          rw [if_neg (by omega)]
          refine V_if_eqN 132 dX2_tell_125 (by decide) (by omega) (fun h125 => ?_) (fun h125 => absurd h125 (by decide))
          refine V_iconst (nI 0) (by decide) dX2_tell_132 ?_
          refine V_zret rfl (rfl) rfl rfl ?_ dX2_tell_133
          exact ⟨rfl, fun q hq => hf1 q (by omega), rfl, hT1⟩
  · have hr : tlF s 115 a b c = if (1 ≤ a ∧ a ≤ 6) ∧ (1 ≤ b ∧ b ≤ 9) ∧ c ≤ 3 ∧ (tS s.1).1 < 5 then some ((tF s.1, tX s.1, tL s.1, tP s.1, addTB (tS s.1) a b c, tB s.1), true) else none := rfl
    rw [hr]
    refine V_iload_n rfl dX2_tell_0 ?_
    refine V_bipush (nI 102) (by decide) dX2_tell_1 ?_
    refine V_icmp_neN 12 dX2_tell_3 (by decide) (by omega) (by omega) (fun h3 => ?_) (fun h3 => absurd h3 (by decide))
    refine V_aload_n rfl dX2_tell_12 ?_
    refine V_iconst (nI 1) (by decide) dX2_tell_13 ?_
    refine pf_X2_69 (by assumption) rfl rfl rfl dX2_tell_14 ?_
    rw [← hJ1]
    refine V_iload_n rfl dX2_tell_17 ?_
    refine V_lookup 116 134 dX2_tell_18 (by decide) (by decide) (by decide) ?_
    refine V_iload_n rfl dX2_tell_134 ?_
    refine V_iconst (nI 1) (by decide) dX2_tell_135 ?_
    refine V_icmp_ltN 180 dX2_tell_136 (by decide) (by omega) (by omega) (fun h136 => ?_) (fun h136 => ?_)
    · skip
      refine V_iconst (nI 0) (by decide) dX2_tell_180 ?_
      refine V_zret rfl (rfl) rfl rfl ?_ dX2_tell_181
      rw [if_neg (by omega)]
      exact ⟨rfl, fun q hq => hf1 q (by omega), rfl, hT1⟩
    · skip
      refine V_iload_n rfl dX2_tell_139 ?_
      refine V_bipush (nI 6) (by decide) dX2_tell_140 ?_
      refine V_icmp_gtN 180 dX2_tell_142 (by decide) (by omega) (by omega) (fun h142 => ?_) (fun h142 => ?_)
      · skip
        refine V_iconst (nI 0) (by decide) dX2_tell_180 ?_
        refine V_zret rfl (rfl) rfl rfl ?_ dX2_tell_181
        rw [if_neg (by omega)]
        exact ⟨rfl, fun q hq => hf1 q (by omega), rfl, hT1⟩
      · skip
        refine V_iload_n rfl dX2_tell_145 ?_
        refine V_iconst (nI 1) (by decide) dX2_tell_146 ?_
        refine V_icmp_ltN 180 dX2_tell_147 (by decide) (by omega) (by omega) (fun h147 => ?_) (fun h147 => ?_)
        · skip
          refine V_iconst (nI 0) (by decide) dX2_tell_180 ?_
          refine V_zret rfl (rfl) rfl rfl ?_ dX2_tell_181
          rw [if_neg (by omega)]
          exact ⟨rfl, fun q hq => hf1 q (by omega), rfl, hT1⟩
        · skip
          refine V_iload_n rfl dX2_tell_150 ?_
          refine V_bipush (nI 9) (by decide) dX2_tell_151 ?_
          refine V_icmp_gtN 180 dX2_tell_153 (by decide) (by omega) (by omega) (fun h153 => ?_) (fun h153 => ?_)
          · skip
            refine V_iconst (nI 0) (by decide) dX2_tell_180 ?_
            refine V_zret rfl (rfl) rfl rfl ?_ dX2_tell_181
            rw [if_neg (by omega)]
            exact ⟨rfl, fun q hq => hf1 q (by omega), rfl, hT1⟩
          · skip
            refine V_iload rfl dX2_tell_156 ?_
            refine V_iconst (nI 3) (by decide) dX2_tell_158 ?_
            refine V_icmp_gtN 180 dX2_tell_159 (by decide) (by omega) (by omega) (fun h159 => ?_) (fun h159 => ?_)
            · skip
              refine V_iconst (nI 0) (by decide) dX2_tell_180 ?_
              refine V_zret rfl (rfl) rfl rfl ?_ dX2_tell_181
              rw [if_neg (by omega)]
              exact ⟨rfl, fun q hq => hf1 q (by omega), rfl, hT1⟩
            · skip
              refine V_aload_n rfl dX2_tell_162 ?_
              refine gf_X2_86 (by assumption) (by assumption) rfl dX2_tell_163 ?_
              refine V_iload_n rfl dX2_tell_166 ?_
              refine V_iload_n rfl dX2_tell_167 ?_
              refine V_iload rfl dX2_tell_168 ?_
              refine cl_X2_52 (C_add hSt) (by assumption) rfl rfl ft0 (Nat.le_of_ble_eq_true rfl) dX2_tell_170 (fun rr s9 J9 hq => ?_)
              obtain ⟨hs, hq⟩ := hq
              have hs := hs.symm
              subst hs
              rcases hq with ⟨a1, rfl, a2, a3, a4, a5⟩ | ⟨a1, rfl, hJ⟩
              · show V X _ sg J9 173 _ [.int (nI 1)]
                rw [if_pos (by omega)]
                refine V_if_eqN 180 dX2_tell_173 (by decide) (by omega) (fun h173 => absurd h173 (by decide)) (fun h173 => ?_)
                refine V_iconst (nI 1) (by decide) dX2_tell_176 ?_
                refine V_goto 181 dX2_tell_177 (by decide) ?_
                refine V_zret rfl (rfl) rfl rfl ?_ dX2_tell_181
                exact ⟨rfl, fun q hq => (a5 q (by omega) (by omega)).trans (hf1 q (by omega)), rfl, CTown.stone (tb := addTB (tS s.1) a b c) hT1 a2 (cS.add (by decide) a3 a4) a5, by rw [a5 T (by omega) (by omega)]; exact hJ7⟩
              · have hJ := hJ.symm
                subst hJ
                show V X _ sg J1 173 _ [.int (nI 0)]
                rw [if_neg (by omega)]
                refine V_if_eqN 180 dX2_tell_173 (by decide) (by omega) (fun h173 => ?_) (fun h173 => absurd h173 (by decide))
                refine V_iconst (nI 0) (by decide) dX2_tell_180 ?_
                refine V_zret rfl (rfl) rfl rfl ?_ dX2_tell_181
                exact ⟨rfl, fun q hq => hf1 q (by omega), rfl, hT1⟩
  · have hr : tlF s 98 a b c = if a < (tP s.1).1 ∧ (1 ≤ b ∧ b ≤ 6) ∧ c ≤ 99 ∧ (tB s.1).1 < 6 then some ((tF s.1, tX s.1, tL s.1, tP s.1, tS s.1, addTB (tB s.1) a b c), true) else none := rfl
    rw [hr]
    refine V_iload_n rfl dX2_tell_0 ?_
    refine V_bipush (nI 102) (by decide) dX2_tell_1 ?_
    refine V_icmp_neN 12 dX2_tell_3 (by decide) (by omega) (by omega) (fun h3 => ?_) (fun h3 => absurd h3 (by decide))
    refine V_aload_n rfl dX2_tell_12 ?_
    refine V_iconst (nI 1) (by decide) dX2_tell_13 ?_
    refine pf_X2_69 (by assumption) rfl rfl rfl dX2_tell_14 ?_
    rw [← hJ1]
    refine V_iload_n rfl dX2_tell_17 ?_
    refine V_lookup 164 182 dX2_tell_18 (by decide) (by decide) (by decide) ?_
    refine V_aload_n rfl dX2_tell_182 ?_
    refine gf_X2_83 (by assumption) (by assumption) rfl dX2_tell_183 ?_
    refine V_iload_n rfl dX2_tell_186 ?_
    refine cf_X2_89 (C_hasN hPt (by omega)) (by assumption) rfl rfl ft0 (Nat.le_of_ble_eq_true rfl) dX2_tell_187 ?_
    refine V_if_eqB 229 dX2_tell_190 (by decide) (fun h190 => ?_) (fun h190 => ?_)
    · skip
      refine V_iconst (nI 0) (by decide) dX2_tell_229 ?_
      refine V_zret rfl (rfl) rfl rfl ?_ dX2_tell_230
      rw [if_neg (by omega)]
      exact ⟨rfl, fun q hq => hf1 q (by omega), rfl, hT1⟩
    · skip
      refine V_iload_n rfl dX2_tell_193 ?_
      refine V_iconst (nI 1) (by decide) dX2_tell_194 ?_
      refine V_icmp_ltN 229 dX2_tell_195 (by decide) (by omega) (by omega) (fun h195 => ?_) (fun h195 => ?_)
      · skip
        refine V_iconst (nI 0) (by decide) dX2_tell_229 ?_
        refine V_zret rfl (rfl) rfl rfl ?_ dX2_tell_230
        rw [if_neg (by omega)]
        exact ⟨rfl, fun q hq => hf1 q (by omega), rfl, hT1⟩
      · skip
        refine V_iload_n rfl dX2_tell_198 ?_
        refine V_bipush (nI 6) (by decide) dX2_tell_199 ?_
        refine V_icmp_gtN 229 dX2_tell_201 (by decide) (by omega) (by omega) (fun h201 => ?_) (fun h201 => ?_)
        · skip
          refine V_iconst (nI 0) (by decide) dX2_tell_229 ?_
          refine V_zret rfl (rfl) rfl rfl ?_ dX2_tell_230
          rw [if_neg (by omega)]
          exact ⟨rfl, fun q hq => hf1 q (by omega), rfl, hT1⟩
        · skip
          refine V_iload rfl dX2_tell_204 ?_
          refine V_bipush (nI 99) (by decide) dX2_tell_206 ?_
          refine V_icmp_gtN 229 dX2_tell_208 (by decide) (by omega) (by omega) (fun h208 => ?_) (fun h208 => ?_)
          · skip
            refine V_iconst (nI 0) (by decide) dX2_tell_229 ?_
            refine V_zret rfl (rfl) rfl rfl ?_ dX2_tell_230
            rw [if_neg (by omega)]
            exact ⟨rfl, fun q hq => hf1 q (by omega), rfl, hT1⟩
          · skip
            refine V_aload_n rfl dX2_tell_211 ?_
            refine gf_X2_92 (by assumption) (by assumption) rfl dX2_tell_212 ?_
            refine V_iload_n rfl dX2_tell_215 ?_
            refine V_iload_n rfl dX2_tell_216 ?_
            refine V_iload rfl dX2_tell_217 ?_
            refine cl_X2_52 (C_add hBt) (by assumption) rfl rfl ft0 (Nat.le_of_ble_eq_true rfl) dX2_tell_219 (fun rr s9 J9 hq => ?_)
            obtain ⟨hs, hq⟩ := hq
            have hs := hs.symm
            subst hs
            rcases hq with ⟨a1, rfl, a2, a3, a4, a5⟩ | ⟨a1, rfl, hJ⟩
            · show V X _ sg J9 222 _ [.int (nI 1)]
              rw [if_pos (by omega)]
              refine V_if_eqN 229 dX2_tell_222 (by decide) (by omega) (fun h222 => absurd h222 (by decide)) (fun h222 => ?_)
              refine V_iconst (nI 1) (by decide) dX2_tell_225 ?_
              refine V_goto 230 dX2_tell_226 (by decide) ?_
              refine V_zret rfl (rfl) rfl rfl ?_ dX2_tell_230
              exact ⟨rfl, fun q hq => (a5 q (by omega) (by omega)).trans (hf1 q (by omega)), rfl, CTown.bid (tb := addTB (tB s.1) a b c) hT1 a2 (cB.add (by decide) a3 a4) a5, by rw [a5 T (by omega) (by omega)]; exact hJ7⟩
            · have hJ := hJ.symm
              subst hJ
              show V X _ sg J1 222 _ [.int (nI 0)]
              rw [if_neg (by omega)]
              refine V_if_eqN 229 dX2_tell_222 (by decide) (by omega) (fun h222 => ?_) (fun h222 => absurd h222 (by decide))
              refine V_iconst (nI 0) (by decide) dX2_tell_229 ?_
              refine V_zret rfl (rfl) rfl rfl ?_ dX2_tell_230
              exact ⟨rfl, fun q hq => hf1 q (by omega), rfl, hT1⟩
end TEXT
