/-! numbers and branches in natural numbers; booleans as ints -/
theorem nI_inc (n : Nat) : nI n + Int32.ofInt 1 = nI (n + 1) := (nI_succ n).symm
theorem nI_dec (n : Nat) : nI (n + 1) + Int32.ofInt (-1) = nI n := pk_m1 n
theorem nI_inj {a b : Nat} (ha : a < 2147483648) (hb : b < 2147483648) (h : nI a = nI b) : a = b := (nI_eq ha hb).mp h
theorem nI_lt0 {a : Nat} (ha : a < 2147483648) : ¬ nI a < 0 := nI_pos ha
theorem nI_ge0 {a : Nat} (ha : a < 2147483648) : 0 ≤ nI a := nI_pos' ha
theorem nI_mul (a b : Nat) : nI a * nI b = nI (a * b) := pk_mul a b
theorem nI_subN {a b : Nat} (h : b ≤ a) : nI a - nI b = nI (a - b) := pk_sub h
theorem nI_gt0 {a : Nat} (ha : a < 2147483648) : 0 < nI a ↔ 0 < a := by
  have h := nI_ltI (a := 0) (b := a) (by decide) ha
  rwa [nI_0] at h
theorem nI_le0 {a : Nat} (ha : a < 2147483648) : nI a ≤ 0 ↔ a = 0 := by
  have h := nI_leI (a := a) (b := 0) ha (by decide)
  rw [nI_0] at h
  rw [h]; omega
theorem nI_eq0 {a : Nat} (ha : a < 2147483648) : nI a = 0 ↔ a = 0 := by
  have h := nI_eq (a := a) (b := 0) ha (by decide)
  rwa [nI_0] at h
theorem neg_lt {x : Int32} (h : x < 0) : ∀ a, a < 2147483648 → ¬ nI a ≤ x := by
  intro a ha q
  have h1 := nI_toInt (n := a) ha
  rw [Int32.le_iff_toInt_le, h1] at q
  rw [Int32.lt_iff_toInt_lt, Int32.toInt_zero] at h
  omega
/-- any int: below 0, or a natural number -/
theorem int_cases (x : Int32) : x < 0 ∨ ∃ j : Nat, j < 2147483648 ∧ x = nI j := by
  by_cases h : x < 0
  · exact Or.inl h
  · exact Or.inr (nI_of h)
def bI (p : Prop) [Decidable p] : Int32 := if p then 1 else 0
theorem bI_t {p : Prop} [Decidable p] (h : p) : bI p = nI 1 := if_pos h
theorem bI_f {p : Prop} [Decidable p] (h : ¬ p) : bI p = nI 0 := if_neg h
theorem bI_eq0 {p : Prop} [Decidable p] : bI p = 0 ↔ ¬ p := by
  unfold bI
  by_cases h : p <;> simp [h]
theorem bI_nar (p : Prop) [Decidable p] : narrow .boolean (.int (bI p)) = .int (bI p) := by
  unfold bI
  by_cases h : p
  · rw [if_pos h]; rfl
  · rw [if_neg h]; rfl
theorem bI_congr {p q : Prop} [Decidable p] [Decidable q] (h : p ↔ q) : bI p = bI q := by
  unfold bI
  by_cases hp : p
  · rw [if_pos hp, if_pos (h.mp hp)]
  · rw [if_neg hp, if_neg (fun z => hp (h.mpr z))]
theorem nI_min (a b : Nat) (ha : a < 2147483648) (hb : b < 2147483648) : (if nI b < nI a then nI b else nI a) = nI (min a b) := by
  by_cases h : b < a
  · rw [if_pos ((nI_ltI hb ha).mpr h), Nat.min_eq_right (Nat.le_of_lt h)]
  · rw [if_neg (fun z => h ((nI_ltI hb ha).mp z)), Nat.min_eq_left (Nat.le_of_not_lt h)]
theorem nI_max (a b : Nat) (ha : a < 2147483648) (hb : b < 2147483648) : (if nI a < nI b then nI b else nI a) = nI (max a b) := by
  by_cases h : a < b
  · rw [if_pos ((nI_ltI ha hb).mpr h), Nat.max_eq_right (Nat.le_of_lt h)]
  · rw [if_neg (fun z => h ((nI_ltI ha hb).mp z)), Nat.max_eq_left (Nat.le_of_not_lt h)]
section NROWS
variable {mi : MI} {g : GC} {sg0 : SG} {X : Cx mi g sg0} {Z : State → Prop} {sg : SG} {I : IM} {pc : Nat} {L : List (Option Value)} {st : List Value}
theorem V_icmp_eqN {a b : Nat} {off : Int} (tgt : Nat) (hd : decode mi.2.1 pc = .ok (.if_icmp .eq off, 3)) (ht : (pc : Int) + off = (tgt : Int)) (ha : a < 2147483648) (hb : b < 2147483648) (kt : a = b → V X Z sg I tgt L st) (kf : ¬ a = b → V X Z sg I (pc + 3) L st) : V X Z sg I pc L (.int (nI b) :: .int (nI a) :: st) := V_icmp_eq tgt hd ht (fun h => kt ((nI_eq ha hb).mp h)) (fun h => kf (fun z => h ((nI_eq ha hb).mpr z)))
theorem V_icmp_neN {a b : Nat} {off : Int} (tgt : Nat) (hd : decode mi.2.1 pc = .ok (.if_icmp .ne off, 3)) (ht : (pc : Int) + off = (tgt : Int)) (ha : a < 2147483648) (hb : b < 2147483648) (kt : ¬ a = b → V X Z sg I tgt L st) (kf : a = b → V X Z sg I (pc + 3) L st) : V X Z sg I pc L (.int (nI b) :: .int (nI a) :: st) := V_icmp_ne tgt hd ht (fun h => kt (fun z => h ((nI_eq ha hb).mpr z))) (fun h => kf ((nI_eq ha hb).mp h))
theorem V_icmp_ltN {a b : Nat} {off : Int} (tgt : Nat) (hd : decode mi.2.1 pc = .ok (.if_icmp .lt off, 3)) (ht : (pc : Int) + off = (tgt : Int)) (ha : a < 2147483648) (hb : b < 2147483648) (kt : a < b → V X Z sg I tgt L st) (kf : ¬ a < b → V X Z sg I (pc + 3) L st) : V X Z sg I pc L (.int (nI b) :: .int (nI a) :: st) := V_icmp_lt tgt hd ht (fun h => kt ((nI_ltI ha hb).mp h)) (fun h => kf (fun z => h ((nI_ltI ha hb).mpr z)))
theorem V_icmp_geN {a b : Nat} {off : Int} (tgt : Nat) (hd : decode mi.2.1 pc = .ok (.if_icmp .ge off, 3)) (ht : (pc : Int) + off = (tgt : Int)) (ha : a < 2147483648) (hb : b < 2147483648) (kt : b ≤ a → V X Z sg I tgt L st) (kf : ¬ b ≤ a → V X Z sg I (pc + 3) L st) : V X Z sg I pc L (.int (nI b) :: .int (nI a) :: st) := V_icmp_ge tgt hd ht (fun h => kt ((nI_leI hb ha).mp h)) (fun h => kf (fun z => h ((nI_leI hb ha).mpr z)))
theorem V_icmp_gtN {a b : Nat} {off : Int} (tgt : Nat) (hd : decode mi.2.1 pc = .ok (.if_icmp .gt off, 3)) (ht : (pc : Int) + off = (tgt : Int)) (ha : a < 2147483648) (hb : b < 2147483648) (kt : b < a → V X Z sg I tgt L st) (kf : ¬ b < a → V X Z sg I (pc + 3) L st) : V X Z sg I pc L (.int (nI b) :: .int (nI a) :: st) := V_icmp_gt tgt hd ht (fun h => kt ((nI_ltI hb ha).mp h)) (fun h => kf (fun z => h ((nI_ltI hb ha).mpr z)))
theorem V_icmp_leN {a b : Nat} {off : Int} (tgt : Nat) (hd : decode mi.2.1 pc = .ok (.if_icmp .le off, 3)) (ht : (pc : Int) + off = (tgt : Int)) (ha : a < 2147483648) (hb : b < 2147483648) (kt : a ≤ b → V X Z sg I tgt L st) (kf : ¬ a ≤ b → V X Z sg I (pc + 3) L st) : V X Z sg I pc L (.int (nI b) :: .int (nI a) :: st) := V_icmp_le tgt hd ht (fun h => kt ((nI_leI ha hb).mp h)) (fun h => kf (fun z => h ((nI_leI ha hb).mpr z)))
theorem V_if_eqN {a : Nat} {off : Int} (tgt : Nat) (hd : decode mi.2.1 pc = .ok (.ifCond .eq off, 3)) (ht : (pc : Int) + off = (tgt : Int)) (ha : a < 2147483648) (kt : a = 0 → V X Z sg I tgt L st) (kf : ¬ a = 0 → V X Z sg I (pc + 3) L st) : V X Z sg I pc L (.int (nI a) :: st) := V_if_eq tgt hd ht (fun h => kt ((nI_eq0 ha).mp h)) (fun h => kf (fun z => h ((nI_eq0 ha).mpr z)))
theorem V_if_neN {a : Nat} {off : Int} (tgt : Nat) (hd : decode mi.2.1 pc = .ok (.ifCond .ne off, 3)) (ht : (pc : Int) + off = (tgt : Int)) (ha : a < 2147483648) (kt : ¬ a = 0 → V X Z sg I tgt L st) (kf : a = 0 → V X Z sg I (pc + 3) L st) : V X Z sg I pc L (.int (nI a) :: st) := V_if_ne tgt hd ht (fun h => kt (fun z => h ((nI_eq0 ha).mpr z))) (fun h => kf ((nI_eq0 ha).mp h))
theorem V_if_ltN {a : Nat} {off : Int} (tgt : Nat) (hd : decode mi.2.1 pc = .ok (.ifCond .lt off, 3)) (ht : (pc : Int) + off = (tgt : Int)) (ha : a < 2147483648) (kf : V X Z sg I (pc + 3) L st) : V X Z sg I pc L (.int (nI a) :: st) := V_if_lt tgt hd ht (fun h => absurd h (nI_lt0 ha)) (fun _ => kf)
theorem V_if_geN {a : Nat} {off : Int} (tgt : Nat) (hd : decode mi.2.1 pc = .ok (.ifCond .ge off, 3)) (ht : (pc : Int) + off = (tgt : Int)) (ha : a < 2147483648) (kt : V X Z sg I tgt L st) : V X Z sg I pc L (.int (nI a) :: st) := V_if_ge tgt hd ht (fun _ => kt) (fun h => absurd (nI_ge0 ha) h)
theorem V_if_gtN {a : Nat} {off : Int} (tgt : Nat) (hd : decode mi.2.1 pc = .ok (.ifCond .gt off, 3)) (ht : (pc : Int) + off = (tgt : Int)) (ha : a < 2147483648) (kt : 0 < a → V X Z sg I tgt L st) (kf : ¬ 0 < a → V X Z sg I (pc + 3) L st) : V X Z sg I pc L (.int (nI a) :: st) := V_if_gt tgt hd ht (fun h => kt ((nI_gt0 ha).mp h)) (fun h => kf (fun z => h ((nI_gt0 ha).mpr z)))
theorem V_if_leN {a : Nat} {off : Int} (tgt : Nat) (hd : decode mi.2.1 pc = .ok (.ifCond .le off, 3)) (ht : (pc : Int) + off = (tgt : Int)) (ha : a < 2147483648) (kt : a = 0 → V X Z sg I tgt L st) (kf : ¬ a = 0 → V X Z sg I (pc + 3) L st) : V X Z sg I pc L (.int (nI a) :: st) := V_if_le tgt hd ht (fun h => kt ((nI_le0 ha).mp h)) (fun h => kf (fun z => h ((nI_le0 ha).mpr z)))
theorem V_if_eqB {p : Prop} [hp : Decidable p] {off : Int} (tgt : Nat) (hd : decode mi.2.1 pc = .ok (.ifCond .eq off, 3)) (ht : (pc : Int) + off = (tgt : Int)) (kt : ¬ p → V X Z sg I tgt L st) (kf : p → V X Z sg I (pc + 3) L st) : V X Z sg I pc L (.int (bI p) :: st) := V_if_eq tgt hd ht (fun h => kt (bI_eq0.mp h)) (fun h => kf (Decidable.not_not.mp (fun z => h (bI_eq0.mpr z))))
theorem V_if_neB {p : Prop} [hp : Decidable p] {off : Int} (tgt : Nat) (hd : decode mi.2.1 pc = .ok (.ifCond .ne off, 3)) (ht : (pc : Int) + off = (tgt : Int)) (kt : p → V X Z sg I tgt L st) (kf : ¬ p → V X Z sg I (pc + 3) L st) : V X Z sg I pc L (.int (bI p) :: st) := V_if_ne tgt hd ht (fun h => kt (Decidable.not_not.mp (fun z => h (bI_eq0.mpr z)))) (fun h => kf (bI_eq0.mp h))
/-- the top's value under another name -/
theorem V_top {v w : Value} (h : v = w) (kk : V X Z sg I pc L (w :: st)) : V X Z sg I pc L (v :: st) := h ▸ kk
theorem V_topi {x y : Int32} (h : x = y) (kk : V X Z sg I pc L (.int y :: st)) : V X Z sg I pc L (.int x :: st) := h ▸ kk
theorem V_topl {x y : Int64} (h : x = y) (kk : V X Z sg I pc L (.long y :: st)) : V X Z sg I pc L (.long x :: st) := h ▸ kk
/-- the same memory by another name -/
theorem V_mem {I' : IM} (h : I = I') (kk : V X Z sg I' pc L st) : V X Z sg I pc L st := h ▸ kk
theorem V_minN {idx a b : Nat} (hl : Cond.methodLink mi.1.cls idx Lib.Math.min.name ∈ gw) (h2 : Cond.static Lib.Math.min.name ∈ gw) (h3 : Cond.initialized "java/lang/Math" ∈ gw) (h4 : Cond.code Lib.Math.min.name Lib.Math.min.code 2 (some .int) ∈ gw) (hlv : 1 ≤ mi.2.2.2.2.1) (hst : (st.map fun v => v.category).sum ≤ 8) (hc : sg.1 - sg0.1 ≤ mi.2.2.2.2.2.1 ∧ sg.2.1 - sg0.2.1 ≤ mi.2.2.2.2.2.2) (ha : a < 2147483648) (hb : b < 2147483648) (hd : decode mi.2.1 pc = .ok (.invokestatic idx, 3))
    (kk : V X Z sg I (pc + 3) L (.int (nI (min a b)) :: st)) : V X Z sg I pc L (.int (nI b) :: .int (nI a) :: st) := V_min hl h2 h3 h4 hlv hst hc hd (V_topi (nI_min a b ha hb) kk)
theorem V_maxN {idx a b : Nat} (hl : Cond.methodLink mi.1.cls idx Lib.Math.max.name ∈ gw) (h2 : Cond.static Lib.Math.max.name ∈ gw) (h3 : Cond.initialized "java/lang/Math" ∈ gw) (h4 : Cond.code Lib.Math.max.name Lib.Math.max.code 2 (some .int) ∈ gw) (hlv : 1 ≤ mi.2.2.2.2.1) (hst : (st.map fun v => v.category).sum ≤ 8) (hc : sg.1 - sg0.1 ≤ mi.2.2.2.2.2.1 ∧ sg.2.1 - sg0.2.1 ≤ mi.2.2.2.2.2.2) (ha : a < 2147483648) (hb : b < 2147483648) (hd : decode mi.2.1 pc = .ok (.invokestatic idx, 3))
    (kk : V X Z sg I (pc + 3) L (.int (nI (max a b)) :: st)) : V X Z sg I pc L (.int (nI b) :: .int (nI a) :: st) := V_max hl h2 h3 h4 hlv hst hc hd (V_topi (nI_max a b ha hb) kk)
/-- answers of a row that go on under other words -/
theorem Ct.mono {mi : MI} {g : GC} {av : List Value} {sg : SG} {I : IM} {Q Q' : Option Value → SG → IM → Prop} (h : Ct mi g av sg I Q) (hQ : ∀ r0 s0 I0, Q r0 s0 I0 → Q' r0 s0 I0) : Ct mi g av sg I Q' := by
  unfold Ct Met at h ⊢
  intro p e ha hc hk s m args below hf happ hP hK
  obtain ⟨k0, o0, h1, h2, h3, h4⟩ := h p e ha hc hk s m args below hf happ hP hK
  refine ⟨k0, o0, h1, h2, h3, ?_⟩
  obtain ⟨⟨⟨r0, s0, I0, e1, ⟨q1, q2, q3⟩, e3⟩, e4⟩, e5⟩ := h4
  exact ⟨⟨⟨r0, s0, I0, e1, ⟨hQ _ _ _ q1, q2, q3⟩, e3⟩, e4⟩, e5⟩
end NROWS
