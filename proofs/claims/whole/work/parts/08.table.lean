/-! Table: its contracts -/
/-- table t over cells a: at most mx rows of w, n rows now -/
def Tab (sg : SG) (I : IM) (t a mx w n : Nat) : Prop := (sg.2.2.1 t).1 = 1 ∧ sg.2.2.2 t 2 = some a ∧ sg.2.2.1 a = (7, mx * w) ∧ I t 0 = nI mx ∧ I t 1 = nI w ∧ I t 3 = nI n ∧ n ≤ mx ∧ mx ≤ 1000 ∧ w ≤ 4 ∧ mx * w ≤ 4000
theorem tb_lt {j c w mx : Nat} (hj : j < mx) (hc : c < w) : j * w + c < mx * w := by
  have h1 : (j + 1) * w ≤ mx * w := Nat.mul_le_mul_right w hj
  rw [Nat.add_mul] at h1
  omega
theorem Tab.ne {sg : SG} {I : IM} {t a mx w n : Nat} (h : Tab sg I t a mx w n) : t ≠ a := by
  intro e
  have h1 := h.1
  rw [e, h.2.2.1] at h1
  exact absurd h1 (show ¬ (7 : Nat) = 1 by decide)
theorem Tab.other {sg : SG} {I J : IM} {t a mx w n : Nat} (h : Tab sg I t a mx w n) (e : J t = I t) : Tab sg J t a mx w n := by
  obtain ⟨h1, h2, h3, h4, h5, h6, h7⟩ := h
  exact ⟨h1, h2, h3, by rw [e]; exact h4, by rw [e]; exact h5, by rw [e]; exact h6, h7⟩
theorem Tab.upI {sg : SG} {I : IM} {t a mx w n q k : Nat} {v : Int32} (h : Tab sg I t a mx w n) (e : q ≠ t) : Tab sg (upI I q k v) t a mx w n :=
  h.other (funext fun b => upI_ne (Or.inl (Ne.symm e)))
theorem Tab.resize {sg : SG} {I J : IM} {t a mx w n n' : Nat} (h : Tab sg I t a mx w n) (e : ∀ k, k ≠ 3 → J t k = I t k) (h3 : J t 3 = nI n') (hn : n' ≤ mx) : Tab sg J t a mx w n' := by
  obtain ⟨f1, f2, f3, f4, f5, f6, f7, f8⟩ := h
  exact ⟨f1, f2, f3, by rw [e 0 (by decide)]; exact f4, by rw [e 1 (by decide)]; exact f5, h3, hn, f8⟩
section TABLE
variable {g : GC} {sg : SG} {I : IM} {t a mx w n : Nat}
theorem C_size (hT : Tab sg I t a mx w n) : Fn m_X1_size g [rf g t] sg I (some (.int (nI n))) sg I := by
  obtain ⟨hk, hr, ha, h0, h1, h3, hn, hm, hw, hcap⟩ := hT
  refine Ct.of rfl (Nat.le_of_ble_eq_true rfl) fun X => ?_
  show V X _ sg I 0 [some (rf g t)] []
  refine V_aload_n rfl dX1_size_0 ?_
  refine gfe_X1_20 (by assumption) (by assumption) rfl dX1_size_1 ?_
  refine V_iret rfl rfl rfl ?_ dX1_size_4
  exact ⟨rfl, rfl, rfl⟩
theorem C_isFull (hT : Tab sg I t a mx w n) : Fn m_X1_isFull g [rf g t] sg I (some (.int (bI (mx ≤ n)))) sg I := by
  obtain ⟨hk, hr, ha, h0, h1, h3, hn, hm, hw, hcap⟩ := hT
  refine Ct.of rfl (Nat.le_of_ble_eq_true rfl) fun X => ?_
  show V X _ sg I 0 [some (rf g t)] []
  refine V_aload_n rfl dX1_isFull_0 ?_
  refine gfe_X1_20 (by assumption) (by assumption) rfl dX1_isFull_1 ?_
  refine V_aload_n rfl dX1_isFull_4 ?_
  refine gfe_X1_7 (by assumption) (by assumption) rfl dX1_isFull_5 ?_
  refine V_icmp_ltN 15 dX1_isFull_8 (by decide) (by omega) (by omega) (fun h8 => ?_) (fun h8 => ?_)
  · skip
    refine V_iconst (nI 0) (by decide) dX1_isFull_15 ?_
    refine V_zret rfl (rfl) rfl rfl ?_ dX1_isFull_16
    exact ⟨by first | rw [bI_t (by omega)] | rw [bI_f (by omega)], rfl, rfl⟩
  · skip
    refine V_iconst (nI 1) (by decide) dX1_isFull_11 ?_
    refine V_goto 16 dX1_isFull_12 (by decide) ?_
    refine V_zret rfl (rfl) rfl rfl ?_ dX1_isFull_16
    exact ⟨by first | rw [bI_t (by omega)] | rw [bI_f (by omega)], rfl, rfl⟩
theorem C_has {r0 : Int32} (hT : Tab sg I t a mx w n) : Fn m_X1_has g [rf g t, .int r0] sg I (some (.int (bI (0 ≤ r0 ∧ r0 < nI n)))) sg I := by
  obtain ⟨hk, hr, ha, h0, h1, h3, hn, hm, hw, hcap⟩ := hT
  refine Ct.of rfl (Nat.le_of_ble_eq_true rfl) fun X => ?_
  show V X _ sg I 0 [some (rf g t), some (.int r0)] []
  refine V_iload_n rfl dX1_has_0 ?_
  refine V_if_lt 16 dX1_has_1 (by decide) (fun h1 => ?_) (fun h1 => ?_)
  · skip
    refine V_iconst (nI 0) (by decide) dX1_has_16 ?_
    refine V_zret rfl (rfl) rfl rfl ?_ dX1_has_17
    exact ⟨by first | rw [bI_t ⟨by first | (rw [Int32.not_lt] at h1; exact h1) | assumption, by rw [Int32.not_le] at h9; exact h9⟩] | rw [bI_f (fun z => absurd z.1 (by rw [Int32.not_le]; assumption))] | rw [bI_f (fun z => absurd z.2 (by rw [Int32.not_lt]; assumption))], rfl, rfl⟩
  · skip
    refine V_iload_n rfl dX1_has_4 ?_
    refine V_aload_n rfl dX1_has_5 ?_
    refine gfe_X1_20 (by assumption) (by assumption) rfl dX1_has_6 ?_
    refine V_icmp_ge 16 dX1_has_9 (by decide) (fun h9 => ?_) (fun h9 => ?_)
    · skip
      refine V_iconst (nI 0) (by decide) dX1_has_16 ?_
      refine V_zret rfl (rfl) rfl rfl ?_ dX1_has_17
      exact ⟨by first | rw [bI_t ⟨by first | (rw [Int32.not_lt] at h1; exact h1) | assumption, by rw [Int32.not_le] at h9; exact h9⟩] | rw [bI_f (fun z => absurd z.1 (by rw [Int32.not_le]; assumption))] | rw [bI_f (fun z => absurd z.2 (by rw [Int32.not_lt]; assumption))], rfl, rfl⟩
    · skip
      refine V_iconst (nI 1) (by decide) dX1_has_12 ?_
      refine V_goto 17 dX1_has_13 (by decide) ?_
      refine V_zret rfl (rfl) rfl rfl ?_ dX1_has_17
      exact ⟨by first | rw [bI_t ⟨by first | (rw [Int32.not_lt] at h1; exact h1) | assumption, by rw [Int32.not_le] at h9; exact h9⟩] | rw [bI_f (fun z => absurd z.1 (by rw [Int32.not_le]; assumption))] | rw [bI_f (fun z => absurd z.2 (by rw [Int32.not_lt]; assumption))], rfl, rfl⟩
theorem C_clear (hT : Tab sg I t a mx w n) : Fn m_X1_clear g [rf g t] sg I none sg (upI I t 3 (nI 0)) := by
  obtain ⟨hk, hr, ha, h0, h1, h3, hn, hm, hw, hcap⟩ := hT
  refine Ct.of rfl (Nat.le_of_ble_eq_true rfl) fun X => ?_
  show V X _ sg I 0 [some (rf g t)] []
  refine V_aload_n rfl dX1_clear_0 ?_
  refine V_iconst (nI 0) (by decide) dX1_clear_1 ?_
  refine pf_X1_20 (by assumption) rfl dX1_clear_2 ?_
  refine V_vret rfl rfl rfl ?_ dX1_clear_5
  exact ⟨rfl, rfl, rfl⟩
theorem C_placeOf {j c : Nat} (hT : Tab sg I t a mx w n) (hj : j < 2147483648) (hc : c < w) : Fn m_X1_placeOf g [rf g t, .int (nI j), .int (nI c)] sg I (some (.int (if j < n then nI (j * w + c) else -1))) sg I := by
  obtain ⟨hk, hr, ha, h0, h1, h3, hn, hm, hw, hcap⟩ := hT
  refine Ct.of rfl (Nat.le_of_ble_eq_true rfl) fun X => ?_
  show V X _ sg I 0 [some (rf g t), some (.int (nI j)), some (.int (nI c))] []
  refine V_iload_n rfl dX1_placeOf_0 ?_
  refine V_if_ltN 35 dX1_placeOf_1 (by decide) (by omega) ?_
  refine V_iload_n rfl dX1_placeOf_4 ?_
  refine V_aload_n rfl dX1_placeOf_5 ?_
  refine gfe_X1_20 (by assumption) (by assumption) rfl dX1_placeOf_6 ?_
  refine V_icmp_geN 35 dX1_placeOf_9 (by decide) (by omega) (by omega) (fun h9 => ?_) (fun h9 => ?_)
  · skip
    refine V_iconst (-1) (by decide) dX1_placeOf_35 ?_
    refine V_iret rfl rfl rfl ?_ dX1_placeOf_36
    exact ⟨by first | rw [if_pos (by omega), nI_mul, nI_add] | rw [if_neg (by omega)], rfl, rfl⟩
  · skip
    refine V_iload_n rfl dX1_placeOf_12 ?_
    refine V_if_ltN 35 dX1_placeOf_13 (by decide) (by omega) ?_
    refine V_iload_n rfl dX1_placeOf_16 ?_
    refine V_aload_n rfl dX1_placeOf_17 ?_
    refine gfe_X1_13 (by assumption) (by assumption) rfl dX1_placeOf_18 ?_
    refine V_icmp_geN 35 dX1_placeOf_21 (by decide) (by omega) (by omega) (fun h21 => absurd h21 (by omega)) (fun h21 => ?_)
    refine V_iload_n rfl dX1_placeOf_24 ?_
    refine V_aload_n rfl dX1_placeOf_25 ?_
    refine gfe_X1_13 (by assumption) (by assumption) rfl dX1_placeOf_26 ?_
    refine V_imul dX1_placeOf_29 ?_
    refine V_iload_n rfl dX1_placeOf_30 ?_
    refine V_iadd dX1_placeOf_31 ?_
    refine V_goto 36 dX1_placeOf_32 (by decide) ?_
    refine V_iret rfl rfl rfl ?_ dX1_placeOf_36
    exact ⟨by first | rw [if_pos (by omega), nI_mul, nI_add] | rw [if_neg (by omega)], rfl, rfl⟩
theorem C_get {j c : Nat} (hT : Tab sg I t a mx w n) (hj : j < 2147483648) (hc : c < w) : Fn m_X1_get g [rf g t, .int (nI j), .int (nI c)] sg I (some (.int (if j < n then I a (j * w + c) else nI 0))) sg I := by
  have hP := C_placeOf (g := g) hT hj hc
  obtain ⟨hk, hr, ha, h0, h1, h3, hn, hm, hw, hcap⟩ := hT
  refine Ct.of rfl (Nat.le_of_ble_eq_true rfl) fun X => ?_
  show V X _ sg I 0 [some (rf g t), some (.int (nI j)), some (.int (nI c)), none] []
  by_cases hjn : j < n
  · have hlt := tb_lt (mx := mx) (Nat.lt_of_lt_of_le hjn hn) hc
    rw [if_pos hjn] at hP ⊢
    refine V_aload_n rfl dX1_get_0 ?_
    refine V_iload_n rfl dX1_get_1 ?_
    refine V_iload_n rfl dX1_get_2 ?_
    refine cf_X1_23 (hP) (by assumption) rfl rfl ft0 (Nat.le_of_ble_eq_true rfl) dX1_get_3 ?_
    refine V_ist3 rfl rfl dX1_get_6 ?_
    refine V_iload_n rfl dX1_get_7 ?_
    refine V_if_ltN 29 dX1_get_8 (by decide) (by omega) ?_
    refine V_iload_n rfl dX1_get_11 ?_
    refine V_aload_n rfl dX1_get_12 ?_
    refine gf_X1_16 (by assumption) (by assumption) rfl dX1_get_13 ?_
    refine V_alen _ (by assumption) (by decide) (by decide) rfl dX1_get_16 ?_
    refine V_icmp_geN 29 dX1_get_17 (by decide) (by omega) (by omega) (fun h17 => absurd h17 (by omega)) (fun h17 => ?_)
    refine V_aload_n rfl dX1_get_20 ?_
    refine gf_X1_16 (by assumption) (by assumption) rfl dX1_get_21 ?_
    refine V_iload_n rfl dX1_get_24 ?_
    refine V_iald _ (by assumption) rfl (by omega) (by omega) dX1_get_25 ?_
    refine V_goto 30 dX1_get_26 (by decide) ?_
    refine V_iret rfl rfl rfl ?_ dX1_get_30
    exact ⟨rfl, rfl, rfl⟩
  · rw [if_neg hjn] at hP ⊢
    refine V_aload_n rfl dX1_get_0 ?_
    refine V_iload_n rfl dX1_get_1 ?_
    refine V_iload_n rfl dX1_get_2 ?_
    refine cf_X1_23 (hP) (by assumption) rfl rfl ft0 (Nat.le_of_ble_eq_true rfl) dX1_get_3 ?_
    refine V_ist3 rfl rfl dX1_get_6 ?_
    refine V_iload_n rfl dX1_get_7 ?_
    refine V_if_lt 29 dX1_get_8 (by decide) (fun h8 => ?_) (fun h8 => absurd h8 (by exact fun z => z (by decide)))
    refine V_iconst (nI 0) (by decide) dX1_get_29 ?_
    refine V_iret rfl rfl rfl ?_ dX1_get_30
    exact ⟨rfl, rfl, rfl⟩
theorem C_set {j c : Nat} {v : Int32} (hT : Tab sg I t a mx w n) (hj : j < n) (hc : c < w) : Fn m_X1_set g [rf g t, .int (nI j), .int (nI c), .int v] sg I none sg (upI I a (j * w + c) v) := by
  have hP := C_placeOf (g := g) hT (j := j) (by have := hT.2.2.2.2.2.2; omega) hc
  obtain ⟨hk, hr, ha, h0, h1, h3, hn, hm, hw, hcap⟩ := hT
  refine Ct.of rfl (Nat.le_of_ble_eq_true rfl) fun X => ?_
  show V X _ sg I 0 [some (rf g t), some (.int (nI j)), some (.int (nI c)), some (.int v), none] []
  have hlt := tb_lt (mx := mx) (Nat.lt_of_lt_of_le hj hn) hc
  rw [if_pos hj] at hP
  refine V_aload_n rfl dX1_set_0 ?_
  refine V_iload_n rfl dX1_set_1 ?_
  refine V_iload_n rfl dX1_set_2 ?_
  refine cf_X1_23 (hP) (by assumption) rfl rfl ft0 (Nat.le_of_ble_eq_true rfl) dX1_set_3 ?_
  refine V_ist4 rfl rfl dX1_set_6 ?_
  refine V_iload rfl dX1_set_8 ?_
  refine V_if_ltN 31 dX1_set_10 (by decide) (by omega) ?_
  refine V_iload rfl dX1_set_13 ?_
  refine V_aload_n rfl dX1_set_15 ?_
  refine gf_X1_16 (by assumption) (by assumption) rfl dX1_set_16 ?_
  refine V_alen _ (by assumption) (by decide) (by decide) rfl dX1_set_19 ?_
  refine V_icmp_geN 31 dX1_set_20 (by decide) (by omega) (by omega) (fun h20 => absurd h20 (by omega)) (fun h20 => ?_)
  refine V_aload_n rfl dX1_set_23 ?_
  refine gf_X1_16 (by assumption) (by assumption) rfl dX1_set_24 ?_
  refine V_iload rfl dX1_set_27 ?_
  refine V_iload_n rfl dX1_set_29 ?_
  refine V_iast _ (by assumption) rfl (by omega) (by omega) dX1_set_30 ?_
  refine V_vret rfl rfl rfl ?_ dX1_set_31
  exact ⟨rfl, rfl, rfl⟩
/-- what add writes into a column -/
def vsel (x y z : Int32) (c : Nat) : Int32 := if c = 0 then x else if c = 1 then y else if c = 2 then z else nI 0
def addQ (sg : SG) (I : IM) (t a mx w n : Nat) (x y z : Int32) : Option Value → SG → IM → Prop := (fun r0 s0 J => s0 = sg ∧
    ((n < mx ∧ r0 = some (.int (nI 1)) ∧ Tab sg J t a mx w (n + 1) ∧ (∀ k, k < n * w → J a k = I a k) ∧ (∀ c, c < w → J a (n * w + c) = vsel x y z c) ∧ (∀ q, q ≠ t → q ≠ a → J q = I q)) ∨ (mx ≤ n ∧ r0 = some (.int (nI 0)) ∧ J = I)))
theorem C_add {x y z : Int32} (hT : Tab sg I t a mx w n) : Ct m_X1_add g [rf g t, .int x, .int y, .int z] sg I (addQ sg I t a mx w n x y z) := by
  have hT0 := hT
  obtain ⟨hk, hr, ha, h0, h1, h3, hn, hm, hw, hcap⟩ := hT
  refine Ct.of rfl (Nat.le_of_ble_eq_true rfl) fun X => ?_
  show V X _ sg I 0 [some (rf g t), some (.int x), some (.int y), some (.int z), none] []
  have hta := hT0.ne
  have loop : ∀ (d col : Nat) (J : IM), w - col = d → col ≤ w → n < mx → Tab sg J t a mx w (n + 1) → (∀ k, k < n * w → J a k = I a k) → (∀ c, c < col → J a (n * w + c) = vsel x y z c) → (∀ q, q ≠ t → q ≠ a → J q = I q) →
      V X (ZQ X (addQ sg I t a mx w n x y z)) sg J 26 [some (rf g t), some (.int x), some (.int y), some (.int z), some (.int (nI col))] [] := by
    intro d
    induction d with
    | zero =>
      intro col J hd hcw hnm hTJ hold hnew hfr
      have e : col = w := by omega
      subst e
      have hTJ0 := hTJ
      obtain ⟨k1, k2, k3, k4, k5, k6, k7, k8⟩ := hTJ
      refine V_iload rfl dX1_add_26 ?_
      refine V_aload_n rfl dX1_add_28 ?_
      refine gfe_X1_13 (by assumption) (by assumption) rfl dX1_add_29 ?_
      refine V_icmp_geN 83 dX1_add_32 (by decide) (by omega) (by omega) (fun h32 => ?_) (fun h32 => absurd h32 (by omega))
      refine V_iconst (nI 1) (by decide) dX1_add_83 ?_
      refine V_zret rfl (rfl) rfl rfl ?_ dX1_add_84
      exact ⟨rfl, Or.inl ⟨hnm, rfl, hTJ0, hold, hnew, hfr⟩⟩
    | succ d ih =>
      intro col J hd hcw hnm hTJ hold hnew hfr
      have hTJ0 := hTJ
      obtain ⟨k1, k2, k3, k4, k5, k6, k7, k8⟩ := hTJ
      have hcl : col < w := by omega
      have key : V X (ZQ X (addQ sg I t a mx w n x y z)) sg J 74 [some (rf g t), some (.int x), some (.int y), some (.int z), some (.int (nI col))] [.int (vsel x y z col), .int (nI col), .int (nI n), rf g t] := by
        refine cf_X1_27 (C_set hTJ0 (Nat.lt_succ_self n) hcl) (by assumption) rfl rfl ft0 (Nat.le_of_ble_eq_true rfl) dX1_add_74 ?_
        refine V_iinc4_ _ (nI_inc _) rfl rfl dX1_add_77 ?_
        refine V_goto 26 dX1_add_80 (by decide) ?_
        refine ih (col + 1) _ (by omega) (by omega) hnm (hTJ0.upI (Ne.symm hta)) (fun k hk => ?_) (fun c hc => ?_) (fun q q1 q2 => ?_)
        · rw [upI_ne (Or.inr (by omega))]; exact hold k hk
        · by_cases e : c = col
          · subst e; exact upI_eq
          · rw [upI_ne (Or.inr (by omega))]; exact hnew c (by omega)
        · rw [← hfr q q1 q2]; exact funext fun b => upI_ne (Or.inl q2)
      refine V_iload rfl dX1_add_26 ?_
      refine V_aload_n rfl dX1_add_28 ?_
      refine gfe_X1_13 (by assumption) (by assumption) rfl dX1_add_29 ?_
      refine V_icmp_geN 83 dX1_add_32 (by decide) (by omega) (by omega) (fun h32 => absurd h32 (by omega)) (fun h32 => ?_)
      refine V_aload_n rfl dX1_add_35 ?_
      refine V_aload_n rfl dX1_add_36 ?_
      refine gfe_X1_20 (by assumption) (by assumption) rfl dX1_add_37 ?_
      refine V_iconst (nI 1) (by decide) dX1_add_40 ?_
      refine V_isub dX1_add_41 ?_
      refine V_topi (nI_pred n) ?_
      refine V_iload rfl dX1_add_42 ?_
      refine V_iload rfl dX1_add_44 ?_
      refine V_if_neN 53 dX1_add_46 (by decide) (by omega) (fun h46 => ?_) (fun h46 => ?_)
      · skip
        refine V_iload rfl dX1_add_53 ?_
        refine V_iconst (nI 1) (by decide) dX1_add_55 ?_
        refine V_icmp_neN 63 dX1_add_56 (by decide) (by omega) (by omega) (fun h56 => ?_) (fun h56 => ?_)
        · skip
          refine V_iload rfl dX1_add_63 ?_
          refine V_iconst (nI 2) (by decide) dX1_add_65 ?_
          refine V_icmp_neN 73 dX1_add_66 (by decide) (by omega) (by omega) (fun h66 => ?_) (fun h66 => ?_)
          · skip
            refine V_iconst (nI 0) (by decide) dX1_add_73 ?_
            exact V_topi (by first | (subst h46; rfl) | (subst h56; rfl) | (subst h66; rfl) | (unfold vsel; rw [if_neg (by omega), if_neg (by omega), if_neg (by omega)])) key
          · skip
            refine V_iload_n rfl dX1_add_69 ?_
            refine V_goto 74 dX1_add_70 (by decide) ?_
            exact V_topi (by first | (subst h46; rfl) | (subst h56; rfl) | (subst h66; rfl) | (unfold vsel; rw [if_neg (by omega), if_neg (by omega), if_neg (by omega)])) key
        · skip
          refine V_iload_n rfl dX1_add_59 ?_
          refine V_goto 74 dX1_add_60 (by decide) ?_
          exact V_topi (by first | (subst h46; rfl) | (subst h56; rfl) | (subst h66; rfl) | (unfold vsel; rw [if_neg (by omega), if_neg (by omega), if_neg (by omega)])) key
      · skip
        refine V_iload_n rfl dX1_add_49 ?_
        refine V_goto 74 dX1_add_50 (by decide) ?_
        exact V_topi (by first | (subst h46; rfl) | (subst h56; rfl) | (subst h66; rfl) | (unfold vsel; rw [if_neg (by omega), if_neg (by omega), if_neg (by omega)])) key
  refine V_aload_n rfl dX1_add_0 ?_
  refine gfe_X1_20 (by assumption) (by assumption) rfl dX1_add_1 ?_
  refine V_aload_n rfl dX1_add_4 ?_
  refine gfe_X1_7 (by assumption) (by assumption) rfl dX1_add_5 ?_
  refine V_icmp_ltN 13 dX1_add_8 (by decide) (by omega) (by omega) (fun h8 => ?_) (fun h8 => ?_)
  · skip
    refine V_aload_n rfl dX1_add_13 ?_
    refine V_dup rfl dX1_add_14 ?_
    refine gfe_X1_20 (by assumption) (by assumption) rfl dX1_add_15 ?_
    refine V_iconst (nI 1) (by decide) dX1_add_18 ?_
    refine V_iadd dX1_add_19 ?_
    rw [nI_add]
    refine pf_X1_20 (by assumption) rfl dX1_add_20 ?_
    refine V_iconst (nI 0) (by decide) dX1_add_23 ?_
    refine V_ist4 rfl rfl dX1_add_24 ?_
    refine loop w 0 _ (by omega) (by omega) (by omega) (hT0.resize (fun k hk => upI_ne (Or.inr hk)) upI_eq (by omega)) (fun k hk => upI_ne (Or.inl (Ne.symm hta))) (fun c hc => absurd hc (Nat.not_lt_zero c)) (fun q q1 q2 => funext fun b => upI_ne (Or.inl q1))
  · skip
    refine V_iconst (nI 0) (by decide) dX1_add_11 ?_
    refine V_zret rfl (rfl) rfl rfl ?_ dX1_add_12
    exact ⟨rfl, Or.inr ⟨by omega, rfl, rfl⟩⟩
/-- row k of table b copied onto row l of table t -/
def cpQ (sg : SG) (I : IM) (a b w k l : Nat) : Option Value → SG → IM → Prop := fun r0 s0 J => r0 = none ∧ s0 = sg ∧ (∀ c, c < w → J a (l * w + c) = I b (k * w + c)) ∧ (∀ i, (i < l * w ∨ l * w + w ≤ i) → J a i = I a i) ∧ (∀ q, q ≠ a → J q = I q)
theorem rows_apart {k l w c d : Nat} (h : k ≠ l) (hc : c < w) (hd : d < w) : k * w + c ≠ l * w + d := by
  rcases Nat.lt_or_gt_of_ne h with h1 | h1
  · have h2 : (k + 1) * w ≤ l * w := Nat.mul_le_mul_right w h1
    rw [Nat.add_mul] at h2; omega
  · have h2 : (l + 1) * w ≤ k * w := Nat.mul_le_mul_right w h1
    rw [Nat.add_mul] at h2; omega
theorem C_copyRow {u b mx2 n2 k l : Nat} (hT : Tab sg I t a mx w n) (hU : Tab sg I u b mx2 w n2) (hk2 : k < n2) (hl : l < n) (hne : a = b → k ≠ l) : Ct m_X1_copyRow g [rf g t, rf g u, .int (nI k), .int (nI l)] sg I (cpQ sg I a b w k l) := by
  have hT0 := hT
  have hU0 := hU
  obtain ⟨hk, hr, ha, h0, h1, h3, hn, hm, hw, hcap⟩ := hT
  have hua : u ≠ a := fun e => by
    have h2 := hU0.1
    rw [e, ha] at h2
    exact absurd h2 (show ¬ (7 : Nat) = 1 by decide)
  have hta := hT0.ne
  have ku1 := hU0.1
  have hn2 := hU0.2.2.2.2.2.2.1
  have hm2 := hU0.2.2.2.2.2.2.2.1
  refine Ct.of rfl (Nat.le_of_ble_eq_true rfl) fun X => ?_
  show V X _ sg I 0 [some (rf g t), some (rf g u), some (.int (nI k)), some (.int (nI l)), none] []
  have loop : ∀ (d col : Nat) (J : IM), w - col = d → col ≤ w → (∀ c, c < col → J a (l * w + c) = I b (k * w + c)) → (∀ i, (i < l * w ∨ l * w + col ≤ i) → J a i = I a i) → (∀ q, q ≠ a → J q = I q) →
      V X (ZQ X (cpQ sg I a b w k l)) sg J 3 [some (rf g t), some (rf g u), some (.int (nI k)), some (.int (nI l)), some (.int (nI col))] [] := by
    intro d
    induction d with
    | zero =>
      intro col J hd hcw hnew hold hfr
      have e : col = w := by omega
      subst e
      have k1 : J t 1 = nI col := by rw [hfr t hta]; exact h1
      refine V_iload rfl dX1_copyRow_3 ?_
      refine V_aload_n rfl dX1_copyRow_5 ?_
      refine gfe_X1_13 (by assumption) (by assumption) rfl dX1_copyRow_6 ?_
      refine V_icmp_geN 32 dX1_copyRow_9 (by decide) (by omega) (by omega) (fun h9 => ?_) (fun h9 => absurd h9 (by omega))
      refine V_vret rfl rfl rfl ?_ dX1_copyRow_32
      exact ⟨rfl, rfl, hnew, hold, hfr⟩
    | succ d ih =>
      intro col J hd hcw hnew hold hfr
      have hcl : col < w := by omega
      have k1 : J t 1 = nI w := by rw [hfr t hta]; exact h1
      have hTJ : Tab sg J t a mx w n := hT0.other (hfr t hta)
      have hUJ : Tab sg J u b mx2 w n2 := hU0.other (hfr u hua)
      have hJb : J b (k * w + col) = I b (k * w + col) := by
        by_cases e : b = a
        · subst e
          refine hold _ ?_
          have h7 := fun c hc => rows_apart (w := w) (hne rfl) hcl (d := c) hc
          by_cases h8 : k * w + col < l * w
          · exact Or.inl h8
          · refine Or.inr ?_
            apply Nat.le_of_not_lt
            intro h9
            exact h7 (k * w + col - l * w) (by omega) (by omega)
        · rw [hfr b e]
      refine V_iload rfl dX1_copyRow_3 ?_
      refine V_aload_n rfl dX1_copyRow_5 ?_
      refine gfe_X1_13 (by assumption) (by assumption) rfl dX1_copyRow_6 ?_
      refine V_icmp_geN 32 dX1_copyRow_9 (by decide) (by omega) (by omega) (fun h9 => absurd h9 (by omega)) (fun h9 => ?_)
      refine V_aload_n rfl dX1_copyRow_12 ?_
      refine V_iload_n rfl dX1_copyRow_13 ?_
      refine V_iload rfl dX1_copyRow_14 ?_
      refine V_aload_n rfl dX1_copyRow_16 ?_
      refine V_iload_n rfl dX1_copyRow_17 ?_
      refine V_iload rfl dX1_copyRow_18 ?_
      refine cf_X1_40 (C_get hUJ (by omega) hcl) (by assumption) rfl rfl ft0 (Nat.le_of_ble_eq_true rfl) dX1_copyRow_20 ?_
      rw [if_pos hk2, hJb]
      refine cf_X1_27 (C_set hTJ hl hcl) (by assumption) rfl rfl ft0 (Nat.le_of_ble_eq_true rfl) dX1_copyRow_23 ?_
      refine V_iinc4_ _ (nI_inc _) rfl rfl dX1_copyRow_26 ?_
      refine V_goto 3 dX1_copyRow_29 (by decide) ?_
      refine ih (col + 1) _ (by omega) (by omega) (fun c hc => ?_) (fun i hi => ?_) (fun q hq => ?_)
      · by_cases e : c = col
        · subst e; exact upI_eq
        · rw [upI_ne (Or.inr (by omega))]; exact hnew c (by omega)
      · rw [upI_ne (Or.inr (by omega))]; exact hold i (by omega)
      · rw [← hfr q hq]; exact funext fun b => upI_ne (Or.inl hq)
  refine V_iconst (nI 0) (by decide) dX1_copyRow_0 ?_
  refine V_ist4 rfl rfl dX1_copyRow_1 ?_
  exact loop w 0 I (by omega) (by omega) (fun c hc => absurd hc (Nat.not_lt_zero c)) (fun i hi => rfl) (fun q hq => rfl)
/-- copyFrom: the rows of another table of the same width -/
def cfQ (sg : SG) (I : IM) (t a mx b w n2 : Nat) : Option Value → SG → IM → Prop := fun r0 s0 J => r0 = none ∧ s0 = sg ∧ Tab sg J t a mx w n2 ∧ (∀ k, k < n2 * w → J a k = I b k) ∧ (∀ q, q ≠ t → q ≠ a → J q = I q)
theorem C_copyFrom {u b mx2 n2 : Nat} (hT : Tab sg I t a mx w n) (hU : Tab sg I u b mx2 w n2) (hne : a ≠ b) (htu : t ≠ u) (hle : n2 ≤ mx) : Ct m_X1_copyFrom g [rf g t, rf g u] sg I (cfQ sg I t a mx b w n2) := by
  have hT0 := hT
  have hU0 := hU
  obtain ⟨hk, hr, ha, h0, h1, h3, hn, hm, hw, hcap⟩ := hT
  have hua : u ≠ a := fun e => by
    have h2 := hU0.1
    rw [e, ha] at h2
    exact absurd h2 (show ¬ (7 : Nat) = 1 by decide)
  have htb : t ≠ b := fun e => by
    have h2 := hU0.2.2.1
    rw [← e] at h2
    rw [h2] at hk
    exact absurd hk (show ¬ (7 : Nat) = 1 by decide)
  have hta := hT0.ne
  have ku1 := hU0.1
  have ku2 := hU0.2.2.2.2.2.1
  refine Ct.of rfl (Nat.le_of_ble_eq_true rfl) fun X => ?_
  show V X _ sg I 0 [some (rf g t), some (rf g u), none] []
  have loop : ∀ (d k : Nat) (J : IM), n2 - k = d → k ≤ n2 → Tab sg J t a mx w n2 → (∀ i, i < k * w → J a i = I b i) → (∀ q, q ≠ t → q ≠ a → J q = I q) →
      V X (ZQ X (cfQ sg I t a mx b w n2)) sg J 17 [some (rf g t), some (rf g u), some (.int (nI k))] [] := by
    intro d
    induction d with
    | zero =>
      intro k J hd hk2 hTJ hnew hfr
      have e : k = n2 := by omega
      subst e
      have k3 := hTJ.2.2.2.2.2.1
      refine V_iload_n rfl dX1_copyFrom_17 ?_
      refine V_aload_n rfl dX1_copyFrom_18 ?_
      refine gfe_X1_20 (by assumption) (by assumption) rfl dX1_copyFrom_19 ?_
      refine V_icmp_geN 38 dX1_copyFrom_22 (by decide) (by omega) (by omega) (fun h22 => ?_) (fun h22 => absurd h22 (by omega))
      refine V_vret rfl rfl rfl ?_ dX1_copyFrom_38
      exact ⟨rfl, rfl, hTJ, hnew, hfr⟩
    | succ d ih =>
      intro k J hd hk2 hTJ hnew hfr
      have k3 := hTJ.2.2.2.2.2.1
      have hUJ : Tab sg J u b mx2 w n2 := hU0.other (hfr u (Ne.symm htu) hua)
      refine V_iload_n rfl dX1_copyFrom_17 ?_
      refine V_aload_n rfl dX1_copyFrom_18 ?_
      refine gfe_X1_20 (by assumption) (by assumption) rfl dX1_copyFrom_19 ?_
      refine V_icmp_geN 38 dX1_copyFrom_22 (by decide) (by omega) (by omega) (fun h22 => absurd h22 (by omega)) (fun h22 => ?_)
      refine V_aload_n rfl dX1_copyFrom_25 ?_
      refine V_aload_n rfl dX1_copyFrom_26 ?_
      refine V_iload_n rfl dX1_copyFrom_27 ?_
      refine V_iload_n rfl dX1_copyFrom_28 ?_
      refine cl_X1_31 (C_copyRow hTJ hUJ (k := k) (l := k) (by omega) (by omega) (fun e => absurd e hne)) (by assumption) rfl rfl ft0 (Nat.le_of_ble_eq_true rfl) dX1_copyFrom_29 (fun r1 s1 J1 hq => ?_)
      obtain ⟨rfl, rfl, e1, e2, e3⟩ := hq
      show V X _ s1 J1 32 _ []
      refine V_iinc2_ _ (nI_inc _) rfl rfl dX1_copyFrom_32 ?_
      refine V_goto 17 dX1_copyFrom_35 (by decide) ?_
      refine ih (k + 1) J1 (by omega) (by omega) (hTJ.other (e3 t hta)) (fun i hi => ?_) (fun q q1 q2 => by rw [e3 q q2]; exact hfr q q1 q2)
      rw [Nat.add_mul] at hi
      by_cases h9 : i < k * w
      · rw [e2 i (Or.inl h9)]; exact hnew i h9
      · have h10 := e1 (i - k * w) (by omega)
        rw [show k * w + (i - k * w) = i by omega] at h10
        rw [h10, hfr b (Ne.symm htb) (Ne.symm hne)]
  refine V_aload_n rfl dX1_copyFrom_0 ?_
  refine V_aload_n rfl dX1_copyFrom_1 ?_
  refine gfe_X1_20 (by assumption) (by assumption) rfl dX1_copyFrom_2 ?_
  refine V_aload_n rfl dX1_copyFrom_5 ?_
  refine gfe_X1_7 (by assumption) (by assumption) rfl dX1_copyFrom_6 ?_
  refine V_minN wl_X1_35 ws_min wi_Math wc_min (by decide) (Nat.le_of_ble_eq_true rfl) fh0 (by have := hU0.2.2.2.2.2.2; omega) (by omega) dX1_copyFrom_9 ?_
  rw [Nat.min_eq_left hle]
  refine pf_X1_20 (by assumption) rfl dX1_copyFrom_12 ?_
  refine V_iconst (nI 0) (by decide) dX1_copyFrom_15 ?_
  refine V_ist2 rfl rfl dX1_copyFrom_16 ?_
  exact loop n2 0 _ (by omega) (by omega) (hT0.resize (fun k hk => upI_ne (Or.inr hk)) upI_eq hle) (fun i hi => absurd hi (by omega)) (fun q q1 q2 => funext fun b => upI_ne (Or.inl q1))
/-- remove: the rows behind come one down -/
def rmQ (sg : SG) (I : IM) (t a mx w n k : Nat) : Option Value → SG → IM → Prop := fun r0 s0 J => r0 = none ∧ s0 = sg ∧ Tab sg J t a mx w (n - 1) ∧ (∀ i, i < k * w → J a i = I a i) ∧ (∀ i, k * w ≤ i → i < (n - 1) * w → J a i = I a (i + w)) ∧ (∀ q, q ≠ t → q ≠ a → J q = I q)
theorem C_remove {k : Nat} (hT : Tab sg I t a mx w n) (hkn : k < n) : Ct m_X1_remove g [rf g t, .int (nI k)] sg I (rmQ sg I t a mx w n k) := by
  have hT0 := hT
  obtain ⟨hk, hr, ha, h0, h1, h3, hn, hm, hw, hcap⟩ := hT
  have hta := hT0.ne
  refine Ct.of rfl (Nat.le_of_ble_eq_true rfl) fun X => ?_
  show V X _ sg I 0 [some (rf g t), some (.int (nI k)), none] []
  have loop : ∀ (d l : Nat) (J : IM), n - 1 - l = d → k ≤ l → l ≤ n - 1 → (∀ i, i < k * w → J a i = I a i) → (∀ i, k * w ≤ i → i < l * w → J a i = I a (i + w)) → (∀ i, l * w ≤ i → J a i = I a i) → (∀ q, q ≠ a → J q = I q) →
      V X (ZQ X (rmQ sg I t a mx w n k)) sg J 15 [some (rf g t), some (.int (nI k)), some (.int (nI l))] [] := by
    intro d
    induction d with
    | zero =>
      intro l J hd hkl hl c1 c2 c3 hfr
      have e : l = n - 1 := by omega
      subst e
      have hTJ : Tab sg J t a mx w n := hT0.other (hfr t hta)
      have k3 : J t 3 = nI n := by rw [hfr t hta]; exact h3
      have hn1 : nI n - nI 1 = nI (n - 1) := nI_subN (by omega)
      refine V_iload_n rfl dX1_remove_15 ?_
      refine V_aload_n rfl dX1_remove_16 ?_
      refine gfe_X1_20 (by assumption) (by assumption) rfl dX1_remove_17 ?_
      refine V_iconst (nI 1) (by decide) dX1_remove_20 ?_
      refine V_isub dX1_remove_21 ?_
      rw [hn1]
      refine V_icmp_geN 40 dX1_remove_22 (by decide) (by omega) (by omega) (fun h22 => ?_) (fun h22 => absurd h22 (by omega))
      refine V_aload_n rfl dX1_remove_40 ?_
      refine V_dup rfl dX1_remove_41 ?_
      refine gfe_X1_20 (by assumption) (by assumption) rfl dX1_remove_42 ?_
      refine V_iconst (nI 1) (by decide) dX1_remove_45 ?_
      refine V_isub dX1_remove_46 ?_
      rw [hn1]
      refine pf_X1_20 (by assumption) rfl dX1_remove_47 ?_
      refine V_vret rfl rfl rfl ?_ dX1_remove_50
      exact ⟨rfl, rfl, hTJ.resize (fun k hk => upI_ne (Or.inr hk)) upI_eq (by omega), fun i hi => by rw [upI_ne (Or.inl (Ne.symm hta))]; exact c1 i hi, fun i i1 i2 => by rw [upI_ne (Or.inl (Ne.symm hta))]; exact c2 i i1 i2, fun q q1 q2 => by rw [← hfr q q2]; exact funext fun b => upI_ne (Or.inl q1)⟩
    | succ d ih =>
      intro l J hd hkl hl c1 c2 c3 hfr
      have hTJ : Tab sg J t a mx w n := hT0.other (hfr t hta)
      have k3 : J t 3 = nI n := by rw [hfr t hta]; exact h3
      have hn1 : nI n - nI 1 = nI (n - 1) := nI_subN (by omega)
      have hkw : k * w ≤ l * w := Nat.mul_le_mul_right w hkl
      refine V_iload_n rfl dX1_remove_15 ?_
      refine V_aload_n rfl dX1_remove_16 ?_
      refine gfe_X1_20 (by assumption) (by assumption) rfl dX1_remove_17 ?_
      refine V_iconst (nI 1) (by decide) dX1_remove_20 ?_
      refine V_isub dX1_remove_21 ?_
      rw [hn1]
      refine V_icmp_geN 40 dX1_remove_22 (by decide) (by omega) (by omega) (fun h22 => absurd h22 (by omega)) (fun h22 => ?_)
      refine V_aload_n rfl dX1_remove_25 ?_
      refine V_aload_n rfl dX1_remove_26 ?_
      refine V_iload_n rfl dX1_remove_27 ?_
      refine V_iconst (nI 1) (by decide) dX1_remove_28 ?_
      refine V_iadd dX1_remove_29 ?_
      rw [nI_add]
      refine V_iload_n rfl dX1_remove_30 ?_
      refine cl_X1_31 (C_copyRow hTJ hTJ (k := l + 1) (l := l) (by omega) (by omega) (fun _ => by omega)) (by assumption) rfl rfl ft0 (Nat.le_of_ble_eq_true rfl) dX1_remove_31 (fun r1 s1 J1 hq => ?_)
      obtain ⟨rfl, rfl, e1, e2, e3⟩ := hq
      show V X _ s1 J1 34 _ []
      refine V_iinc2_ _ (nI_inc _) rfl rfl dX1_remove_34 ?_
      refine V_goto 15 dX1_remove_37 (by decide) ?_
      refine ih (l + 1) J1 (by omega) (by omega) (by omega) (fun i hi => ?_) (fun i i1 i2 => ?_) (fun i hi => ?_) (fun q hq => by rw [e3 q hq]; exact hfr q hq)
      · rw [e2 i (by omega)]; exact c1 i hi
      · rw [Nat.add_mul] at i2
        by_cases h9 : i < l * w
        · rw [e2 i (Or.inl h9)]; exact c2 i i1 h9
        · have h10 := e1 (i - l * w) (by omega)
          rw [show l * w + (i - l * w) = i by omega, Nat.add_mul, show l * w + 1 * w + (i - l * w) = i + w by omega] at h10
          rw [h10]; exact c3 _ (by omega)
      · rw [Nat.add_mul] at hi
        rw [e2 i (by omega)]; exact c3 i (by omega)
  refine V_iload_n rfl dX1_remove_0 ?_
  refine V_if_ltN 12 dX1_remove_1 (by decide) (by omega) ?_
  refine V_iload_n rfl dX1_remove_4 ?_
  refine V_aload_n rfl dX1_remove_5 ?_
  refine gfe_X1_20 (by assumption) (by assumption) rfl dX1_remove_6 ?_
  refine V_icmp_ltN 13 dX1_remove_9 (by decide) (by omega) (by omega) (fun h9 => ?_) (fun h9 => absurd h9 (by omega))
  refine V_iload_n rfl dX1_remove_13 ?_
  refine V_ist2 rfl rfl dX1_remove_14 ?_
  exact loop (n - 1 - k) k I rfl (Nat.le_refl k) (by omega) (fun i hi => rfl) (fun i i1 i2 => absurd i1 (by omega)) (fun i hi => rfl) (fun q hq => rfl)
end TABLE
