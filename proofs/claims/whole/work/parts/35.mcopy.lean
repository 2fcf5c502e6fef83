/-! CarvedWeeksModel: the slots copied -/
def cpyQ (sg : SG) (I : IM) (a b : Nat) : Option Value → SG → IM → Prop := fun r0 s0 J => r0 = none ∧ s0 = sg ∧ (∀ k, k < 56 → J 100 (56 * b + k) = I 100 (56 * a + k)) ∧ (∀ j, (j < 56 * b ∨ 56 * b + 56 ≤ j) → J 100 j = I 100 j) ∧ ∀ q, q ≠ 100 → J q = I q
section MCOPY
variable {g : GC} {sg : SG} {I : IM} {x : XV} {tv : TV} {W : WV} {P K : SV} {np : Nat}
theorem D_copies {a b : Nat} (hK : MK sg) (ha : a < 12) (hb : b < 12) (hne : a ≠ b) : Ct m_X6_copies g [rf g 92, .int (nI a), .int (nI b)] sg I (cpyQ sg I a b) := by
  obtain ⟨m0, mR1, mR3, mR4, mR5, mR6, mR7, mR8, mR10, mR16, mR17, mA93, mA94, mA95, mA96, mA97, mA98, mA99, mA100, mA101, mA102⟩ := hK
  refine Ct.of rfl (Nat.le_of_ble_eq_true rfl) fun X => ?_
  show V X _ sg I 0 [some (rf g 92), some (.int (nI a)), some (.int (nI b)), none] []
  have loop : ∀ (d k : Nat) (J : IM), 56 - k = d → k ≤ 56 → (∀ i, i < k → J 100 (56 * b + i) = I 100 (56 * a + i)) → (∀ j, (j < 56 * b ∨ 56 * b + k ≤ j) → J 100 j = I 100 j) → (∀ q, q ≠ 100 → J q = I q) → V X (ZQ X (cpyQ sg I a b)) sg J 2 [some (rf g 92), some (.int (nI a)), some (.int (nI b)), some (.int (nI k))] [] := by
    intro d
    induction d with
    | zero =>
      intro k J hd hk h1 h2 h3
      have e : k = 56 := by omega
      subst e
      refine V_iload_n rfl dX6_copies_2 ?_
      refine V_bipush (nI 56) (by decide) dX6_copies_3 ?_
      refine V_icmp_geN 36 dX6_copies_5 (by decide) (by omega) (by omega) (fun h5 => ?_) (fun h5 => absurd h5 (by decide))
      refine V_vret rfl rfl rfl ?_ dX6_copies_36
      exact ⟨rfl, rfl, h1, h2, h3⟩
    | succ d ih =>
      intro k J hd hk h1 h2 h3
      have hv : J 100 (56 * a + k) = I 100 (56 * a + k) := h2 _ (by omega)
      refine V_iload_n rfl dX6_copies_2 ?_
      refine V_bipush (nI 56) (by decide) dX6_copies_3 ?_
      refine V_icmp_geN 36 dX6_copies_5 (by decide) (by omega) (by omega) (fun h5 => absurd h5 (by omega)) (fun h5 => ?_)
      refine V_aload_n rfl dX6_copies_8 ?_
      refine gf_X6_33 (by assumption) (by assumption) rfl dX6_copies_9 ?_
      refine V_bipush (nI 56) (by decide) dX6_copies_12 ?_
      refine V_iload_n rfl dX6_copies_14 ?_
      refine V_imulN dX6_copies_15 ?_
      refine V_iload_n rfl dX6_copies_16 ?_
      refine V_iaddN dX6_copies_17 ?_
      refine V_aload_n rfl dX6_copies_18 ?_
      refine gf_X6_33 (by assumption) (by assumption) rfl dX6_copies_19 ?_
      refine V_bipush (nI 56) (by decide) dX6_copies_22 ?_
      refine V_iload_n rfl dX6_copies_24 ?_
      refine V_imulN dX6_copies_25 ?_
      refine V_iload_n rfl dX6_copies_26 ?_
      refine V_iaddN dX6_copies_27 ?_
      refine V_iald _ (by assumption) rfl (by omega) (by omega) dX6_copies_28 ?_
      refine V_topi (hv) ?_
      refine V_iast _ (by assumption) rfl (by omega) (by omega) dX6_copies_29 ?_
      refine V_iinc3_ _ (nI_inc _) rfl rfl dX6_copies_30 ?_
      refine V_goto 2 dX6_copies_33 (by decide) ?_
      refine ih (k + 1) _ (by omega) (by omega) (fun i hi => ?_) (fun j hj => ?_) (fun q hq => funext fun l => ?_)
      · by_cases c : i = k
        · subst c; exact upI_eq
        · rw [upI_ne (Or.inr (by omega))]; exact h1 i (by omega)
      · rw [upI_ne (Or.inr (by omega))]; exact h2 j (by omega)
      · rw [upI_ne (Or.inl hq), h3 q hq]
  refine V_iconst (nI 0) (by decide) dX6_copies_0 ?_
  refine V_ist3 rfl rfl dX6_copies_1 ?_
  exact loop 56 0 I rfl (by decide) (fun i hi => absurd hi (Nat.not_lt_zero i)) (fun _ _ => rfl) (fun _ _ => rfl)
theorem SlW.copied {J : IM} {a b : Nat} (h : SlW I a W np) (hm : (wM W).1 ≤ 12) (hp : np ≤ 5) (e : ∀ k, k < 56 → J 100 (56 * b + k) = I 100 (56 * a + k)) : SlW J b W np := by
  obtain ⟨h1, h2, h3, h4, h5⟩ := h
  refine ⟨(e 0 (by decide)).trans h1, (e 1 (by decide)).trans h2, (e 2 (by decide)).trans h3, fun i hi => ?_, fun m hm2 c hc => ?_⟩
  · rw [show 56 * b + 3 + i = 56 * b + (3 + i) by omega, e (3 + i) (by omega), ← h4 i hi]
    exact congrArg (I 100) (by omega)
  · rw [show 56 * b + 8 + 4 * m + c = 56 * b + (8 + 4 * m + c) by omega, e (8 + 4 * m + c) (by omega), ← h5 m hm2 c hc]
    exact congrArg (I 100) (by omega)
theorem SlW.same {J : IM} {s : Nat} (h : SlW I s W np) (hm : (wM W).1 ≤ 12) (hp : np ≤ 5) (e : ∀ k, k < 56 → J 100 (56 * s + k) = I 100 (56 * s + k)) : SlW J s W np := h.copied hm hp e
end MCOPY
