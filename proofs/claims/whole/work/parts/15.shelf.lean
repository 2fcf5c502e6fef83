/-! Shelf: weeks laid by -/
/-- the place of the i-th of a ring that begins at b -/
def sx (M b i : Nat) : Nat := if b + i < M then b + i else b + i - M
theorem sx_mod {M b i : Nat} (hb : b < M) (hi : i < M) : (b + i) % M = sx M b i := by
  unfold sx
  split
  · exact Nat.mod_eq_of_lt (by assumption)
  · rw [Nat.mod_eq_sub_mod (by omega), Nat.mod_eq_of_lt (by omega)]
theorem sx_lt {M b i : Nat} (hb : b < M) (hi : i < M) : sx M b i < M := by unfold sx; split <;> omega
theorem sx_inj {M b i j : Nat} (hb : b < M) (hi : i < M) (hj : j < M) (h : sx M b i = sx M b j) : i = j := by unfold sx at h; split at h <;> split at h <;> omega
abbrev SV : Type := Nat × (Nat → WV)
def ShelfK (sg : SG) (S M : Nat) : Prop := (sg.2.2.1 S).1 = 0 ∧ sg.2.2.2 S 0 = some (S + 1) ∧ sg.2.2.1 (S + 1) = (10, M) ∧ (∀ i, i < M → sg.2.2.2 (S + 1) i = some (S + 2 + 5 * i)) ∧ 0 < M ∧ M ≤ 8
def CShelf (sg : SG) (I : IM) (S M np : Nat) (v : SV) : Prop := ShelfK sg S M ∧ (∀ i, i < M → WeekSh sg I (S + 2 + 5 * i)) ∧ v.1 ≤ M ∧ I S 2 = nI v.1 ∧ ∃ b, b < M ∧ I S 1 = nI b ∧ ∀ i, i < v.1 → CWeek sg I (S + 2 + 5 * sx M b i) (v.2 i) np
def pushS (M : Nat) (v : SV) (W : WV) : SV := if v.1 < M then (v.1 + 1, fun i => if i = v.1 then W else v.2 i) else (v.1, fun i => if i + 1 = v.1 then W else v.2 (i + 1))
theorem CShelf.other {sg : SG} {I J : IM} {S M np : Nat} {v : SV} (h : CShelf sg I S M np v) (e : ∀ q, S ≤ q → q < S + 2 + 5 * M → J q = I q) : CShelf sg J S M np v := by
  obtain ⟨h1, h2, h3, h4, b, h5, h6, h7⟩ := h
  have hM := h1.2.2.2.2.1
  refine ⟨h1, fun i hi => (h2 i hi).other (fun q q1 q2 => e q (by omega) (by omega)), h3, by rw [e S (by omega) (by omega)]; exact h4, b, h5, by rw [e S (by omega) (by omega)]; exact h6, fun i hi => (h7 i hi).other (fun q q1 q2 => ?_)⟩
  have := sx_lt (M := M) h5 (i := i) (by omega)
  exact e q (by omega) (by omega)
section SHELF
variable {g : GC} {sg : SG} {I : IM} {S M np : Nat} {v : SV}
theorem C_sSize (h : CShelf sg I S M np v) : Fn m_X0_size g [rf g S] sg I (some (.int (nI v.1))) sg I := by
  obtain ⟨⟨k1, k2, k3, k4, k5, k6⟩, h2, h3, h4, b, h5, h6, h7⟩ := h
  refine Ct.of rfl (Nat.le_of_ble_eq_true rfl) fun X => ?_
  show V X _ sg I 0 [some (rf g S)] []
  refine V_aload_n rfl dX0_size_0 ?_
  refine gfe_X0_16 (by assumption) (by assumption) rfl dX0_size_1 ?_
  refine V_iret rfl rfl rfl ?_ dX0_size_4
  exact ⟨rfl, rfl, rfl⟩
theorem C_sIsFull (h : CShelf sg I S M np v) : Fn m_X0_isFull g [rf g S] sg I (some (.int (bI (M ≤ v.1)))) sg I := by
  obtain ⟨⟨k1, k2, k3, k4, k5, k6⟩, h2, h3, h4, b, h5, h6, h7⟩ := h
  refine Ct.of rfl (Nat.le_of_ble_eq_true rfl) fun X => ?_
  show V X _ sg I 0 [some (rf g S)] []
  refine V_aload_n rfl dX0_isFull_0 ?_
  refine gfe_X0_16 (by assumption) (by assumption) rfl dX0_isFull_1 ?_
  refine V_aload_n rfl dX0_isFull_4 ?_
  refine gf_X0_9 (by assumption) (by assumption) rfl dX0_isFull_5 ?_
  refine V_alen _ (by assumption) (by decide) (by decide) rfl dX0_isFull_8 ?_
  refine V_icmp_ltN 16 dX0_isFull_9 (by decide) (by omega) (by omega) (fun h9 => ?_) (fun h9 => ?_)
  · skip
    refine V_iconst (nI 0) (by decide) dX0_isFull_16 ?_
    refine V_zret rfl (rfl) rfl rfl ?_ dX0_isFull_17
    exact ⟨by first | rw [bI_t (by omega)] | rw [bI_f (by omega)], rfl, rfl⟩
  · skip
    refine V_iconst (nI 1) (by decide) dX0_isFull_12 ?_
    refine V_goto 17 dX0_isFull_13 (by decide) ?_
    refine V_zret rfl (rfl) rfl rfl ?_ dX0_isFull_17
    exact ⟨by first | rw [bI_t (by omega)] | rw [bI_f (by omega)], rfl, rfl⟩
theorem C_sClear (h : CShelf sg I S M np v) : Fn m_X0_clear g [rf g S] sg I none sg (upI I S 2 (nI 0)) := by
  obtain ⟨⟨k1, k2, k3, k4, k5, k6⟩, h2, h3, h4, b, h5, h6, h7⟩ := h
  refine Ct.of rfl (Nat.le_of_ble_eq_true rfl) fun X => ?_
  show V X _ sg I 0 [some (rf g S)] []
  refine V_aload_n rfl dX0_clear_0 ?_
  refine V_iconst (nI 0) (by decide) dX0_clear_1 ?_
  refine pf_X0_16 (by assumption) rfl dX0_clear_2 ?_
  refine V_vret rfl rfl rfl ?_ dX0_clear_5
  exact ⟨rfl, rfl, rfl⟩
theorem C_top {b n : Nat} (hK : ShelfK sg S M) (hb : b < M) (hn : 0 < n) (hnM : n ≤ M) (e1 : I S 1 = nI b) (e2 : I S 2 = nI n) : Fn m_X0_top g [rf g S] sg I (some (rf g (S + 2 + 5 * sx M b (n - 1)))) sg I := by
  obtain ⟨k1, k2, k3, k4, k5, k6⟩ := hK
  have hlt := sx_lt (M := M) hb (i := n - 1) (by omega)
  have hR := k4 _ hlt
  refine Ct.of rfl (Nat.le_of_ble_eq_true rfl) fun X => ?_
  show V X _ sg I 0 [some (rf g S), none] []
  refine V_aload_n rfl dX0_top_0 ?_
  refine gfe_X0_16 (by assumption) (by assumption) rfl dX0_top_1 ?_
  refine V_iconst (nI 1) (by decide) dX0_top_4 ?_
  refine V_icmp_ltN 17 dX0_top_5 (by decide) (by omega) (by omega) (fun h5 => absurd h5 (by omega)) (fun h5 => ?_)
  refine V_aload_n rfl dX0_top_8 ?_
  refine gf_X0_9 (by assumption) (by assumption) rfl dX0_top_9 ?_
  refine V_alen _ (by assumption) (by decide) (by decide) rfl dX0_top_12 ?_
  refine V_iconst (nI 1) (by decide) dX0_top_13 ?_
  refine V_icmp_geN 19 dX0_top_14 (by decide) (by omega) (by omega) (fun h14 => ?_) (fun h14 => absurd h14 (by omega))
  refine V_aload_n rfl dX0_top_19 ?_
  refine gfe_X0_24 (by assumption) (by assumption) rfl dX0_top_20 ?_
  refine V_aload_n rfl dX0_top_23 ?_
  refine gfe_X0_16 (by assumption) (by assumption) rfl dX0_top_24 ?_
  refine V_iaddN dX0_top_27 ?_
  refine V_iconst (nI 1) (by decide) dX0_top_28 ?_
  refine V_isubN (by omega) dX0_top_29 ?_
  refine V_aload_n rfl dX0_top_30 ?_
  refine gf_X0_9 (by assumption) (by assumption) rfl dX0_top_31 ?_
  refine V_alen _ (by assumption) (by decide) (by decide) rfl dX0_top_34 ?_
  refine V_irem (nI_nz k5 (by omega)) dX0_top_35 ?_
  rw [nI_rem (by omega) k5 (by omega), show b + n - 1 = b + (n - 1) by omega, sx_mod hb (by omega)]
  refine V_ist1 rfl rfl dX0_top_36 ?_
  refine V_iload_n rfl dX0_top_37 ?_
  refine V_if_ltN 59 dX0_top_38 (by decide) (by omega) ?_
  refine V_iload_n rfl dX0_top_41 ?_
  refine V_aload_n rfl dX0_top_42 ?_
  refine gf_X0_9 (by assumption) (by assumption) rfl dX0_top_43 ?_
  refine V_alen _ (by assumption) (by decide) (by decide) rfl dX0_top_46 ?_
  refine V_icmp_geN 59 dX0_top_47 (by decide) (by omega) (by omega) (fun h47 => absurd h47 (by omega)) (fun h47 => ?_)
  refine V_aload_n rfl dX0_top_50 ?_
  refine gf_X0_9 (by assumption) (by assumption) rfl dX0_top_51 ?_
  refine V_iload_n rfl dX0_top_54 ?_
  refine V_aald _ k3 rfl hlt (by omega) hR dX0_top_55 ?_
  refine V_goto 60 dX0_top_56 (by decide) ?_
  refine V_aret rfl rfl rfl ?_ dX0_top_60
  exact ⟨rfl, rfl, rfl⟩
/-- outside a shelf's block -/
def outS (S M : Nat) (I J : IM) : Prop := ∀ q, (q < S ∨ S + 2 + 5 * M ≤ q) → J q = I q
theorem C_push {u : Nat} {W : WV} (h : CShelf sg I S M np v) (hU : CWeek sg I u W np) (hn : (wM W).1 ≤ 12) (hp : np ≤ 5) (hd : u + 5 ≤ S ∨ S + 2 + 5 * M ≤ u) : Ct m_X0_push g [rf g S, rf g u] sg I (fun r0 s0 J => r0 = none ∧ s0 = sg ∧ CShelf sg J S M np (pushS M v W) ∧ outS S M I J) := by
  have h0 := h
  obtain ⟨hK, h2, h3, h4, b, h5, h6, h7⟩ := h
  obtain ⟨k1, k2, k3, k4, k5, k6⟩ := id hK
  refine Ct.of rfl (Nat.le_of_ble_eq_true rfl) fun X => ?_
  show V X _ sg I 0 [some (rf g S), some (rf g u), none] []
  have rest : ∀ (J : IM) (b' : Nat), b' < M → (∀ q, q ≠ S → J q = I q) → J S 1 = nI b' → J S 2 = nI (pushS M v W).1 → (∀ i, i + 1 < (pushS M v W).1 → CWeek sg I (S + 2 + 5 * sx M b' i) ((pushS M v W).2 i) np) → 0 < (pushS M v W).1 → (pushS M v W).1 ≤ M → (pushS M v W).2 ((pushS M v W).1 - 1) = W →
      V X (ZQ X (fun r0 s0 J => r0 = none ∧ s0 = sg ∧ CShelf sg J S M np (pushS M v W) ∧ outS S M I J)) sg J 55 [some (rf g S), some (rf g u), none] [] := by
    intro J b' hb' hfr j1 j2 hws hpos hle hlast
    have hlt := sx_lt (M := M) hb' (i := (pushS M v W).1 - 1) (by omega)
    have hTop : WeekSh sg J (S + 2 + 5 * sx M b' ((pushS M v W).1 - 1)) := (h2 _ hlt).other (fun q q1 q2 => hfr q (by omega))
    have hkTop := hTop.1.1
    have hUJ : CWeek sg J u W np := hU.other (fun q q1 q2 => hfr q (by omega))
    refine V_aload_n rfl dX0_push_55 ?_
    refine cf_X0_27 (C_top hK hb' hpos hle j1 j2) (by assumption) rfl rfl ft0 (Nat.le_of_ble_eq_true rfl) dX0_push_56 ?_
    refine V_ast2 rfl rfl dX0_push_59 ?_
    refine V_aload_n rfl dX0_push_60 ?_
    refine V_ifnull dX0_push_61 ?_
    refine V_aload_n rfl dX0_push_64 ?_
    refine V_aload_n (x := g.2.2.2 + u) rfl dX0_push_65 ?_
    refine cl_X0_31 (C_copyWeek hTop hUJ (by omega) hn hp) (by assumption) rfl rfl ft0 (Nat.le_of_ble_eq_true rfl) dX0_push_66 (fun rr s1 J1 hq => ?_)
    obtain ⟨rfl, rfl, q1, q2⟩ := hq
    show V X _ s1 J1 69 _ []
    refine V_vret rfl rfl rfl ?_ dX0_push_69
    refine ⟨rfl, rfl, ⟨hK, fun i hi => ?_, hle, by rw [q2 S (by omega)]; exact j2, b', hb', by rw [q2 S (by omega)]; exact j1, fun i hi => ?_⟩, fun q hq => by rw [q2 q (by omega)]; exact hfr q (by omega)⟩
    · by_cases e : i = sx M b' ((pushS M v W).1 - 1)
      · subst e; exact q1.sh
      · exact ((h2 i hi).other (fun q c1 c2 => hfr q (by omega))).other (fun q c1 c2 => q2 q (by omega))
    · by_cases e : i = (pushS M v W).1 - 1
      · subst e; rw [hlast]; exact q1
      · have hne : sx M b' i ≠ sx M b' ((pushS M v W).1 - 1) := fun z => e (sx_inj hb' (by omega) (by omega) z)
        exact ((hws i (by omega)).other (fun q c1 c2 => hfr q (by omega))).other (fun q c1 c2 => q2 q (by omega))
  by_cases hf : v.1 < M
  · have e : pushS M v W = (v.1 + 1, fun i => if i = v.1 then W else v.2 i) := if_pos hf
    rw [e] at rest ⊢
    refine V_aload_n rfl dX0_push_0 ?_
    refine cf_X0_20 (C_sIsFull h0) (by assumption) rfl rfl ft0 (Nat.le_of_ble_eq_true rfl) dX0_push_1 ?_
    refine V_if_eqB 45 dX0_push_4 (by decide) (fun h4 => ?_) (fun h4 => absurd h4 (by exact fun z => absurd z (by omega)))
    refine V_aload_n rfl dX0_push_45 ?_
    refine V_dup rfl dX0_push_46 ?_
    refine gfe_X0_16 (by assumption) (by assumption) rfl dX0_push_47 ?_
    refine V_iconst (nI 1) (by decide) dX0_push_50 ?_
    refine V_iaddN dX0_push_51 ?_
    refine pf_X0_16 (by assumption) rfl dX0_push_52 ?_
    refine rest _ b h5 (fun q hq => funext fun k => upI_ne (Or.inl hq)) (by rw [upI_ne (Or.inr (by decide))]; exact h6) upI_eq (fun i hi => ?_) (Nat.succ_pos _) hf (if_pos (Nat.add_sub_cancel v.1 1))
    have hi2 : i < v.1 := Nat.lt_of_succ_lt_succ hi
    show CWeek _ _ _ (if i = v.1 then W else v.2 i) _
    rw [if_neg (by omega)]; exact h7 i hi2
  · have hv : v.1 = M := by omega
    have e : pushS M v W = (v.1, fun i => if i + 1 = v.1 then W else v.2 (i + 1)) := if_neg hf
    rw [e] at rest ⊢
    have key : ∀ b', b' = sx M b 1 ∨ (M = 1 ∧ b' = 0) → b' < M → V X (ZQ X (fun r0 s0 J => r0 = none ∧ s0 = sg ∧ CShelf sg J S M np (v.1, fun i => if i + 1 = v.1 then W else v.2 (i + 1)) ∧ outS S M I J)) sg I 32 [some (rf g S), some (rf g u), none] [.int (nI b'), rf g S] := by
      intro b' hb1 hb2
      have e2 : (upI I S 1 (nI b')) S 2 = nI v.1 := by rw [upI_ne (Or.inr (by decide))]; exact h4
      have e3 : (upI (upI I S 1 (nI b')) S 2 (nI (v.1 - 1))) S 2 = nI (v.1 - 1) := upI_eq
      refine pf_X0_24 (by assumption) rfl dX0_push_32 ?_
      refine V_aload_n rfl dX0_push_35 ?_
      refine V_dup rfl dX0_push_36 ?_
      refine gfe_X0_16 (by assumption) (by assumption) rfl dX0_push_37 ?_
      refine V_iconst (nI 1) (by decide) dX0_push_40 ?_
      refine V_isubN (by omega) dX0_push_41 ?_
      refine pf_X0_16 (by assumption) rfl dX0_push_42 ?_
      refine V_aload_n rfl dX0_push_45 ?_
      refine V_dup rfl dX0_push_46 ?_
      refine gfe_X0_16 (by assumption) (by assumption) rfl dX0_push_47 ?_
      refine V_iconst (nI 1) (by decide) dX0_push_50 ?_
      refine V_iaddN dX0_push_51 ?_
      refine pf_X0_16 (by assumption) rfl dX0_push_52 ?_
      rw [show v.1 - 1 + 1 = v.1 by omega]
      refine rest _ b' hb2 (fun q hq => funext fun k => by rw [upI_ne (Or.inl hq), upI_ne (Or.inl hq), upI_ne (Or.inl hq)]) (by rw [upI_ne (Or.inr (by decide)), upI_ne (Or.inr (by decide))]; exact upI_eq) upI_eq (fun i hi => ?_) (by show 0 < v.1; omega) h3 (if_pos (by show v.1 - 1 + 1 = v.1; omega))
      have hi2 : i + 1 < v.1 := hi
      show CWeek _ _ _ (if i + 1 = v.1 then W else v.2 (i + 1)) _
      rw [if_neg (by omega)]
      have h9 := h7 (i + 1) (by omega)
      have e9 : sx M b' i = sx M b (i + 1) := by
        rcases hb1 with rfl | ⟨m1, rfl⟩
        · unfold sx; split <;> split <;> split <;> omega
        · omega
      rw [e9]; exact h9
    by_cases hb1 : b + 1 < M
    · skip
      refine V_aload_n rfl dX0_push_0 ?_
      refine cf_X0_20 (C_sIsFull h0) (by assumption) rfl rfl ft0 (Nat.le_of_ble_eq_true rfl) dX0_push_1 ?_
      refine V_if_eqB 45 dX0_push_4 (by decide) (fun h4 => absurd h4 (by exact fun z => z (by omega))) (fun h4 => ?_)
      refine V_aload_n rfl dX0_push_7 ?_
      refine V_aload_n rfl dX0_push_8 ?_
      refine gfe_X0_24 (by assumption) (by assumption) rfl dX0_push_9 ?_
      refine V_iconst (nI 1) (by decide) dX0_push_12 ?_
      refine V_iaddN dX0_push_13 ?_
      refine V_aload_n rfl dX0_push_14 ?_
      refine gf_X0_9 (by assumption) (by assumption) rfl dX0_push_15 ?_
      refine V_alen _ (by assumption) (by decide) (by decide) rfl dX0_push_18 ?_
      refine V_icmp_geN 31 dX0_push_19 (by decide) (by omega) (by omega) (fun h19 => absurd h19 (by omega)) (fun h19 => ?_)
      refine V_aload_n rfl dX0_push_22 ?_
      refine gfe_X0_24 (by assumption) (by assumption) rfl dX0_push_23 ?_
      refine V_iconst (nI 1) (by decide) dX0_push_26 ?_
      refine V_iaddN dX0_push_27 ?_
      refine V_goto 32 dX0_push_28 (by decide) ?_
      exact key (b + 1) (Or.inl (by unfold sx; rw [if_pos hb1])) hb1
    · skip
      refine V_aload_n rfl dX0_push_0 ?_
      refine cf_X0_20 (C_sIsFull h0) (by assumption) rfl rfl ft0 (Nat.le_of_ble_eq_true rfl) dX0_push_1 ?_
      refine V_if_eqB 45 dX0_push_4 (by decide) (fun h4 => absurd h4 (by exact fun z => z (by omega))) (fun h4 => ?_)
      refine V_aload_n rfl dX0_push_7 ?_
      refine V_aload_n rfl dX0_push_8 ?_
      refine gfe_X0_24 (by assumption) (by assumption) rfl dX0_push_9 ?_
      refine V_iconst (nI 1) (by decide) dX0_push_12 ?_
      refine V_iaddN dX0_push_13 ?_
      refine V_aload_n rfl dX0_push_14 ?_
      refine gf_X0_9 (by assumption) (by assumption) rfl dX0_push_15 ?_
      refine V_alen _ (by assumption) (by decide) (by decide) rfl dX0_push_18 ?_
      refine V_icmp_geN 31 dX0_push_19 (by decide) (by omega) (by omega) (fun h19 => ?_) (fun h19 => absurd h19 (by omega))
      refine V_iconst (nI 0) (by decide) dX0_push_31 ?_
      exact key 0 (by by_cases hM1 : M = 1; exact Or.inr ⟨hM1, rfl⟩; exact Or.inl (by unfold sx; rw [if_neg hb1]; omega)) k5
theorem C_pop {u : Nat} (h : CShelf sg I S M np v) (hpos : 0 < v.1) (hU : WeekSh sg I u) (hn : (wM (v.2 (v.1 - 1))).1 ≤ 12) (hp : np ≤ 5) (hd : u + 5 ≤ S ∨ S + 2 + 5 * M ≤ u) : Ct m_X0_pop g [rf g S, rf g u] sg I (fun r0 s0 J => r0 = none ∧ s0 = sg ∧ CShelf sg J S M np (v.1 - 1, v.2) ∧ CWeek sg J u (v.2 (v.1 - 1)) np ∧ ∀ q, q ≠ S → (q < u ∨ u + 5 ≤ q) → J q = I q) := by
  have h0 := h
  obtain ⟨hK, h2, h3, h4, b, h5, h6, h7⟩ := h
  obtain ⟨k1, k2, k3, k4, k5, k6⟩ := id hK
  have hlt := sx_lt (M := M) h5 (i := v.1 - 1) (by omega)
  have hW := h7 (v.1 - 1) (by omega)
  have hkU := hU.1.1
  refine Ct.of rfl (Nat.le_of_ble_eq_true rfl) fun X => ?_
  show V X _ sg I 0 [some (rf g S), some (rf g u), none] []
  refine V_aload_n rfl dX0_pop_0 ?_
  refine cf_X0_27 (C_top hK h5 hpos h3 h6 h4) (by assumption) rfl rfl ft0 (Nat.le_of_ble_eq_true rfl) dX0_pop_1 ?_
  refine V_ast2 rfl rfl dX0_pop_4 ?_
  refine V_aload_n rfl dX0_pop_5 ?_
  refine V_ifnull dX0_pop_6 ?_
  refine V_aload_n (x := g.2.2.2 + u) rfl dX0_pop_9 ?_
  refine V_aload_n rfl dX0_pop_10 ?_
  refine cl_X0_31 (C_copyWeek hU hW (by omega) hn hp) (by assumption) rfl rfl ft0 (Nat.le_of_ble_eq_true rfl) dX0_pop_11 (fun rr s1 J1 hq => ?_)
  obtain ⟨rfl, rfl, q1, q2⟩ := hq
  show V X _ s1 J1 14 _ []
  have j4 : J1 S 2 = nI v.1 := by rw [q2 S (by omega)]; exact h4
  refine V_aload_n rfl dX0_pop_14 ?_
  refine V_dup rfl dX0_pop_15 ?_
  refine gfe_X0_16 (by assumption) (by assumption) rfl dX0_pop_16 ?_
  refine V_iconst (nI 1) (by decide) dX0_pop_19 ?_
  refine V_isubN (by omega) dX0_pop_20 ?_
  refine pf_X0_16 (by assumption) rfl dX0_pop_21 ?_
  refine V_vret rfl rfl rfl ?_ dX0_pop_24
  have hfr : ∀ q, q ≠ S → (upI J1 S 2 (nI (v.1 - 1))) q = J1 q := fun q c => funext fun k => upI_ne (Or.inl c)
  refine ⟨rfl, rfl, ⟨hK, fun i hi => ((h2 i hi).other (fun q c1 c2 => q2 q (by omega))).other (fun q c1 c2 => hfr q (by omega)), by show v.1 - 1 ≤ M; omega, upI_eq, b, h5, by rw [upI_ne (Or.inr (by decide)), q2 S (by omega)]; exact h6, fun i hi => ?_⟩, q1.other (fun q c1 c2 => hfr q (by omega)), fun q c1 c2 => by rw [hfr q c1]; exact q2 q c2⟩
  have hi2 : i < v.1 - 1 := hi
  have hl2 := sx_lt (M := M) h5 (i := i) (by omega)
  exact ((h7 i (by omega)).other (fun q c1 c2 => q2 q (by omega))).other (fun q c1 c2 => hfr q (by omega))
end SHELF
