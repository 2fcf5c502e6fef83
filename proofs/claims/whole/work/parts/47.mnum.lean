/-! CarvedWeeksModel: the text, numbers -/
/-- what reading the text may change -/
def fF (I J : IM) : Prop := (∀ q, (q < 92 ∨ q = 93 ∨ q = 99 ∨ q = 100 ∨ 102 ≤ q) → J q = I q) ∧ (∀ k, k ≠ 2 → J 92 k = I 92 k) ∧ (∀ k, k < 7 → J 94 k = I 94 k) ∧ (∀ k, k < 20 → J 95 k = I 95 k) ∧ (∀ k, k < 10 → J 96 k = I 96 k) ∧ (∀ k, k < 15 → J 97 k = I 97 k) ∧ ∀ k, k < 18 → J 98 k = I 98 k
theorem fF.refl {I : IM} : fF I I := ⟨fun _ _ => rfl, fun _ _ => rfl, fun _ _ => rfl, fun _ _ => rfl, fun _ _ => rfl, fun _ _ => rfl, fun _ _ => rfl⟩
theorem fF.trans {I J H : IM} (a : fF I J) (b : fF J H) : fF I H := ⟨fun q h => (b.1 q h).trans (a.1 q h), fun q h => (b.2.1 q h).trans (a.2.1 q h), fun q h => (b.2.2.1 q h).trans (a.2.2.1 q h), fun q h => (b.2.2.2.1 q h).trans (a.2.2.2.1 q h), fun q h => (b.2.2.2.2.1 q h).trans (a.2.2.2.2.1 q h), fun q h => (b.2.2.2.2.2.1 q h).trans (a.2.2.2.2.2.1 q h), fun q h => (b.2.2.2.2.2.2 q h).trans (a.2.2.2.2.2.2 q h)⟩
theorem fF.up {I : IM} {q j : Nat} {v : Int32} (h : (q = 92 ∧ j = 2) ∨ (q = 94 ∧ 7 ≤ j) ∨ (q = 95 ∧ 20 ≤ j) ∨ (q = 96 ∧ 10 ≤ j) ∨ (q = 97 ∧ 15 ≤ j) ∨ (q = 98 ∧ 18 ≤ j) ∨ q = 101) : fF I (upI I q j v) :=
  ⟨fun o ho => funext fun k => upI_ne (by omega), fun k hk => upI_ne (by omega), fun k hk => upI_ne (by omega), fun k hk => upI_ne (by omega), fun k hk => upI_ne (by omega), fun k hk => upI_ne (by omega), fun k hk => upI_ne (by omega)⟩
/-- only the place of reading -/
def atF (I J : IM) : Prop := (∀ q, q ≠ 92 → J q = I q) ∧ ∀ k, k ≠ 2 → J 92 k = I 92 k
theorem atF.up {I J : IM} {v : Int32} (h : atF I J) : atF I (upI J 92 2 v) := ⟨fun q hq => (funext fun k => upI_ne (Or.inl hq)).trans (h.1 q hq), fun k hk => (upI_ne (Or.inr hk)).trans (h.2 k hk)⟩
theorem atF.f {I J : IM} (h : atF I J) : fF I J := ⟨fun q hq => h.1 q (by omega), h.2, fun k _ => by rw [h.1 94 (by decide)], fun k _ => by rw [h.1 95 (by decide)], fun k _ => by rw [h.1 96 (by decide)], fun k _ => by rw [h.1 97 (by decide)], fun k _ => by rw [h.1 98 (by decide)]⟩
theorem chr_in {x : XV} {p : Nat} (h : p < x.1) : chr x p = x.2 p := if_pos h
theorem chr_out {x : XV} {p : Nat} (h : ¬ p < x.1) : chr x p = 0 := if_neg h
theorem dg_in {x : XV} {p : Nat} (h : dgB x p = true) : p < x.1 := by
  rcases Nat.lt_or_ge p x.1 with z | z
  · exact z
  · have := nv_t h
    rw [chr_out (by omega)] at this; omega
section MNUM
variable {g : GC} {sg : SG} {I : IM} {x : XV} {tv : TV} {W : WV} {P K : SV} {np : Nat}
def nmQ (sg : SG) (I : IM) (x : XV) (p : Nat) : Option Value → SG → IM → Prop := fun r0 s0 J => s0 = sg ∧ atF I J ∧ ((∃ v, nvP x p = some v ∧ v ≤ 99 ∧ dgB x (nqP x p) = false ∧ r0 = some (.int (nI v)) ∧ J 92 2 = nI (nqP x p)) ∨ ((nvP x p = none ∨ dgB x (nqP x p) = true) ∧ r0 = some (.int (-1))))
theorem D_number {p : Nat} (hK : MK sg) (hl : I 92 0 = nI x.1) (ht : ∀ i, i < x.1 → I 93 i = nI (x.2 i)) (hx : XVok x) (hp : I 92 2 = nI p) (hpl : p ≤ 210) : Ct m_X6_number g [rf g 92] sg I (nmQ sg I x p) := by
  obtain ⟨m0, mR1, mR3, mR4, mR5, mR6, mR7, mR8, mR10, mR16, mR17, mA93, mA94, mA95, mA96, mA97, mA98, mA99, mA100, mA101, mA102⟩ := hK
  have hx2 := hx.1
  refine Ct.of rfl (Nat.le_of_ble_eq_true rfl) fun X => ?_
  show V X _ sg I 0 [some (rf g 92), none, none] []
  have stepN : ∀ (J : IM) (p1 : Nat) (v f : Int32), p1 ≤ 220 → atF I J → J 92 2 = nI p1 → dgB x p1 = false → V X (ZQ X (nmQ sg I x p)) sg J 80 [some (rf g 92), some (.int v), some (.int f)] [] → V X (ZQ X (nmQ sg I x p)) sg J 4 [some (rf g 92), some (.int v), some (.int f)] [] := by
    intro J p1 v f hp1 hf hj hd hk
    have hlen : J 92 0 = nI x.1 := (hf.2 0 (by decide)).trans hl
    by_cases c : p1 < x.1
    · have hd2 := nv_f hd
      rw [chr_in c] at hd2
      have hcl := hx.2 p1 c
      have hch : J 93 p1 = nI (x.2 p1) := by rw [hf.1 93 (by decide)]; exact ht p1 c
      have hneg : ¬ (nI 48 ≤ nI (x.2 p1) ∧ nI (x.2 p1) ≤ nI 57) := fun z => by
        have h1 := (nI_leI (by decide) (by omega)).mp z.1
        have h2 := (nI_leI (by omega) (by decide)).mp z.2
        omega
      refine V_aload_n rfl dX6_number_4 ?_
      refine gfe_X6_60 (by assumption) (by assumption) rfl dX6_number_5 ?_
      refine V_aload_n rfl dX6_number_8 ?_
      refine gfe_X6_56 (by assumption) (by assumption) rfl dX6_number_9 ?_
      refine V_icmp_geN 80 dX6_number_12 (by decide) (by omega) (by omega) (fun h12 => absurd h12 (by omega)) (fun h12 => ?_)
      refine V_aload_n rfl dX6_number_15 ?_
      refine gf_X6_7 (by assumption) (by assumption) rfl dX6_number_16 ?_
      refine V_aload_n rfl dX6_number_19 ?_
      refine gfe_X6_60 (by assumption) (by assumption) rfl dX6_number_20 ?_
      refine V_bald _ (by assumption) rfl (by omega) (by omega) dX6_number_23 ?_
      refine V_topi (hch) ?_
      refine V_i2l dX6_number_24 ?_
      refine V_ldc2 RX6 _ rfl wk_X6_63 dX6_number_25 ?_
      refine V_ldc2 RX6 _ rfl wk_X6_65 dX6_number_28 ?_
      rw [show (48 : Int64) = lN 48 from by decide, show (57 : Int64) = lN 57 from by decide]
      refine cf_X6_52 (C_inNN (by decide) (by decide)) rfl rfl ft0 (Nat.le_of_ble_eq_true rfl) dX6_number_31 ?_
      refine V_if_eqB 80 dX6_number_34 (by decide) (fun h34 => ?_) (fun h34 => absurd h34 (by exact hneg))
      exact hk
    · skip
      refine V_aload_n rfl dX6_number_4 ?_
      refine gfe_X6_60 (by assumption) (by assumption) rfl dX6_number_5 ?_
      refine V_aload_n rfl dX6_number_8 ?_
      refine gfe_X6_56 (by assumption) (by assumption) rfl dX6_number_9 ?_
      refine V_icmp_geN 80 dX6_number_12 (by decide) (by omega) (by omega) (fun h12 => ?_) (fun h12 => absurd h12 (by omega))
      exact hk
  have stepY : ∀ (J : IM) (p1 v f : Nat), p1 ≤ 220 → f ≤ 1000 → atF I J → J 92 2 = nI p1 → dgB x p1 = true → V X (ZQ X (nmQ sg I x p)) sg (upI J 92 2 (nI (p1 + 1))) 4 [some (rf g 92), some (.int (nI (if f < 2 then 10 * v + (chr x p1 - 48) else v))), some (.int (nI (f + 1)))] [] → V X (ZQ X (nmQ sg I x p)) sg J 4 [some (rf g 92), some (.int (nI v)), some (.int (nI f))] [] := by
    intro J p1 v f hp1 hff hf hj hd hk
    have hlen : J 92 0 = nI x.1 := (hf.2 0 (by decide)).trans hl
    have c := dg_in hd
    have hd2 := nv_t hd
    rw [chr_in c] at hd2 hk
    have hch : J 93 p1 = nI (x.2 p1) := by rw [hf.1 93 (by decide)]; exact ht p1 c
    have hpos : nI 48 ≤ nI (x.2 p1) ∧ nI (x.2 p1) ≤ nI 57 := ⟨(nI_leI (by decide) (by omega)).mpr hd2.1, (nI_leI (by omega) (by decide)).mpr hd2.2⟩
    by_cases hf2 : f < 2
    · rw [if_pos hf2, show 10 * v + (x.2 p1 - 48) = 10 * v + x.2 p1 - 48 by omega] at hk
      refine V_aload_n rfl dX6_number_4 ?_
      refine gfe_X6_60 (by assumption) (by assumption) rfl dX6_number_5 ?_
      refine V_aload_n rfl dX6_number_8 ?_
      refine gfe_X6_56 (by assumption) (by assumption) rfl dX6_number_9 ?_
      refine V_icmp_geN 80 dX6_number_12 (by decide) (by omega) (by omega) (fun h12 => absurd h12 (by omega)) (fun h12 => ?_)
      refine V_aload_n rfl dX6_number_15 ?_
      refine gf_X6_7 (by assumption) (by assumption) rfl dX6_number_16 ?_
      refine V_aload_n rfl dX6_number_19 ?_
      refine gfe_X6_60 (by assumption) (by assumption) rfl dX6_number_20 ?_
      refine V_bald _ (by assumption) rfl (by omega) (by omega) dX6_number_23 ?_
      refine V_topi (hch) ?_
      refine V_i2l dX6_number_24 ?_
      refine V_ldc2 RX6 _ rfl wk_X6_63 dX6_number_25 ?_
      refine V_ldc2 RX6 _ rfl wk_X6_65 dX6_number_28 ?_
      rw [show (48 : Int64) = lN 48 from by decide, show (57 : Int64) = lN 57 from by decide]
      refine cf_X6_52 (C_inNN (by decide) (by decide)) rfl rfl ft0 (Nat.le_of_ble_eq_true rfl) dX6_number_31 ?_
      refine V_if_eqB 80 dX6_number_34 (by decide) (fun h34 => absurd h34 (by exact fun z => z hpos)) (fun h34 => ?_)
      refine V_iload_n rfl dX6_number_37 ?_
      refine V_iconst (nI 2) (by decide) dX6_number_38 ?_
      refine V_icmp_geN 62 dX6_number_39 (by decide) (by omega) (by omega) (fun h39 => absurd h39 (by omega)) (fun h39 => ?_)
      refine V_bipush (nI 10) (by decide) dX6_number_42 ?_
      refine V_iload_n rfl dX6_number_44 ?_
      refine V_imulN dX6_number_45 ?_
      refine V_aload_n rfl dX6_number_46 ?_
      refine gf_X6_7 (by assumption) (by assumption) rfl dX6_number_47 ?_
      refine V_aload_n rfl dX6_number_50 ?_
      refine gfe_X6_60 (by assumption) (by assumption) rfl dX6_number_51 ?_
      refine V_bald _ (by assumption) rfl (by omega) (by omega) dX6_number_54 ?_
      refine V_topi (hch) ?_
      refine V_iaddN dX6_number_55 ?_
      refine V_bipush (nI 48) (by decide) dX6_number_56 ?_
      refine V_isubN (by omega) dX6_number_58 ?_
      refine V_goto 63 dX6_number_59 (by decide) ?_
      refine V_ist1 rfl rfl dX6_number_63 ?_
      refine V_iinc2_ _ (nI_inc _) rfl rfl dX6_number_64 ?_
      refine V_aload_n rfl dX6_number_67 ?_
      refine V_dup rfl dX6_number_68 ?_
      refine gfe_X6_60 (by assumption) (by assumption) rfl dX6_number_69 ?_
      refine V_iconst (nI 1) (by decide) dX6_number_72 ?_
      refine V_iaddN dX6_number_73 ?_
      refine pf_X6_60 (by assumption) rfl dX6_number_74 ?_
      refine V_goto 4 dX6_number_77 (by decide) ?_
      exact hk
    · rw [if_neg hf2] at hk
      refine V_aload_n rfl dX6_number_4 ?_
      refine gfe_X6_60 (by assumption) (by assumption) rfl dX6_number_5 ?_
      refine V_aload_n rfl dX6_number_8 ?_
      refine gfe_X6_56 (by assumption) (by assumption) rfl dX6_number_9 ?_
      refine V_icmp_geN 80 dX6_number_12 (by decide) (by omega) (by omega) (fun h12 => absurd h12 (by omega)) (fun h12 => ?_)
      refine V_aload_n rfl dX6_number_15 ?_
      refine gf_X6_7 (by assumption) (by assumption) rfl dX6_number_16 ?_
      refine V_aload_n rfl dX6_number_19 ?_
      refine gfe_X6_60 (by assumption) (by assumption) rfl dX6_number_20 ?_
      refine V_bald _ (by assumption) rfl (by omega) (by omega) dX6_number_23 ?_
      refine V_topi (hch) ?_
      refine V_i2l dX6_number_24 ?_
      refine V_ldc2 RX6 _ rfl wk_X6_63 dX6_number_25 ?_
      refine V_ldc2 RX6 _ rfl wk_X6_65 dX6_number_28 ?_
      rw [show (48 : Int64) = lN 48 from by decide, show (57 : Int64) = lN 57 from by decide]
      refine cf_X6_52 (C_inNN (by decide) (by decide)) rfl rfl ft0 (Nat.le_of_ble_eq_true rfl) dX6_number_31 ?_
      refine V_if_eqB 80 dX6_number_34 (by decide) (fun h34 => absurd h34 (by exact fun z => z hpos)) (fun h34 => ?_)
      refine V_iload_n rfl dX6_number_37 ?_
      refine V_iconst (nI 2) (by decide) dX6_number_38 ?_
      refine V_icmp_geN 62 dX6_number_39 (by decide) (by omega) (by omega) (fun h39 => ?_) (fun h39 => absurd h39 (by omega))
      refine V_iload_n rfl dX6_number_62 ?_
      refine V_ist1 rfl rfl dX6_number_63 ?_
      refine V_iinc2_ _ (nI_inc _) rfl rfl dX6_number_64 ?_
      refine V_aload_n rfl dX6_number_67 ?_
      refine V_dup rfl dX6_number_68 ?_
      refine gfe_X6_60 (by assumption) (by assumption) rfl dX6_number_69 ?_
      refine V_iconst (nI 1) (by decide) dX6_number_72 ?_
      refine V_iaddN dX6_number_73 ?_
      refine pf_X6_60 (by assumption) rfl dX6_number_74 ?_
      refine V_goto 4 dX6_number_77 (by decide) ?_
      exact hk
  have xBad : ∀ (J : IM) (v : Int32) (f : Nat), f ≤ 2000 → (f = 0 ∨ 3 ≤ f) → atF I J → (nvP x p = none ∨ dgB x (nqP x p) = true) → V X (ZQ X (nmQ sg I x p)) sg J 80 [some (rf g 92), some (.int v), some (.int (nI f))] [] := by
    intro J v f hf1 hf2 hf hb
    have hneg : ¬ (nI 1 ≤ nI f ∧ nI f ≤ nI 2) := fun z => by
      have h1 := (nI_leI (by decide) (by omega)).mp z.1
      have h2 := (nI_leI (by omega) (by decide)).mp z.2
      omega
    refine V_iload_n rfl dX6_number_80 ?_
    refine V_i2l dX6_number_81 ?_
    refine V_lconst (lN 1) rfl dX6_number_82 ?_
    refine V_ldc2 RX6 _ rfl wk_X6_67 dX6_number_83 ?_
    rw [show (2 : Int64) = lN 2 from by decide]
    refine cf_X6_52 (C_inNN (by decide) (by decide)) rfl rfl ft0 (Nat.le_of_ble_eq_true rfl) dX6_number_86 ?_
    refine V_if_eqB 96 dX6_number_89 (by decide) (fun h89 => ?_) (fun h89 => absurd h89 (by exact hneg))
    refine V_iconst (-1) (by decide) dX6_number_96 ?_
    refine V_iret rfl rfl rfl ?_ dX6_number_97
    exact ⟨rfl, hf, Or.inr ⟨hb, rfl⟩⟩
  have xGood : ∀ (J : IM) (v f : Nat), (f = 1 ∨ f = 2) → atF I J → nvP x p = some v → v ≤ 99 → dgB x (nqP x p) = false → J 92 2 = nI (nqP x p) → V X (ZQ X (nmQ sg I x p)) sg J 80 [some (rf g 92), some (.int (nI v)), some (.int (nI f))] [] := by
    intro J v f hf1 hf hv hv9 hd hj
    have hpos : nI 1 ≤ nI f ∧ nI f ≤ nI 2 := by rcases hf1 with rfl | rfl <;> decide
    refine V_iload_n rfl dX6_number_80 ?_
    refine V_i2l dX6_number_81 ?_
    refine V_lconst (lN 1) rfl dX6_number_82 ?_
    refine V_ldc2 RX6 _ rfl wk_X6_67 dX6_number_83 ?_
    rw [show (2 : Int64) = lN 2 from by decide]
    refine cf_X6_52 (C_inNN (by decide) (by decide)) rfl rfl ft0 (Nat.le_of_ble_eq_true rfl) dX6_number_86 ?_
    refine V_if_eqB 96 dX6_number_89 (by decide) (fun h89 => absurd h89 (by exact fun z => z hpos)) (fun h89 => ?_)
    refine V_iload_n rfl dX6_number_92 ?_
    refine V_goto 97 dX6_number_93 (by decide) ?_
    refine V_iret rfl rfl rfl ?_ dX6_number_97
    exact ⟨rfl, hf, Or.inl ⟨v, hv, hv9, hd, rfl, hj⟩⟩
  have many : ∀ (d : Nat) (J : IM) (p1 v f : Nat), x.1 - p1 ≤ d → p1 ≤ 220 → 3 ≤ f → f + d ≤ 900 → atF I J → J 92 2 = nI p1 → (nvP x p = none ∨ dgB x (nqP x p) = true) → V X (ZQ X (nmQ sg I x p)) sg J 4 [some (rf g 92), some (.int (nI v)), some (.int (nI f))] [] := by
    intro d
    induction d with
    | zero =>
      intro J p1 v f hd hp1 hf3 hfd hf hj hb
      have hdg : dgB x p1 = false := by
        cases h : dgB x p1 with
        | false => rfl
        | true => have := dg_in h; omega
      exact stepN J p1 _ _ hp1 hf hj hdg (xBad J _ f (by omega) (Or.inr hf3) hf hb)
    | succ d ih =>
      intro J p1 v f hd hp1 hf3 hfd hf hj hb
      cases h : dgB x p1 with
      | false => exact stepN J p1 _ _ hp1 hf hj h (xBad J _ f (by omega) (Or.inr hf3) hf hb)
      | true =>
        have := dg_in h
        exact stepY J p1 v f hp1 (by omega) hf hj h (ih _ (p1 + 1) _ (f + 1) (by omega) (by omega) (by omega) (by omega) hf.up upI_eq hb)
  have hI : atF I I := ⟨fun _ _ => rfl, fun _ _ => rfl⟩
  have hfin : V X (ZQ X (nmQ sg I x p)) sg I 4 [some (rf g 92), some (.int (nI 0)), some (.int (nI 0))] [] := by
    cases hd : dgB x p with
    | false => exact stepN I p _ _ (by omega) hI hp hd (xBad I _ 0 (by decide) (Or.inl rfl) hI (Or.inl (nvq0 hd).1))
    | true =>
      have hd2 := nv_t hd
      refine stepY I p 0 0 (by omega) (by decide) hI hp hd ?_
      rw [if_pos (by decide), show 10 * 0 + (chr x p - 48) = chr x p - 48 by omega]
      cases he : dgB x (p + 1) with
      | false => exact stepN _ (p + 1) _ _ (by omega) hI.up upI_eq he (xGood _ _ 1 (Or.inl rfl) hI.up (nvq1 hd he).1 (by omega) (by rw [(nvq1 hd he).2]; exact he) (by rw [(nvq1 hd he).2]; exact upI_eq))
      | true =>
        have he2 := nv_t he
        refine stepY _ (p + 1) _ 1 (by omega) (by decide) hI.up upI_eq he ?_
        rw [if_pos (by decide)]
        cases hg : dgB x (p + 2) with
        | false => exact stepN _ (p + 2) _ _ (by omega) hI.up.up upI_eq hg (xGood _ _ 2 (Or.inr rfl) hI.up.up (nvq2 hd he).1 (by omega) (by rw [(nvq2 hd he).2]; exact hg) (by rw [(nvq2 hd he).2]; exact upI_eq))
        | true =>
          refine stepY _ (p + 2) _ 2 (by omega) (by decide) hI.up.up upI_eq hg ?_
          exact many 210 _ (p + 3) _ 3 (by omega) (by omega) (by decide) (by decide) hI.up.up.up upI_eq (Or.inr (by rw [(nvq2 hd he).2]; exact hg))
  refine V_iconst (nI 0) (by decide) dX6_number_0 ?_
  refine V_ist1 rfl rfl dX6_number_1 ?_
  refine V_iconst (nI 0) (by decide) dX6_number_2 ?_
  refine V_ist2 rfl rfl dX6_number_3 ?_
  exact hfin
theorem D_numbers {l : Nat} (hl : l < 200) : Fn m_X6_numbers g [.int (nI l)] sg I (some (.int (nI (wN l)))) sg I := by
  refine Ct.of rfl (Nat.le_of_ble_eq_true rfl) fun X => ?_
  show V X _ sg I 0 [some (.int (nI l))] []
  have w1 : (l = 102 ∨ l = 100) → wN l = 1 := fun h => if_pos h
  have w2 : (l = 105 ∨ l = 112) → wN l = 2 := fun h => by unfold wN; rw [if_neg (by omega), if_pos h]
  have w3 : (l = 115 ∨ l = 98) → wN l = 3 := fun h => by unfold wN; rw [if_neg (by omega), if_neg (by omega), if_pos h]
  have w0 : ¬ (l = 102 ∨ l = 100) → ¬ (l = 105 ∨ l = 112) → ¬ (l = 115 ∨ l = 98) → wN l = 0 := fun h1 h2 h3 => by unfold wN; rw [if_neg h1, if_neg h2, if_neg h3]
  refine V_iload_n rfl dX6_numbers_0 ?_
  refine V_bipush (nI 115) (by decide) dX6_numbers_1 ?_
  refine V_icmp_eqN 12 dX6_numbers_3 (by decide) (by omega) (by omega) (fun h3 => ?_) (fun h3 => ?_)
  · skip
    refine V_iconst (nI 3) (by decide) dX6_numbers_12 ?_
    refine V_goto 49 dX6_numbers_13 (by decide) ?_
    refine V_iret rfl rfl rfl ?_ dX6_numbers_49
    exact ⟨by first | rw [w3 (by omega)] | rw [w2 (by omega)] | rw [w1 (by omega)] | rw [w0 (by omega) (by omega) (by omega)], rfl, rfl⟩
  · skip
    refine V_iload_n rfl dX6_numbers_6 ?_
    refine V_bipush (nI 98) (by decide) dX6_numbers_7 ?_
    refine V_icmp_neN 16 dX6_numbers_9 (by decide) (by omega) (by omega) (fun h9 => ?_) (fun h9 => ?_)
    · skip
      refine V_iload_n rfl dX6_numbers_16 ?_
      refine V_bipush (nI 105) (by decide) dX6_numbers_17 ?_
      refine V_icmp_eqN 28 dX6_numbers_19 (by decide) (by omega) (by omega) (fun h19 => ?_) (fun h19 => ?_)
      · skip
        refine V_iconst (nI 2) (by decide) dX6_numbers_28 ?_
        refine V_goto 49 dX6_numbers_29 (by decide) ?_
        refine V_iret rfl rfl rfl ?_ dX6_numbers_49
        exact ⟨by first | rw [w3 (by omega)] | rw [w2 (by omega)] | rw [w1 (by omega)] | rw [w0 (by omega) (by omega) (by omega)], rfl, rfl⟩
      · skip
        refine V_iload_n rfl dX6_numbers_22 ?_
        refine V_bipush (nI 112) (by decide) dX6_numbers_23 ?_
        refine V_icmp_neN 32 dX6_numbers_25 (by decide) (by omega) (by omega) (fun h25 => ?_) (fun h25 => ?_)
        · skip
          refine V_iload_n rfl dX6_numbers_32 ?_
          refine V_bipush (nI 102) (by decide) dX6_numbers_33 ?_
          refine V_icmp_eqN 44 dX6_numbers_35 (by decide) (by omega) (by omega) (fun h35 => ?_) (fun h35 => ?_)
          · skip
            refine V_iconst (nI 1) (by decide) dX6_numbers_44 ?_
            refine V_goto 49 dX6_numbers_45 (by decide) ?_
            refine V_iret rfl rfl rfl ?_ dX6_numbers_49
            exact ⟨by first | rw [w3 (by omega)] | rw [w2 (by omega)] | rw [w1 (by omega)] | rw [w0 (by omega) (by omega) (by omega)], rfl, rfl⟩
          · skip
            refine V_iload_n rfl dX6_numbers_38 ?_
            refine V_bipush (nI 100) (by decide) dX6_numbers_39 ?_
            refine V_icmp_neN 48 dX6_numbers_41 (by decide) (by omega) (by omega) (fun h41 => ?_) (fun h41 => ?_)
            · skip
              refine V_iconst (nI 0) (by decide) dX6_numbers_48 ?_
              refine V_iret rfl rfl rfl ?_ dX6_numbers_49
              exact ⟨by first | rw [w3 (by omega)] | rw [w2 (by omega)] | rw [w1 (by omega)] | rw [w0 (by omega) (by omega) (by omega)], rfl, rfl⟩
            · skip
              refine V_iconst (nI 1) (by decide) dX6_numbers_44 ?_
              refine V_goto 49 dX6_numbers_45 (by decide) ?_
              refine V_iret rfl rfl rfl ?_ dX6_numbers_49
              exact ⟨by first | rw [w3 (by omega)] | rw [w2 (by omega)] | rw [w1 (by omega)] | rw [w0 (by omega) (by omega) (by omega)], rfl, rfl⟩
        · skip
          refine V_iconst (nI 2) (by decide) dX6_numbers_28 ?_
          refine V_goto 49 dX6_numbers_29 (by decide) ?_
          refine V_iret rfl rfl rfl ?_ dX6_numbers_49
          exact ⟨by first | rw [w3 (by omega)] | rw [w2 (by omega)] | rw [w1 (by omega)] | rw [w0 (by omega) (by omega) (by omega)], rfl, rfl⟩
    · skip
      refine V_iconst (nI 3) (by decide) dX6_numbers_12 ?_
      refine V_goto 49 dX6_numbers_13 (by decide) ?_
      refine V_iret rfl rfl rfl ?_ dX6_numbers_49
      exact ⟨by first | rw [w3 (by omega)] | rw [w2 (by omega)] | rw [w1 (by omega)] | rw [w0 (by omega) (by omega) (by omega)], rfl, rfl⟩
end MNUM
