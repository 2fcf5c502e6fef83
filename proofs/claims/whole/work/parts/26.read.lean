/-! Text: numbers, items, the whole text -/
theorem nv_t {x : XV} {p : Nat} (h : dgB x p = true) : 48 ≤ chr x p ∧ chr x p ≤ 57 := by
  unfold dgB at h
  simp only [Bool.and_eq_true, decide_eq_true_eq] at h
  exact h
theorem nv_f {x : XV} {p : Nat} (h : dgB x p = false) : chr x p < 48 ∨ 57 < chr x p := by
  unfold dgB at h
  simp only [Bool.and_eq_false_iff, decide_eq_false_iff_not] at h
  omega
theorem getD_app {l : List Nat} {v i : Nat} : (l ++ [v]).getD i 0 = if i < l.length then l.getD i 0 else if i = l.length then v else 0 := by
  rw [List.getD_eq_getElem?_getD, List.getD_eq_getElem?_getD, List.getElem?_append]
  by_cases h : i < l.length
  · rw [if_pos h, if_pos h]
  · rw [if_neg h, if_neg h]
    by_cases h2 : i = l.length
    · rw [if_pos h2, h2, Nat.sub_self]; rfl
    · rw [if_neg h2]
      obtain ⟨d, hd⟩ : ∃ d, i - l.length = d + 1 := ⟨i - l.length - 1, by omega⟩
      rw [hd]; rfl
theorem getD_out {l : List Nat} {i : Nat} (h : l.length ≤ i) : l.getD i 0 = 0 := by
  rw [List.getD_eq_getElem?_getD, List.getElem?_eq_none h]; rfl
theorem nvq0 {x : XV} {p : Nat} (h : dgB x p = false) : nvP x p = none ∧ nqP x p = p := by unfold nvP nqP; rw [h]; exact ⟨rfl, rfl⟩
theorem nvq1 {x : XV} {p : Nat} (h : dgB x p = true) (h2 : dgB x (p + 1) = false) : nvP x p = some (chr x p - 48) ∧ nqP x p = p + 1 := by unfold nvP nqP; rw [h, h2]; exact ⟨rfl, rfl⟩
theorem nvq2 {x : XV} {p : Nat} (h : dgB x p = true) (h2 : dgB x (p + 1) = true) : nvP x p = some (10 * (chr x p - 48) + (chr x (p + 1) - 48)) ∧ nqP x p = p + 2 := by unfold nvP nqP; rw [h, h2]; exact ⟨rfl, rfl⟩
section READ
variable {g : GC} {sg : SG} {I : IM} {T : Nat} {x : XV}
theorem C_readNumber {p : Nat} (hK : TxK sg) (hX : CTxt sg I x) (hx : XVok x) (h2 : I 1 2 = nI p) (hp : p ≤ 1000) : Ct m_X2_readNumber g [rf g 1] sg I (fun r0 s0 J => r0 = some (.int (oI (nvP x p))) ∧ s0 = sg ∧ J 1 2 = nI (nqP x p) ∧ ∀ q, q ≠ 1 → J q = I q) := by
  obtain ⟨k1, r1, r2⟩ := hK
  have hc1 := chr_le hx p
  have hc2 := chr_le hx (p + 1)
  have kX := hX.1.1
  refine Ct.of rfl (Nat.le_of_ble_eq_true rfl) fun X => ?_
  show V X _ sg I 0 [some (rf g 1), none, none, none] []
  obtain ⟨QQ, hQQ⟩ : ∃ QQ : Option Value → SG → IM → Prop, QQ = (fun r0 s0 J => r0 = some (.int (oI (nvP x p))) ∧ s0 = sg ∧ J 1 2 = nI (nqP x p) ∧ ∀ q, q ≠ 1 → J q = I q) := ⟨_, rfl⟩
  rw [← hQQ]
  have stepN : ∀ (J : IM) (p1 k : Nat) (num : Int32) (z : Option Value), k < 2 → okp z = true → p1 ≤ 1001 → CTxt sg J x → J 1 2 = nI p1 → dgB x p1 = false → QQ (some (.int num)) sg J → V X (ZQ X QQ) sg J 4 [some (rf g 1), some (.int num), some (.int (nI k)), z] [] := by
    intro J p1 k num z hk hz hp1 hXJ hJ hd hfin
    have hd2 := nv_f hd
    have hcl := chr_le hx p1
    have hci := chr_I hXJ p1
    rcases hd2 with h | h
    · have hneg := fig_neg _ h
      refine V_iload_n rfl dX2_readNumber_4 ?_
      refine V_iconst (nI 2) (by decide) dX2_readNumber_5 ?_
      refine V_icmp_geN 64 dX2_readNumber_6 (by decide) (by omega) (by omega) (fun h6 => absurd h6 (by omega)) (fun h6 => ?_)
      refine V_aload_n rfl dX2_readNumber_9 ?_
      refine gf_X2_14 (by assumption) (by assumption) rfl dX2_readNumber_10 ?_
      refine V_aload_n rfl dX2_readNumber_13 ?_
      refine gfe_X2_23 (by assumption) (by assumption) rfl dX2_readNumber_14 ?_
      refine V_iconst (nI 0) (by decide) dX2_readNumber_17 ?_
      refine cf_X2_40 (C_get (c := 0) hXJ.1 (by omega) (by decide)) (by assumption) rfl rfl ft0 (Nat.le_of_ble_eq_true rfl) dX2_readNumber_18 ?_
      rw [hci]
      refine V_bipush (nI 48) (by decide) dX2_readNumber_21 ?_
      refine V_isub dX2_readNumber_23 ?_
      refine V_ist3 rfl rfl dX2_readNumber_24 ?_
      refine V_iload_n rfl dX2_readNumber_25 ?_
      refine V_if_lt 35 dX2_readNumber_26 (by decide) (fun h26 => ?_) (fun h26 => absurd h26 (by exact fun z => z hneg))
      refine V_iload_n rfl dX2_readNumber_35 ?_
      refine V_iret rfl rfl rfl ?_ dX2_readNumber_36
      exact hfin
    · skip
      refine V_iload_n rfl dX2_readNumber_4 ?_
      refine V_iconst (nI 2) (by decide) dX2_readNumber_5 ?_
      refine V_icmp_geN 64 dX2_readNumber_6 (by decide) (by omega) (by omega) (fun h6 => absurd h6 (by omega)) (fun h6 => ?_)
      refine V_aload_n rfl dX2_readNumber_9 ?_
      refine gf_X2_14 (by assumption) (by assumption) rfl dX2_readNumber_10 ?_
      refine V_aload_n rfl dX2_readNumber_13 ?_
      refine gfe_X2_23 (by assumption) (by assumption) rfl dX2_readNumber_14 ?_
      refine V_iconst (nI 0) (by decide) dX2_readNumber_17 ?_
      refine cf_X2_40 (C_get (c := 0) hXJ.1 (by omega) (by decide)) (by assumption) rfl rfl ft0 (Nat.le_of_ble_eq_true rfl) dX2_readNumber_18 ?_
      rw [hci]
      refine V_bipush (nI 48) (by decide) dX2_readNumber_21 ?_
      refine V_isubN (by omega) dX2_readNumber_23 ?_
      refine V_ist3 rfl rfl dX2_readNumber_24 ?_
      refine V_iload_n rfl dX2_readNumber_25 ?_
      refine V_if_ltN 35 dX2_readNumber_26 (by decide) (by omega) ?_
      refine V_iload_n rfl dX2_readNumber_29 ?_
      refine V_bipush (nI 9) (by decide) dX2_readNumber_30 ?_
      refine V_icmp_leN 37 dX2_readNumber_32 (by decide) (by omega) (by omega) (fun h32 => absurd h32 (by omega)) (fun h32 => ?_)
      refine V_iload_n rfl dX2_readNumber_35 ?_
      refine V_iret rfl rfl rfl ?_ dX2_readNumber_36
      exact hfin
  have stepY : ∀ (J : IM) (p1 k mm : Nat) (num : Int32) (z : Option Value), k < 2 → okp z = true → p1 ≤ 1001 → mm ≤ 9 → CTxt sg J x → J 1 2 = nI p1 → dgB x p1 = true → (if num < 0 then nI 0 else num) = nI mm → (∀ z', okp z' = true → V X (ZQ X QQ) sg (upI J 1 2 (nI (p1 + 1))) 4 [some (rf g 1), some (.int (nI (mm * 10 + (chr x p1 - 48)))), some (.int (nI (k + 1))), z'] []) → V X (ZQ X QQ) sg J 4 [some (rf g 1), some (.int num), some (.int (nI k)), z] [] := by
    intro J p1 k mm num z hk hz hp1 hmm hXJ hJ hd hmx hk2
    have hd2 := nv_t hd
    have hci := chr_I hXJ p1
    refine V_iload_n rfl dX2_readNumber_4 ?_
    refine V_iconst (nI 2) (by decide) dX2_readNumber_5 ?_
    refine V_icmp_geN 64 dX2_readNumber_6 (by decide) (by omega) (by omega) (fun h6 => absurd h6 (by omega)) (fun h6 => ?_)
    refine V_aload_n rfl dX2_readNumber_9 ?_
    refine gf_X2_14 (by assumption) (by assumption) rfl dX2_readNumber_10 ?_
    refine V_aload_n rfl dX2_readNumber_13 ?_
    refine gfe_X2_23 (by assumption) (by assumption) rfl dX2_readNumber_14 ?_
    refine V_iconst (nI 0) (by decide) dX2_readNumber_17 ?_
    refine cf_X2_40 (C_get (c := 0) hXJ.1 (by omega) (by decide)) (by assumption) rfl rfl ft0 (Nat.le_of_ble_eq_true rfl) dX2_readNumber_18 ?_
    rw [hci]
    refine V_bipush (nI 48) (by decide) dX2_readNumber_21 ?_
    refine V_isubN (by omega) dX2_readNumber_23 ?_
    refine V_ist3 rfl rfl dX2_readNumber_24 ?_
    refine V_iload_n rfl dX2_readNumber_25 ?_
    refine V_if_ltN 35 dX2_readNumber_26 (by decide) (by omega) ?_
    refine V_iload_n rfl dX2_readNumber_29 ?_
    refine V_bipush (nI 9) (by decide) dX2_readNumber_30 ?_
    refine V_icmp_leN 37 dX2_readNumber_32 (by decide) (by omega) (by omega) (fun h32 => ?_) (fun h32 => absurd h32 (by omega))
    refine V_iload_n rfl dX2_readNumber_37 ?_
    refine V_iconst (nI 0) (by decide) dX2_readNumber_38 ?_
    refine V_max wl_X2_60 ws_max wi_Math wc_max (by decide) (Nat.le_of_ble_eq_true rfl) fh0 dX2_readNumber_39 ?_
    rw [show (if num < nI 0 then nI 0 else num) = nI mm from hmx]
    refine V_bipush (nI 10) (by decide) dX2_readNumber_42 ?_
    refine V_imulN dX2_readNumber_44 ?_
    refine V_iload_n rfl dX2_readNumber_45 ?_
    refine V_iaddN dX2_readNumber_46 ?_
    refine V_ist1 rfl rfl dX2_readNumber_47 ?_
    refine V_aload_n rfl dX2_readNumber_48 ?_
    refine V_dup rfl dX2_readNumber_49 ?_
    refine gfe_X2_23 (by assumption) (by assumption) rfl dX2_readNumber_50 ?_
    refine V_iconst (nI 1) (by decide) dX2_readNumber_53 ?_
    refine V_iaddN dX2_readNumber_54 ?_
    refine pf_X2_23 (by assumption) rfl dX2_readNumber_55 ?_
    refine V_iinc2_ _ (nI_inc _) rfl rfl dX2_readNumber_58 ?_
    refine V_goto 4 dX2_readNumber_61 (by decide) ?_
    exact hk2 _ rfl
  refine V_iconst (-1) (by decide) dX2_readNumber_0 ?_
  refine V_ist1 rfl rfl dX2_readNumber_1 ?_
  refine V_iconst (nI 0) (by decide) dX2_readNumber_2 ?_
  refine V_ist2 rfl rfl dX2_readNumber_3 ?_
  cases hd : dgB x p with
  | false =>
    refine stepN I p 0 _ _ (by decide) rfl (by omega) hX h2 hd ?_
    rw [hQQ]
    rw [(nvq0 hd).1, (nvq0 hd).2]
    exact ⟨rfl, rfl, h2, fun q _ => rfl⟩
  | true =>
    have hd2 := nv_t hd
    have hX1 : CTxt sg (upI I 1 2 (nI (p + 1))) x := hX.other (funext fun k => upI_ne (Or.inl (by decide))) (funext fun k => upI_ne (Or.inl (by decide)))
    refine stepY I p 0 0 _ _ (by decide) rfl (by omega) (by omega) hX h2 hd (by decide) (fun z hz => ?_)
    rw [show 0 * 10 + (chr x p - 48) = chr x p - 48 by omega]
    cases he : dgB x (p + 1) with
    | false =>
      refine stepN _ (p + 1) 1 _ z (by decide) hz (by omega) hX1 upI_eq he ?_
      rw [hQQ]
      rw [(nvq1 hd he).1, (nvq1 hd he).2]
      exact ⟨rfl, rfl, upI_eq, fun q hq => funext fun k => upI_ne (Or.inl hq)⟩
    | true =>
      have he2 := nv_t he
      refine stepY _ (p + 1) 1 (chr x p - 48) _ z (by decide) hz (by omega) (by omega) hX1 upI_eq he (if_neg (nI_lt0 (by omega))) (fun z hz => ?_)
      have h22 : 2 ≤ (1 + 1 : Nat) := by decide
      refine V_iload_n rfl dX2_readNumber_4 ?_
      refine V_iconst (nI 2) (by decide) dX2_readNumber_5 ?_
      refine V_icmp_geN 64 dX2_readNumber_6 (by decide) (by omega) (by omega) (fun h6 => ?_) (fun h6 => absurd h6 (by omega))
      refine V_iload_n rfl dX2_readNumber_64 ?_
      refine V_iret rfl rfl rfl ?_ dX2_readNumber_65
      rw [hQQ]
      rw [(nvq2 hd he).1, (nvq2 hd he).2]
      refine ⟨?_, rfl, upI_eq, fun q hq => funext fun k => by rw [upI_ne (Or.inl hq), upI_ne (Or.inl hq)]⟩
      show some (Value.int (nI _)) = some (Value.int (nI _))
      rw [Nat.mul_comm]
def itemQ (sg : SG) (I : IM) (T : Nat) (s : PS) (y : Option (PS × Nat)) : Option Value → SG → IM → Prop := fun r0 s0 J => s0 = sg ∧ (∀ q, q ≠ 1 → q ≠ 4 → q ≠ 5 → (q < T ∨ T + 9 ≤ q) → J q = I q) ∧ (∃ m, Tab sg J 4 5 3 1 m) ∧ match y with
  | some z => r0 = some (.int (nI 1)) ∧ J 1 2 = nI z.2 ∧ CTown sg J T z.1.1 ∧ J T 7 = bI (z.1.2 = true)
  | none => r0 = some (.int (nI 0)) ∧ CTown sg J T s.1
theorem C_readItem {s : PS} {p m : Nat} (hK : TxK sg) (hX : CTxt sg I x) (hx : XVok x) (hN : Tab sg I 4 5 3 1 m) (h2 : I 1 2 = nI p) (hp : p < x.1) (hT : CTown sg I T s.1) (h7 : I T 7 = bI (s.2 = true)) (hok : TVok s.1) (hd : 6 ≤ T) : Ct m_X2_readItem g [rf g 1, rf g T] sg I (itemQ sg I T s (itF x s p)) := by
  have hK0 := hK
  obtain ⟨k1, r1, r2⟩ := hK
  have hx2 := hx.1
  have hc1 := chr_le hx p
  have kX := hX.1.1
  have kN := hN.1
  have hci := chr_I hX p
  obtain ⟨w, hw⟩ : ∃ w, w = wN (chr x p) := ⟨_, rfl⟩
  have hw3 : w ≤ 3 := by rw [hw]; exact wN_le _
  obtain ⟨l, hl⟩ : ∃ l, l = chr x p := ⟨_, rfl⟩
  refine Ct.of rfl (Nat.le_of_ble_eq_true rfl) fun X => ?_
  show V X _ sg I 0 [some (rf g 1), some (rf g T), none, none, none, none, none] []
  obtain ⟨QQ, hQQ⟩ : ∃ QQ : Option Value → SG → IM → Prop, QQ = itemQ sg I T s (itF x s p) := ⟨_, rfl⟩
  rw [← hQQ]
  have hfail : ∀ J, (∀ q, q ≠ 1 → q ≠ 4 → q ≠ 5 → J q = I q) → (∃ m, Tab sg J 4 5 3 1 m) → itF x s p = none → QQ (some (.int (nI 0))) sg J := by
    intro J hf hm hn
    rw [hQQ, hn]
    exact ⟨rfl, fun q a b c _ => hf q a b c, hm, rfl, hT.other (fun q _ _ => hf q (by omega) (by omega) (by omega))⟩
  have loop : ∀ (k p1 : Nat) (acc : List Nat) (J : IM) (z5 z6 : Option Value), okp z5 = true → okp z6 = true → acc.length + k = w → p1 ≤ 210 - 3 * k → (∀ q, q ≠ 1 → q ≠ 4 → q ≠ 5 → J q = I q) → Tab sg J 4 5 3 1 acc.length → (∀ i, i < acc.length → J 5 (i * 1 + 0) = nI (acc.getD i 0)) → J 1 2 = nI p1 → (∀ i, acc.getD i 0 ≤ 99) → (itL x k p1 = none → itF x s p = none) → (∀ y, itL x k p1 = some y → itL x w (p + 1) = some (acc ++ y.1, y.2)) →
      V X (ZQ X QQ) sg J 38 [some (rf g 1), some (rf g T), some (.int (nI l)), some (.int (nI w)), some (.int (nI (acc.length + 1))), z5, z6] [] := by
    intro k
    induction k with
    | zero =>
      intro p1 acc J z5 z6 hz5 hz6 hac hp1 hf hT4 h5 hJ2 h99 hno hyes
      have hyy := hyes ([], p1) rfl
      rw [List.append_nil] at hyy
      have hTJ : CTown sg J T s.1 := hT.other (fun q _ _ => hf q (by omega) (by omega) (by omega))
      have h7J : J T 7 = bI (s.2 = true) := by rw [hf T (by omega) (by omega) (by omega)]; exact h7
      have hget : ∀ i, (if i < acc.length then J 5 (i * 1 + 0) else nI 0) = nI (acc.getD i 0) := by
        intro i
        by_cases c : i < acc.length
        · rw [if_pos c]; exact h5 i c
        · rw [if_neg c, getD_out (by omega)]
      by_cases hw0 : w = 0
      · have hn : itF x s p = none := by unfold itF; rw [← hw, if_pos hw0]
        refine V_iload rfl dX2_readItem_38 ?_
        refine V_iload_n rfl dX2_readItem_40 ?_
        refine V_icmp_gtN 117 dX2_readItem_41 (by decide) (by omega) (by omega) (fun h41 => ?_) (fun h41 => absurd h41 (by omega))
        refine V_iload_n rfl dX2_readItem_117 ?_
        refine V_if_leN 160 dX2_readItem_118 (by decide) (by omega) (fun h118 => ?_) (fun h118 => absurd h118 (by omega))
        refine V_iconst (nI 0) (by decide) dX2_readItem_160 ?_
        refine V_zret rfl (rfl) rfl rfl ?_ dX2_readItem_161
        exact hfail J hf ⟨_, hT4⟩ hn
      · have hii : itF x s p = (match tlF s l (acc.getD 0 0) (acc.getD 1 0) (acc.getD 2 0) with
          | none => none
          | some s' => some (s', p1)) := by
          unfold itF
          rw [← hw, if_neg hw0, hyy, hl]; rfl
        refine V_iload rfl dX2_readItem_38 ?_
        refine V_iload_n rfl dX2_readItem_40 ?_
        refine V_icmp_gtN 117 dX2_readItem_41 (by decide) (by omega) (by omega) (fun h41 => ?_) (fun h41 => absurd h41 (by omega))
        refine V_iload_n rfl dX2_readItem_117 ?_
        refine V_if_leN 160 dX2_readItem_118 (by decide) (by omega) (fun h118 => absurd h118 (by omega)) (fun h118 => ?_)
        refine V_aload_n rfl dX2_readItem_121 ?_
        refine V_iload_n rfl dX2_readItem_122 ?_
        refine V_aload_n rfl dX2_readItem_123 ?_
        refine gf_X2_20 (by assumption) (by assumption) rfl dX2_readItem_124 ?_
        refine V_iconst (nI 0) (by decide) dX2_readItem_127 ?_
        refine V_iconst (nI 0) (by decide) dX2_readItem_128 ?_
        refine cf_X2_40 (C_get (j := 0) (c := 0) hT4 (by decide) (by decide)) (by assumption) rfl rfl ft0 (Nat.le_of_ble_eq_true rfl) dX2_readItem_129 ?_
        rw [hget 0]
        refine V_aload_n rfl dX2_readItem_132 ?_
        refine gf_X2_20 (by assumption) (by assumption) rfl dX2_readItem_133 ?_
        refine V_iconst (nI 1) (by decide) dX2_readItem_136 ?_
        refine V_iconst (nI 0) (by decide) dX2_readItem_137 ?_
        refine cf_X2_40 (C_get (j := 1) (c := 0) hT4 (by decide) (by decide)) (by assumption) rfl rfl ft0 (Nat.le_of_ble_eq_true rfl) dX2_readItem_138 ?_
        rw [hget 1]
        refine V_aload_n rfl dX2_readItem_141 ?_
        refine gf_X2_20 (by assumption) (by assumption) rfl dX2_readItem_142 ?_
        refine V_iconst (nI 2) (by decide) dX2_readItem_145 ?_
        refine V_iconst (nI 0) (by decide) dX2_readItem_146 ?_
        refine cf_X2_40 (C_get (j := 2) (c := 0) hT4 (by decide) (by decide)) (by assumption) rfl rfl ft0 (Nat.le_of_ble_eq_true rfl) dX2_readItem_147 ?_
        rw [hget 2]
        refine cl_X2_56 (C_tell hTJ h7J hok (h99 0) (h99 1) (h99 2) (by rw [hl, ← hw]; exact hw0)) rfl rfl ft0 (Nat.le_of_ble_eq_true rfl) dX2_readItem_150 (fun rr s9 J9 hq => ?_)
        cases hy : tlF s l (acc.getD 0 0) (acc.getD 1 0) (acc.getD 2 0) with
        | none =>
          rw [hy] at hq hii
          obtain ⟨hs, hfr, rfl, hq⟩ := hq
          have hs := hs.symm
          subst hs
          show V X _ sg J9 153 _ [.int (nI 0)]
          refine V_if_eqN 160 dX2_readItem_153 (by decide) (by omega) (fun h153 => ?_) (fun h153 => absurd h153 (by decide))
          refine V_iconst (nI 0) (by decide) dX2_readItem_160 ?_
          refine V_zret rfl (rfl) rfl rfl ?_ dX2_readItem_161
          rw [hQQ, hii]
          exact ⟨rfl, fun q a b c d => (hfr q d).trans (hf q a b c), ⟨_, hT4.other (hfr _ (by omega))⟩, rfl, hq⟩
        | some s2 =>
          rw [hy] at hq hii
          obtain ⟨hs, hfr, rfl, hq1, hq2⟩ := hq
          have hs := hs.symm
          subst hs
          show V X _ sg J9 153 _ [.int (nI 1)]
          refine V_if_eqN 160 dX2_readItem_153 (by decide) (by omega) (fun h153 => absurd h153 (by decide)) (fun h153 => ?_)
          refine V_iconst (nI 1) (by decide) dX2_readItem_156 ?_
          refine V_goto 161 dX2_readItem_157 (by decide) ?_
          refine V_zret rfl (rfl) rfl rfl ?_ dX2_readItem_161
          rw [hQQ, hii]
          exact ⟨rfl, fun q a b c d => (hfr q d).trans (hf q a b c), ⟨_, hT4.other (hfr _ (by omega))⟩, rfl, by rw [hfr 1 (by omega)]; exact hJ2, hq1, hq2⟩
    | succ k ih =>
      intro p1 acc J z5 z6 hz5 hz6 hac hp1 hf hT4 h5 hJ2 h99 hno hyes
      have hXJ : CTxt sg J x := hX.other (hf _ (by decide) (by decide) (by decide)) (hf _ (by decide) (by decide) (by decide))
      have hnq := nq_le (x := x) (p := p1)
      have hci := fun (J1 : IM) (e : ∀ q, q ≠ 1 → J1 q = J q) => chr_I (hXJ.other (e 2 (by decide)) (e 3 (by decide))) (nqP x p1)
      have hcl := chr_le hx (nqP x p1)
      refine V_iload rfl dX2_readItem_38 ?_
      refine V_iload_n rfl dX2_readItem_40 ?_
      refine V_icmp_gtN 117 dX2_readItem_41 (by decide) (by omega) (by omega) (fun h41 => absurd h41 (by omega)) (fun h41 => ?_)
      refine V_aload_n rfl dX2_readItem_44 ?_
      refine cl_X2_49 (C_readNumber hK0 hXJ hx hJ2 (by omega)) (by assumption) rfl rfl ft0 (Nat.le_of_ble_eq_true rfl) dX2_readItem_45 (fun rr s9 J1 hq => ?_)
      obtain ⟨rfl, hs, hq1, hq2⟩ := hq
      have hs := hs.symm
      subst hs
      have hX1 : CTxt sg J1 x := hXJ.other (hq2 _ (by decide)) (hq2 _ (by decide))
      have hci1 := hci J1 hq2
      have hf1 : ∀ q, q ≠ 1 → q ≠ 4 → q ≠ 5 → J1 q = I q := fun q a b c => (hq2 q a).trans (hf q a b c)
      have hT41 := hT4.other (hq2 4 (by decide))
      have kX1 := hX1.1.1
      have kN1 := hT41.1
      cases hv : nvP x p1 with
      | none =>
        have hn : itF x s p = none := hno (by unfold itL; rw [hv])
        show V X _ sg J1 48 _ [.int (-1)]
        refine V_ist5 rfl rfl dX2_readItem_48 ?_
        refine V_aload_n rfl dX2_readItem_50 ?_
        refine gf_X2_14 (by assumption) (by assumption) rfl dX2_readItem_51 ?_
        refine V_aload_n rfl dX2_readItem_54 ?_
        refine gfe_X2_23 (by assumption) (by assumption) rfl dX2_readItem_55 ?_
        refine V_iconst (nI 0) (by decide) dX2_readItem_58 ?_
        refine cf_X2_40 (C_get (c := 0) hX1.1 (by omega) (by decide)) (by assumption) rfl rfl ft0 (Nat.le_of_ble_eq_true rfl) dX2_readItem_59 ?_
        rw [hci1]
        refine V_ist6 rfl rfl dX2_readItem_62 ?_
        refine V_iload rfl dX2_readItem_64 ?_
        refine V_if_lt 87 dX2_readItem_66 (by decide) (fun h66 => ?_) (fun h66 => absurd h66 (by decide))
        refine V_iconst (nI 0) (by decide) dX2_readItem_87 ?_
        refine V_zret rfl (rfl) rfl rfl ?_ dX2_readItem_88
        exact hfail J1 hf1 ⟨_, hT41⟩ hn
      | some v =>
        have hv99 := nv_le hv
        show V X _ sg J1 48 _ [.int (nI v)]
        by_cases hsg : chr x (nqP x p1) = (if k = 0 then 59 else 44)
        · have hLk : itL x (k + 1) p1 = (match itL x k (nqP x p1 + 1) with
            | none => none
            | some y => some (v :: y.1, y.2)) := by
            rw [itL, hv]
            exact if_pos hsg
          have hlen : (acc ++ [v]).length = acc.length + 1 := by simp
          have h8 := ih (nqP x p1 + 1) (acc ++ [v])
          rw [hlen] at h8
          have hlast : ∀ J2, (∀ q, q ≠ 1 → q ≠ 4 → q ≠ 5 → J2 q = I q) → Tab sg J2 4 5 3 1 (acc.length + 1) → (∀ i, i < acc.length → J2 5 (i * 1 + 0) = nI (acc.getD i 0)) → J2 5 (acc.length * 1 + 0) = nI v → J2 1 2 = nI (nqP x p1 + 1) → V X (ZQ X QQ) sg J2 38 [some (rf g 1), some (rf g T), some (.int (nI l)), some (.int (nI w)), some (.int (nI (acc.length + 1 + 1))), some (.int (nI v)), some (.int (nI (chr x (nqP x p1))))] [] := by
            intro J2 e1 e2 e3 e4 e5
            refine h8 J2 _ _ rfl rfl (by omega) (by omega) e1 e2 (fun i hi => ?_) e5 (fun i => ?_) (fun z => hno (by rw [hLk, z])) (fun y hy => ?_)
            · rw [getD_app]
              by_cases c : i < acc.length
              · rw [if_pos c]; exact e3 i c
              · have e : i = acc.length := by omega
                rw [if_neg c, if_pos e, e]; exact e4
            · rw [getD_app]
              split
              · exact h99 i
              · split <;> omega
            · have := hyes (v :: y.1, y.2) (by rw [hLk, hy])
              rw [this]; simp
          refine V_ist5 rfl rfl dX2_readItem_48 ?_
          refine V_aload_n rfl dX2_readItem_50 ?_
          refine gf_X2_14 (by assumption) (by assumption) rfl dX2_readItem_51 ?_
          refine V_aload_n rfl dX2_readItem_54 ?_
          refine gfe_X2_23 (by assumption) (by assumption) rfl dX2_readItem_55 ?_
          refine V_iconst (nI 0) (by decide) dX2_readItem_58 ?_
          refine cf_X2_40 (C_get (c := 0) hX1.1 (by omega) (by decide)) (by assumption) rfl rfl ft0 (Nat.le_of_ble_eq_true rfl) dX2_readItem_59 ?_
          rw [hci1]
          refine V_ist6 rfl rfl dX2_readItem_62 ?_
          refine V_iload rfl dX2_readItem_64 ?_
          refine V_if_ltN 87 dX2_readItem_66 (by decide) (by omega) ?_
          refine V_iload rfl dX2_readItem_69 ?_
          refine V_iload rfl dX2_readItem_71 ?_
          refine V_iload_n rfl dX2_readItem_73 ?_
          refine V_icmp_neN 82 dX2_readItem_74 (by decide) (by omega) (by omega) (fun h74 => ?_) (fun h74 => ?_)
          · skip
            refine V_bipush (nI 44) (by decide) dX2_readItem_82 ?_
            refine V_icmp_eqN 89 dX2_readItem_84 (by decide) (by omega) (by omega) (fun h84 => ?_) (fun h84 => ?_)
            · skip
              refine V_aload_n rfl dX2_readItem_89 ?_
              refine V_dup rfl dX2_readItem_90 ?_
              refine gfe_X2_23 (by assumption) (by assumption) rfl dX2_readItem_91 ?_
              refine V_iconst (nI 1) (by decide) dX2_readItem_94 ?_
              refine V_iaddN dX2_readItem_95 ?_
              refine pf_X2_23 (by assumption) rfl dX2_readItem_96 ?_
              refine V_aload_n rfl dX2_readItem_99 ?_
              refine gf_X2_20 (by assumption) (by assumption) rfl dX2_readItem_100 ?_
              refine V_iload rfl dX2_readItem_103 ?_
              refine V_iconst (nI 0) (by decide) dX2_readItem_105 ?_
              refine V_iconst (nI 0) (by decide) dX2_readItem_106 ?_
              refine cl_X2_52 (C_add (hT41.upI (by decide))) (by assumption) rfl rfl ft0 (Nat.le_of_ble_eq_true rfl) dX2_readItem_107 (fun rr2 s8 J2 hq => ?_)
              obtain ⟨hs, hq⟩ := hq
              have hs := hs.symm
              subst hs
              rcases hq with ⟨a1, rfl, a2, a3, a4, a5⟩ | ⟨a1, -, -⟩
              · show V X _ sg J2 110 _ [.int (nI 1)]
                refine V_pop rfl dX2_readItem_110 ?_
                refine V_iinc4_ _ (nI_inc _) rfl rfl dX2_readItem_111 ?_
                refine V_goto 38 dX2_readItem_114 (by decide) ?_
                refine hlast J2 (fun q b1 b4 b5 => ?_) a2 (fun i hi => ?_) (a4 0 (by decide)) ?_
                · rw [a5 q b4 b5, show (upI J1 1 2 (nI (nqP x p1 + 1))) q = J1 q from funext fun k => upI_ne (Or.inl b1)]; exact hf1 q b1 b4 b5
                · rw [a3 _ (by omega), upI_ne (Or.inl (by decide)), hq2 5 (by decide)]; exact h5 i hi
                · rw [a5 1 (by decide) (by decide)]; exact upI_eq
              · exact absurd a1 (by omega)
            · skip
              refine V_iconst (nI 0) (by decide) dX2_readItem_87 ?_
              refine V_zret rfl (rfl) rfl rfl ?_ dX2_readItem_88
              exact absurd hsg (by first | rw [if_pos (by omega)]; omega | rw [if_neg (by omega)]; omega)
          · skip
            refine V_bipush (nI 59) (by decide) dX2_readItem_77 ?_
            refine V_goto 84 dX2_readItem_79 (by decide) ?_
            refine V_icmp_eqN 89 dX2_readItem_84 (by decide) (by omega) (by omega) (fun h84 => ?_) (fun h84 => ?_)
            · skip
              refine V_aload_n rfl dX2_readItem_89 ?_
              refine V_dup rfl dX2_readItem_90 ?_
              refine gfe_X2_23 (by assumption) (by assumption) rfl dX2_readItem_91 ?_
              refine V_iconst (nI 1) (by decide) dX2_readItem_94 ?_
              refine V_iaddN dX2_readItem_95 ?_
              refine pf_X2_23 (by assumption) rfl dX2_readItem_96 ?_
              refine V_aload_n rfl dX2_readItem_99 ?_
              refine gf_X2_20 (by assumption) (by assumption) rfl dX2_readItem_100 ?_
              refine V_iload rfl dX2_readItem_103 ?_
              refine V_iconst (nI 0) (by decide) dX2_readItem_105 ?_
              refine V_iconst (nI 0) (by decide) dX2_readItem_106 ?_
              refine cl_X2_52 (C_add (hT41.upI (by decide))) (by assumption) rfl rfl ft0 (Nat.le_of_ble_eq_true rfl) dX2_readItem_107 (fun rr2 s8 J2 hq => ?_)
              obtain ⟨hs, hq⟩ := hq
              have hs := hs.symm
              subst hs
              rcases hq with ⟨a1, rfl, a2, a3, a4, a5⟩ | ⟨a1, -, -⟩
              · show V X _ sg J2 110 _ [.int (nI 1)]
                refine V_pop rfl dX2_readItem_110 ?_
                refine V_iinc4_ _ (nI_inc _) rfl rfl dX2_readItem_111 ?_
                refine V_goto 38 dX2_readItem_114 (by decide) ?_
                refine hlast J2 (fun q b1 b4 b5 => ?_) a2 (fun i hi => ?_) (a4 0 (by decide)) ?_
                · rw [a5 q b4 b5, show (upI J1 1 2 (nI (nqP x p1 + 1))) q = J1 q from funext fun k => upI_ne (Or.inl b1)]; exact hf1 q b1 b4 b5
                · rw [a3 _ (by omega), upI_ne (Or.inl (by decide)), hq2 5 (by decide)]; exact h5 i hi
                · rw [a5 1 (by decide) (by decide)]; exact upI_eq
              · exact absurd a1 (by omega)
            · skip
              refine V_iconst (nI 0) (by decide) dX2_readItem_87 ?_
              refine V_zret rfl (rfl) rfl rfl ?_ dX2_readItem_88
              exact absurd hsg (by first | rw [if_pos (by omega)]; omega | rw [if_neg (by omega)]; omega)
        · have hn : itF x s p = none := hno (by unfold itL; rw [hv]; exact if_neg hsg)
          refine V_ist5 rfl rfl dX2_readItem_48 ?_
          refine V_aload_n rfl dX2_readItem_50 ?_
          refine gf_X2_14 (by assumption) (by assumption) rfl dX2_readItem_51 ?_
          refine V_aload_n rfl dX2_readItem_54 ?_
          refine gfe_X2_23 (by assumption) (by assumption) rfl dX2_readItem_55 ?_
          refine V_iconst (nI 0) (by decide) dX2_readItem_58 ?_
          refine cf_X2_40 (C_get (c := 0) hX1.1 (by omega) (by decide)) (by assumption) rfl rfl ft0 (Nat.le_of_ble_eq_true rfl) dX2_readItem_59 ?_
          rw [hci1]
          refine V_ist6 rfl rfl dX2_readItem_62 ?_
          refine V_iload rfl dX2_readItem_64 ?_
          refine V_if_ltN 87 dX2_readItem_66 (by decide) (by omega) ?_
          refine V_iload rfl dX2_readItem_69 ?_
          refine V_iload rfl dX2_readItem_71 ?_
          refine V_iload_n rfl dX2_readItem_73 ?_
          refine V_icmp_neN 82 dX2_readItem_74 (by decide) (by omega) (by omega) (fun h74 => ?_) (fun h74 => ?_)
          · skip
            refine V_bipush (nI 44) (by decide) dX2_readItem_82 ?_
            refine V_icmp_eqN 89 dX2_readItem_84 (by decide) (by omega) (by omega) (fun h84 => ?_) (fun h84 => ?_)
            · skip
              exact absurd (by first | rw [if_pos (by omega)]; omega | rw [if_neg (by omega)]; omega) hsg
            · skip
              refine V_iconst (nI 0) (by decide) dX2_readItem_87 ?_
              refine V_zret rfl (rfl) rfl rfl ?_ dX2_readItem_88
              exact hfail J1 hf1 ⟨_, hT41⟩ hn
          · skip
            refine V_bipush (nI 59) (by decide) dX2_readItem_77 ?_
            refine V_goto 84 dX2_readItem_79 (by decide) ?_
            refine V_icmp_eqN 89 dX2_readItem_84 (by decide) (by omega) (by omega) (fun h84 => ?_) (fun h84 => ?_)
            · skip
              exact absurd (by first | rw [if_pos (by omega)]; omega | rw [if_neg (by omega)]; omega) hsg
            · skip
              refine V_iconst (nI 0) (by decide) dX2_readItem_87 ?_
              refine V_zret rfl (rfl) rfl rfl ?_ dX2_readItem_88
              exact hfail J1 hf1 ⟨_, hT41⟩ hn
  have hlet : l ≤ 126 := by omega
  rw [← hl] at hci
  have h8 := fun J z5 z6 => loop w (p + 1) [] J z5 z6
  refine V_aload_n rfl dX2_readItem_0 ?_
  refine gf_X2_14 (by assumption) (by assumption) rfl dX2_readItem_1 ?_
  refine V_aload_n rfl dX2_readItem_4 ?_
  refine gfe_X2_23 (by assumption) (by assumption) rfl dX2_readItem_5 ?_
  refine V_iconst (nI 0) (by decide) dX2_readItem_8 ?_
  refine cf_X2_40 (C_get (c := 0) hX.1 (by omega) (by decide)) (by assumption) rfl rfl ft0 (Nat.le_of_ble_eq_true rfl) dX2_readItem_9 ?_
  rw [hci]
  refine V_ist2 rfl rfl dX2_readItem_12 ?_
  refine V_iload_n rfl dX2_readItem_13 ?_
  refine cf_X2_44 (C_numbersOf hlet) rfl rfl ft0 (Nat.le_of_ble_eq_true rfl) dX2_readItem_14 ?_
  rw [show wN l = w from by rw [hl, hw]]
  refine V_ist3 rfl rfl dX2_readItem_17 ?_
  refine V_aload_n rfl dX2_readItem_18 ?_
  refine V_dup rfl dX2_readItem_19 ?_
  refine gfe_X2_23 (by assumption) (by assumption) rfl dX2_readItem_20 ?_
  refine V_iconst (nI 1) (by decide) dX2_readItem_23 ?_
  refine V_iaddN dX2_readItem_24 ?_
  refine pf_X2_23 (by assumption) rfl dX2_readItem_25 ?_
  refine V_aload_n rfl dX2_readItem_28 ?_
  refine gf_X2_20 (by assumption) (by assumption) rfl dX2_readItem_29 ?_
  refine cf_X2_48 (C_clear (hN.upI (by decide))) (by assumption) rfl rfl ft0 (Nat.le_of_ble_eq_true rfl) dX2_readItem_32 ?_
  refine V_iconst (nI 1) (by decide) dX2_readItem_35 ?_
  refine V_ist4 rfl rfl dX2_readItem_36 ?_
  refine h8 _ _ _ rfl rfl (Nat.zero_add _) (by omega) (fun q a b c => ?_) ((hN.upI (by decide)).resize (fun k hk => upI_ne (Or.inr hk)) upI_eq (Nat.zero_le _)) (fun i hi => absurd hi (Nat.not_lt_zero i)) ?_ (fun i => ?_) (fun z => ?_) (fun y hy => hy)
  · exact funext fun k => by rw [upI_ne (Or.inl b), upI_ne (Or.inl a)]
  · rw [upI_ne (Or.inl (by decide))]; exact upI_eq
  · rw [getD_out (Nat.zero_le _)]; omega
  · unfold itF
    rw [← hw]
    by_cases c : w = 0
    · rw [if_pos c]
    · rw [if_neg c, z]
end READ
