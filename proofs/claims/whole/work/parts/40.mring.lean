/-! CarvedWeeksModel: a mark cut, a mark gone, the bell -/
def slF (I J : IM) (s : Nat) : Prop := (∀ j, (j < 56 * s ∨ 56 * s + 56 ≤ j) → J 100 j = I 100 j) ∧ ∀ q, q ≠ 100 → J q = I q
theorem slF.refl {I : IM} {s : Nat} : slF I I s := ⟨fun _ _ => rfl, fun _ _ => rfl⟩
theorem slF.trans {I J H : IM} {s : Nat} (a : slF I J s) (b : slF J H s) : slF I H s := ⟨fun j h => (b.1 j h).trans (a.1 j h), fun q h => (b.2 q h).trans (a.2 q h)⟩
theorem slF.up {I : IM} {s j : Nat} {v : Int32} (h1 : 56 * s ≤ j) (h2 : j < 56 * s + 56) : slF I (upI I 100 j v) s := ⟨fun i hi => upI_ne (Or.inr (by omega)), fun q hq => funext fun k => upI_ne (Or.inl hq)⟩
section MRING
variable {g : GC} {sg : SG} {I : IM} {x : XV} {tv : TV} {W : WV} {P K : SV} {np : Nat}
theorem D_cuts {s v st bb : Nat} (hK : MK sg) (hW : SlW I s W np) (hs12 : s < 12) (hn : (wM W).1 < 12) (hp : np ≤ 5) : Ct m_X6_cuts g [rf g 92, .int (nI s), .int (nI v), .int (nI st), .int (nI bb)] sg I (fun r0 s0 J => r0 = some (.int (nI (wM W).1)) ∧ s0 = sg ∧ SlW J s (wT W, wK W, addTB (wM W) v st bb, wH W) np ∧ slF I J s) := by
  obtain ⟨m0, mR1, mR3, mR4, mR5, mR6, mR7, mR8, mR10, mR16, mR17, mA93, mA94, mA95, mA96, mA97, mA98, mA99, mA100, mA101, mA102⟩ := hK
  obtain ⟨wT0, wK0, wM0, wH0, wC0⟩ := hW
  refine Ct.of rfl (Nat.le_of_ble_eq_true rfl) fun X => ?_
  show V X _ sg I 0 [some (rf g 92), some (.int (nI s)), some (.int (nI v)), some (.int (nI st)), some (.int (nI bb)), none] []
  obtain ⟨n, hnn⟩ : ∃ n, n = (wM W).1 := ⟨_, rfl⟩
  rw [← hnn] at wM0 hn wC0
  rw [← hnn]
  obtain ⟨J4, hJ4⟩ : ∃ J4, J4 = upI (upI (upI (upI I 100 (56 * s + 8 + 4 * n) (nI v)) 100 (56 * s + 8 + 4 * n + 1) (nI st)) 100 (56 * s + 8 + 4 * n + 2) (nI bb)) 100 (56 * s + 8 + 4 * n + 3) (nI 0) := ⟨_, rfl⟩
  have hJ4n : ∀ j, (j < 56 * s + 8 + 4 * n ∨ 56 * s + 8 + 4 * n + 4 ≤ j) → J4 100 j = I 100 j := fun j hj => by rw [hJ4, upI_ne (Or.inr (by omega)), upI_ne (Or.inr (by omega)), upI_ne (Or.inr (by omega)), upI_ne (Or.inr (by omega))]
  have c3 : J4 100 (56 * s + 8 + 4 * n + 3) = nI 0 := by rw [hJ4]; exact upI_eq
  have c2 : J4 100 (56 * s + 8 + 4 * n + 2) = nI bb := by rw [hJ4, upI_ne (Or.inr (by omega))]; exact upI_eq
  have c1 : J4 100 (56 * s + 8 + 4 * n + 1) = nI st := by rw [hJ4, upI_ne (Or.inr (by omega)), upI_ne (Or.inr (by omega))]; exact upI_eq
  have c0 : J4 100 (56 * s + 8 + 4 * n) = nI v := by rw [hJ4, upI_ne (Or.inr (by omega)), upI_ne (Or.inr (by omega)), upI_ne (Or.inr (by omega))]; exact upI_eq
  have hf4 : slF I J4 s := ⟨fun j hj => hJ4n j (by omega), fun q hq => by rw [hJ4]; funext k; rw [upI_ne (Or.inl hq), upI_ne (Or.inl hq), upI_ne (Or.inl hq), upI_ne (Or.inl hq)]⟩
  have wM4 : J4 100 (56 * s + 2) = nI n := by rw [hJ4n _ (by omega)]; exact wM0
  refine V_aload_n rfl dX6_cuts_0 ?_
  refine gf_X6_33 (by assumption) (by assumption) rfl dX6_cuts_1 ?_
  refine V_bipush (nI 56) (by decide) dX6_cuts_4 ?_
  refine V_iload_n rfl dX6_cuts_6 ?_
  refine V_imulN dX6_cuts_7 ?_
  refine V_iconst (nI 2) (by decide) dX6_cuts_8 ?_
  refine V_iaddN dX6_cuts_9 ?_
  refine V_iald _ (by assumption) rfl (by omega) (by omega) dX6_cuts_10 ?_
  refine V_topi (wM0) ?_
  refine V_ist5 rfl rfl dX6_cuts_11 ?_
  refine V_aload_n rfl dX6_cuts_13 ?_
  refine gf_X6_33 (by assumption) (by assumption) rfl dX6_cuts_14 ?_
  refine V_bipush (nI 56) (by decide) dX6_cuts_17 ?_
  refine V_iload_n rfl dX6_cuts_19 ?_
  refine V_imulN dX6_cuts_20 ?_
  refine V_bipush (nI 8) (by decide) dX6_cuts_21 ?_
  refine V_iaddN dX6_cuts_23 ?_
  refine V_iconst (nI 4) (by decide) dX6_cuts_24 ?_
  refine V_iload rfl dX6_cuts_25 ?_
  refine V_imulN dX6_cuts_27 ?_
  refine V_iaddN dX6_cuts_28 ?_
  refine V_iload_n rfl dX6_cuts_29 ?_
  refine V_iast _ (by assumption) rfl (by omega) (by omega) dX6_cuts_30 ?_
  refine V_aload_n rfl dX6_cuts_31 ?_
  refine gf_X6_33 (by assumption) (by assumption) rfl dX6_cuts_32 ?_
  refine V_bipush (nI 56) (by decide) dX6_cuts_35 ?_
  refine V_iload_n rfl dX6_cuts_37 ?_
  refine V_imulN dX6_cuts_38 ?_
  refine V_bipush (nI 8) (by decide) dX6_cuts_39 ?_
  refine V_iaddN dX6_cuts_41 ?_
  refine V_iconst (nI 4) (by decide) dX6_cuts_42 ?_
  refine V_iload rfl dX6_cuts_43 ?_
  refine V_imulN dX6_cuts_45 ?_
  refine V_iaddN dX6_cuts_46 ?_
  refine V_iconst (nI 1) (by decide) dX6_cuts_47 ?_
  refine V_iaddN dX6_cuts_48 ?_
  refine V_iload_n rfl dX6_cuts_49 ?_
  refine V_iast _ (by assumption) rfl (by omega) (by omega) dX6_cuts_50 ?_
  refine V_aload_n rfl dX6_cuts_51 ?_
  refine gf_X6_33 (by assumption) (by assumption) rfl dX6_cuts_52 ?_
  refine V_bipush (nI 56) (by decide) dX6_cuts_55 ?_
  refine V_iload_n rfl dX6_cuts_57 ?_
  refine V_imulN dX6_cuts_58 ?_
  refine V_bipush (nI 8) (by decide) dX6_cuts_59 ?_
  refine V_iaddN dX6_cuts_61 ?_
  refine V_iconst (nI 4) (by decide) dX6_cuts_62 ?_
  refine V_iload rfl dX6_cuts_63 ?_
  refine V_imulN dX6_cuts_65 ?_
  refine V_iaddN dX6_cuts_66 ?_
  refine V_iconst (nI 2) (by decide) dX6_cuts_67 ?_
  refine V_iaddN dX6_cuts_68 ?_
  refine V_iload rfl dX6_cuts_69 ?_
  refine V_iast _ (by assumption) rfl (by omega) (by omega) dX6_cuts_71 ?_
  refine V_aload_n rfl dX6_cuts_72 ?_
  refine gf_X6_33 (by assumption) (by assumption) rfl dX6_cuts_73 ?_
  refine V_bipush (nI 56) (by decide) dX6_cuts_76 ?_
  refine V_iload_n rfl dX6_cuts_78 ?_
  refine V_imulN dX6_cuts_79 ?_
  refine V_bipush (nI 8) (by decide) dX6_cuts_80 ?_
  refine V_iaddN dX6_cuts_82 ?_
  refine V_iconst (nI 4) (by decide) dX6_cuts_83 ?_
  refine V_iload rfl dX6_cuts_84 ?_
  refine V_imulN dX6_cuts_86 ?_
  refine V_iaddN dX6_cuts_87 ?_
  refine V_iconst (nI 3) (by decide) dX6_cuts_88 ?_
  refine V_iaddN dX6_cuts_89 ?_
  refine V_iconst (nI 0) (by decide) dX6_cuts_90 ?_
  refine V_iast _ (by assumption) rfl (by omega) (by omega) dX6_cuts_91 ?_
  rw [← hJ4]
  refine V_aload_n rfl dX6_cuts_92 ?_
  refine gf_X6_33 (by assumption) (by assumption) rfl dX6_cuts_93 ?_
  refine V_bipush (nI 56) (by decide) dX6_cuts_96 ?_
  refine V_iload_n rfl dX6_cuts_98 ?_
  refine V_imulN dX6_cuts_99 ?_
  refine V_iconst (nI 2) (by decide) dX6_cuts_100 ?_
  refine V_iaddN dX6_cuts_101 ?_
  refine V_dup2 rfl rfl dX6_cuts_102 ?_
  refine V_iald _ (by assumption) rfl (by omega) (by omega) dX6_cuts_103 ?_
  refine V_topi (wM4) ?_
  refine V_iconst (nI 1) (by decide) dX6_cuts_104 ?_
  refine V_iaddN dX6_cuts_105 ?_
  refine V_iast _ (by assumption) rfl (by omega) (by omega) dX6_cuts_106 ?_
  refine V_iload rfl dX6_cuts_107 ?_
  refine V_iret rfl rfl rfl ?_ dX6_cuts_109
  have hne : ∀ j, j ≠ 56 * s + 2 → (upI J4 100 (56 * s + 2) (nI (n + 1))) 100 j = J4 100 j := fun j hj => upI_ne (Or.inr hj)
  refine ⟨rfl, rfl, ⟨?_, ?_, ?_, fun i hi => ?_, fun m hm c hc => ?_⟩, hf4.trans (slF.up (by omega) (by omega))⟩
  · rw [hne _ (by omega), hJ4n _ (by omega)]; exact wT0
  · rw [hne _ (by omega), hJ4n _ (by omega)]; exact wK0
  · show _ = nI ((wM W).1 + 1)
    rw [← hnn]; exact upI_eq
  · rw [hne _ (by omega), hJ4n _ (by omega)]; exact wH0 i hi
  · have hm2 : m < (wM W).1 + 1 := hm
    rw [hne _ (by omega)]
    show _ = nI ((addTB (wM W) v st bb).2 m c)
    rw [add_at]
    by_cases e : m = (wM W).1
    · rw [if_pos e, e, ← hnn]
      rcases (show c = 0 ∨ c = 1 ∨ c = 2 ∨ c = 3 by omega) with rfl | rfl | rfl | rfl
      · exact c0
      · exact c1
      · exact c2
      · exact c3
    · rw [if_neg e, hJ4n _ (by omega)]; exact wC0 m (by omega) c hc
theorem D_goes {s m : Nat} (hK : MK sg) (hW : SlW I s W np) (hs12 : s < 12) (hn : (wM W).1 ≤ 12) (hm : m < (wM W).1) (hp : np ≤ 5) : Ct m_X6_goes g [rf g 92, .int (nI s), .int (nI m)] sg I (fun r0 s0 J => r0 = none ∧ s0 = sg ∧ SlW J s (wT W, wK W, rmTB (wM W) m, wH W) np ∧ slF I J s) := by
  obtain ⟨m0, mR1, mR3, mR4, mR5, mR6, mR7, mR8, mR10, mR16, mR17, mA93, mA94, mA95, mA96, mA97, mA98, mA99, mA100, mA101, mA102⟩ := hK
  obtain ⟨wT0, wK0, wM0, wH0, wC0⟩ := hW
  refine Ct.of rfl (Nat.le_of_ble_eq_true rfl) fun X => ?_
  show V X _ sg I 0 [some (rf g 92), some (.int (nI s)), some (.int (nI m)), none] []
  obtain ⟨QQ, hQQ⟩ : ∃ QQ : Option Value → SG → IM → Prop, QQ = (fun r0 s0 J => r0 = none ∧ s0 = sg ∧ SlW J s (wT W, wK W, rmTB (wM W) m, wH W) np ∧ slF I J s) := ⟨_, rfl⟩
  rw [← hQQ]
  have loop : ∀ (d k : Nat) (J : IM), 4 * ((wM W).1 - 1) - k = d → 4 * m ≤ k → k ≤ 4 * ((wM W).1 - 1) → slF I J s → J 100 (56 * s + 2) = nI ((wM W).1 - 1) → J 100 (56 * s) = I 100 (56 * s) → J 100 (56 * s + 1) = I 100 (56 * s + 1) → (∀ i, i < np → J 100 (56 * s + 3 + i) = I 100 (56 * s + 3 + i)) → (∀ j, j < 4 * m → J 100 (56 * s + 8 + j) = I 100 (56 * s + 8 + j)) → (∀ j, 4 * m ≤ j → j < k → J 100 (56 * s + 8 + j) = I 100 (56 * s + 8 + j + 4)) → (∀ j, k ≤ j → j < 48 → J 100 (56 * s + 8 + j) = I 100 (56 * s + 8 + j)) → V X (ZQ X QQ) sg J 19 [some (rf g 92), some (.int (nI s)), some (.int (nI m)), some (.int (nI k))] [] := by
    intro d
    induction d with
    | zero =>
      intro k J hd hk1 hk2 hf j2 jT jK jH jlo jmid jhi
      have e : k = 4 * ((wM W).1 - 1) := by omega
      refine V_iload_n rfl dX6_goes_19 ?_
      refine V_iconst (nI 4) (by decide) dX6_goes_20 ?_
      refine V_aload_n rfl dX6_goes_21 ?_
      refine gf_X6_33 (by assumption) (by assumption) rfl dX6_goes_22 ?_
      refine V_bipush (nI 56) (by decide) dX6_goes_25 ?_
      refine V_iload_n rfl dX6_goes_27 ?_
      refine V_imulN dX6_goes_28 ?_
      refine V_iconst (nI 2) (by decide) dX6_goes_29 ?_
      refine V_iaddN dX6_goes_30 ?_
      refine V_iald _ (by assumption) rfl (by omega) (by omega) dX6_goes_31 ?_
      refine V_topi (j2) ?_
      refine V_imulN dX6_goes_32 ?_
      refine V_icmp_geN 72 dX6_goes_33 (by decide) (by omega) (by omega) (fun h33 => ?_) (fun h33 => absurd h33 (by omega))
      refine V_vret rfl rfl rfl ?_ dX6_goes_72
      rw [hQQ]
      refine ⟨rfl, rfl, ⟨jT.trans wT0, jK.trans wK0, j2, fun i hi => (jH i hi).trans (wH0 i hi), fun r hr c hc => ?_⟩, hf⟩
      have hr2 : r < (wM W).1 - 1 := hr
      show _ = nI (if r < m then (wM W).2 r c else (wM W).2 (r + 1) c)
      by_cases c1 : r < m
      · rw [if_pos c1, show 56 * s + 8 + 4 * r + c = 56 * s + 8 + (4 * r + c) by omega, jlo (4 * r + c) (by omega), ← wC0 r (by omega) c hc]
        exact congrArg (I 100) (by omega)
      · rw [if_neg c1, show 56 * s + 8 + 4 * r + c = 56 * s + 8 + (4 * r + c) by omega, jmid (4 * r + c) (by omega) (by omega), ← wC0 (r + 1) (by omega) c hc]
        exact congrArg (I 100) (by omega)
    | succ d ih =>
      intro k J hd hk1 hk2 hf j2 jT jK jH jlo jmid jhi
      have hv : J 100 (56 * s + 8 + k + 4) = I 100 (56 * s + 8 + k + 4) := jhi (k + 4) (by omega) (by omega)
      refine V_iload_n rfl dX6_goes_19 ?_
      refine V_iconst (nI 4) (by decide) dX6_goes_20 ?_
      refine V_aload_n rfl dX6_goes_21 ?_
      refine gf_X6_33 (by assumption) (by assumption) rfl dX6_goes_22 ?_
      refine V_bipush (nI 56) (by decide) dX6_goes_25 ?_
      refine V_iload_n rfl dX6_goes_27 ?_
      refine V_imulN dX6_goes_28 ?_
      refine V_iconst (nI 2) (by decide) dX6_goes_29 ?_
      refine V_iaddN dX6_goes_30 ?_
      refine V_iald _ (by assumption) rfl (by omega) (by omega) dX6_goes_31 ?_
      refine V_topi (j2) ?_
      refine V_imulN dX6_goes_32 ?_
      refine V_icmp_geN 72 dX6_goes_33 (by decide) (by omega) (by omega) (fun h33 => absurd h33 (by omega)) (fun h33 => ?_)
      refine V_aload_n rfl dX6_goes_36 ?_
      refine gf_X6_33 (by assumption) (by assumption) rfl dX6_goes_37 ?_
      refine V_bipush (nI 56) (by decide) dX6_goes_40 ?_
      refine V_iload_n rfl dX6_goes_42 ?_
      refine V_imulN dX6_goes_43 ?_
      refine V_bipush (nI 8) (by decide) dX6_goes_44 ?_
      refine V_iaddN dX6_goes_46 ?_
      refine V_iload_n rfl dX6_goes_47 ?_
      refine V_iaddN dX6_goes_48 ?_
      refine V_aload_n rfl dX6_goes_49 ?_
      refine gf_X6_33 (by assumption) (by assumption) rfl dX6_goes_50 ?_
      refine V_bipush (nI 56) (by decide) dX6_goes_53 ?_
      refine V_iload_n rfl dX6_goes_55 ?_
      refine V_imulN dX6_goes_56 ?_
      refine V_bipush (nI 8) (by decide) dX6_goes_57 ?_
      refine V_iaddN dX6_goes_59 ?_
      refine V_iload_n rfl dX6_goes_60 ?_
      refine V_iaddN dX6_goes_61 ?_
      refine V_iconst (nI 4) (by decide) dX6_goes_62 ?_
      refine V_iaddN dX6_goes_63 ?_
      refine V_iald _ (by assumption) rfl (by omega) (by omega) dX6_goes_64 ?_
      refine V_topi (hv) ?_
      refine V_iast _ (by assumption) rfl (by omega) (by omega) dX6_goes_65 ?_
      refine V_iinc3_ _ (nI_inc _) rfl rfl dX6_goes_66 ?_
      refine V_goto 19 dX6_goes_69 (by decide) ?_
      have hne : ∀ j, j ≠ 56 * s + 8 + k → (upI J 100 (56 * s + 8 + k) (I 100 (56 * s + 8 + k + 4))) 100 j = J 100 j := fun j hj => upI_ne (Or.inr hj)
      refine ih (k + 1) _ (by omega) (by omega) (by omega) (hf.trans (slF.up (by omega) (by omega))) ((hne _ (by omega)).trans j2) ((hne _ (by omega)).trans jT) ((hne _ (by omega)).trans jK) (fun i hi => (hne _ (by omega)).trans (jH i hi)) (fun j hj => (hne _ (by omega)).trans (jlo j hj)) (fun j h1 h2 => ?_) (fun j h1 h2 => (hne _ (by omega)).trans (jhi j (by omega) h2))
      by_cases c : j = k
      · rw [c]; exact upI_eq
      · exact (hne _ (by omega)).trans (jmid j h1 (by omega))
  refine V_aload_n rfl dX6_goes_0 ?_
  refine gf_X6_33 (by assumption) (by assumption) rfl dX6_goes_1 ?_
  refine V_bipush (nI 56) (by decide) dX6_goes_4 ?_
  refine V_iload_n rfl dX6_goes_6 ?_
  refine V_imulN dX6_goes_7 ?_
  refine V_iconst (nI 2) (by decide) dX6_goes_8 ?_
  refine V_iaddN dX6_goes_9 ?_
  refine V_dup2 rfl rfl dX6_goes_10 ?_
  refine V_iald _ (by assumption) rfl (by omega) (by omega) dX6_goes_11 ?_
  refine V_topi (wM0) ?_
  refine V_iconst (nI 1) (by decide) dX6_goes_12 ?_
  refine V_isubN (by omega) dX6_goes_13 ?_
  refine V_iast _ (by assumption) rfl (by omega) (by omega) dX6_goes_14 ?_
  refine V_iconst (nI 4) (by decide) dX6_goes_15 ?_
  refine V_iload_n rfl dX6_goes_16 ?_
  refine V_imulN dX6_goes_17 ?_
  refine V_ist3 rfl rfl dX6_goes_18 ?_
  have hne : ∀ j, j ≠ 56 * s + 2 → (upI I 100 (56 * s + 2) (nI ((wM W).1 - 1))) 100 j = I 100 j := fun j hj => upI_ne (Or.inr hj)
  exact loop _ (4 * m) _ rfl (Nat.le_refl _) (by omega) (slF.up (by omega) (by omega)) upI_eq (hne _ (by omega)) (hne _ (by omega)) (fun i hi => hne _ (by omega)) (fun j hj => hne _ (by omega)) (fun j h1 h2 => absurd h1 (by omega)) (fun j h1 h2 => hne _ (by omega))
theorem D_rests {s : Nat} (hK : MK sg) (hT : MTn I tv) (hok : TVok tv) (hW : SlW I s W (tP tv).1) (hs12 : s < 12) : Ct m_X6_rests g [rf g 92, .int (nI s)] sg I (fun r0 s0 J => r0 = none ∧ s0 = sg ∧ SlW J s (wT W, wK W, wM W, fun i => (tP tv).2 i 0) (tP tv).1 ∧ slF I J s) := by
  obtain ⟨m0, mR1, mR3, mR4, mR5, mR6, mR7, mR8, mR10, mR16, mR17, mA93, mA94, mA95, mA96, mA97, mA98, mA99, mA100, mA101, mA102⟩ := hK
  obtain ⟨mF, mnL, mnP, mnS, mnB, mL, mP, mS, mB, mWd, mnw⟩ := hT
  have hF1 := hok.1
  have hF8 := hok.2.1
  have h256 := p2_le8 hF8
  have h16 := p2_le16 hF8
  have nL10 := hok.2.2.2.2.2.2.2.1
  have nP5 := hok.2.2.2.2.2.2.2.2.1
  have nS5 := hok.2.2.2.2.2.2.2.2.2.1
  have nB6 := hok.2.2.2.2.2.2.2.2.2.2
  obtain ⟨wT0, wK0, wM0, wH0, wC0⟩ := hW
  refine Ct.of rfl (Nat.le_of_ble_eq_true rfl) fun X => ?_
  show V X _ sg I 0 [some (rf g 92), some (.int (nI s)), none] []
  obtain ⟨QQ, hQQ⟩ : ∃ QQ : Option Value → SG → IM → Prop, QQ = (fun r0 s0 J => r0 = none ∧ s0 = sg ∧ SlW J s (wT W, wK W, wM W, fun i => (tP tv).2 i 0) (tP tv).1 ∧ slF I J s) := ⟨_, rfl⟩
  rw [← hQQ]
  have loop : ∀ (d k : Nat) (J : IM), (tP tv).1 - k = d → k ≤ (tP tv).1 → slF I J s → (∀ j, (j < 56 * s + 3 ∨ 56 * s + 8 ≤ j) → J 100 j = I 100 j) → (∀ i, i < k → J 100 (56 * s + 3 + i) = nI ((tP tv).2 i 0)) → V X (ZQ X QQ) sg J 2 [some (rf g 92), some (.int (nI s)), some (.int (nI k))] [] := by
    intro d
    induction d with
    | zero =>
      intro k J hd hk hf h1 h2
      have e : k = (tP tv).1 := by omega
      subst e
      have hnP : J 94 2 = nI (tP tv).1 := by rw [hf.2 94 (by decide)]; exact mnP
      refine V_iload_n rfl dX6_rests_2 ?_
      refine V_aload_n rfl dX6_rests_3 ?_
      refine gf_X6_13 (by assumption) (by assumption) rfl dX6_rests_4 ?_
      refine V_iconst (nI 2) (by decide) dX6_rests_7 ?_
      refine V_iald _ (by assumption) rfl (by omega) (by omega) dX6_rests_8 ?_
      refine V_topi (hnP) ?_
      refine V_icmp_geN 39 dX6_rests_9 (by decide) (by omega) (by omega) (fun h9 => ?_) (fun h9 => absurd h9 (by omega))
      refine V_vret rfl rfl rfl ?_ dX6_rests_39
      rw [hQQ]
      exact ⟨rfl, rfl, ⟨(h1 _ (by omega)).trans wT0, (h1 _ (by omega)).trans wK0, (h1 _ (by omega)).trans wM0, h2, fun m hm c hc => (h1 _ (by omega)).trans (wC0 m hm c hc)⟩, hf⟩
    | succ d ih =>
      intro k J hd hk hf h1 h2
      have hkl : k < (tP tv).1 := by omega
      have hnP : J 94 2 = nI (tP tv).1 := by rw [hf.2 94 (by decide)]; exact mnP
      have hv : J 96 (2 * k) = nI ((tP tv).2 k 0) := by rw [hf.2 96 (by decide)]; exact mP k hkl 0 (by decide)
      refine V_iload_n rfl dX6_rests_2 ?_
      refine V_aload_n rfl dX6_rests_3 ?_
      refine gf_X6_13 (by assumption) (by assumption) rfl dX6_rests_4 ?_
      refine V_iconst (nI 2) (by decide) dX6_rests_7 ?_
      refine V_iald _ (by assumption) rfl (by omega) (by omega) dX6_rests_8 ?_
      refine V_topi (hnP) ?_
      refine V_icmp_geN 39 dX6_rests_9 (by decide) (by omega) (by omega) (fun h9 => absurd h9 (by omega)) (fun h9 => ?_)
      refine V_aload_n rfl dX6_rests_12 ?_
      refine gf_X6_33 (by assumption) (by assumption) rfl dX6_rests_13 ?_
      refine V_bipush (nI 56) (by decide) dX6_rests_16 ?_
      refine V_iload_n rfl dX6_rests_18 ?_
      refine V_imulN dX6_rests_19 ?_
      refine V_iconst (nI 3) (by decide) dX6_rests_20 ?_
      refine V_iaddN dX6_rests_21 ?_
      refine V_iload_n rfl dX6_rests_22 ?_
      refine V_iaddN dX6_rests_23 ?_
      refine V_aload_n rfl dX6_rests_24 ?_
      refine gf_X6_20 (by assumption) (by assumption) rfl dX6_rests_25 ?_
      refine V_iconst (nI 2) (by decide) dX6_rests_28 ?_
      refine V_iload_n rfl dX6_rests_29 ?_
      refine V_imulN dX6_rests_30 ?_
      refine V_iald _ (by assumption) rfl (by omega) (by omega) dX6_rests_31 ?_
      refine V_topi (hv) ?_
      refine V_iast _ (by assumption) rfl (by omega) (by omega) dX6_rests_32 ?_
      refine V_iinc2_ _ (nI_inc _) rfl rfl dX6_rests_33 ?_
      refine V_goto 2 dX6_rests_36 (by decide) ?_
      refine ih (k + 1) _ (by omega) (by omega) (hf.trans (slF.up (by omega) (by omega))) (fun j hj => (upI_ne (Or.inr (by omega))).trans (h1 j hj)) (fun i hi => ?_)
      by_cases c : i = k
      · rw [c]; exact upI_eq
      · exact (upI_ne (Or.inr (by omega))).trans (h2 i (by omega))
  refine V_iconst (nI 0) (by decide) dX6_rests_0 ?_
  refine V_ist2 rfl rfl dX6_rests_1 ?_
  exact loop (tP tv).1 0 I rfl (Nat.zero_le _) slF.refl (fun _ _ => rfl) (fun i hi => absurd hi (Nat.not_lt_zero i))
end MRING
