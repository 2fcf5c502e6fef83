/-! static methods, and Integer.bitCount -/
section STAT
variable {g : GC} {sg : SG} {I : IM}
theorem V_ldcw {mi : MI} {sg0 : SG} {X : Cx mi g sg0} {Z : State → Prop} {pc : Nat} {L : List (Option Value)} {st : List Value} {index : Nat} (own : String) (v : Int32) (ho : mi.1.cls = own) (hw : Cond.constant own index v ∈ gw) (hd : decode mi.2.1 pc = .ok (.ldc_w index, 3)) (kk : V X Z sg I (pc + 3) L (.int v :: st)) : V X Z sg I pc L st := fun a b H locs ls h1 h2 h3 => lv_ldcw (cx_exec X) (cx_bytes X) (own := own) (by rw [← ho]; exact cx_own X) (cx_hts X _ hw) hd (kk a b H locs ls h1 h2 h3)
section NR
variable {mi : MI} {sg0 : SG} {X : Cx mi g sg0} {Z : State → Prop} {pc : Nat} {L : List (Option Value)} {st : List Value} {a b : Nat}
theorem V_iaddN (hd : decode mi.2.1 pc = .ok (.iadd, 1)) (kk : V X Z sg I (pc + 1) L (.int (nI (a + b)) :: st)) : V X Z sg I pc L (.int (nI b) :: .int (nI a) :: st) := V_iadd hd (V_topi (nI_add a b) kk)
theorem V_imulN (hd : decode mi.2.1 pc = .ok (.imul, 1)) (kk : V X Z sg I (pc + 1) L (.int (nI (a * b)) :: st)) : V X Z sg I pc L (.int (nI b) :: .int (nI a) :: st) := V_imul hd (V_topi (nI_mul a b) kk)
theorem V_iandN (hd : decode mi.2.1 pc = .ok (.iand, 1)) (kk : V X Z sg I (pc + 1) L (.int (nI (a &&& b)) :: st)) : V X Z sg I pc L (.int (nI b) :: .int (nI a) :: st) := V_iand hd (V_topi (nI_and a b) kk)
theorem V_iorN (hd : decode mi.2.1 pc = .ok (.ior, 1)) (kk : V X Z sg I (pc + 1) L (.int (nI (a ||| b)) :: st)) : V X Z sg I pc L (.int (nI b) :: .int (nI a) :: st) := V_ior hd (V_topi (nI_or a b) kk)
theorem V_ixorN (hd : decode mi.2.1 pc = .ok (.ixor, 1)) (kk : V X Z sg I (pc + 1) L (.int (nI (a ^^^ b)) :: st)) : V X Z sg I pc L (.int (nI b) :: .int (nI a) :: st) := V_ixor hd (V_topi (nI_xor a b) kk)
theorem V_isubN (h : b ≤ a) (hd : decode mi.2.1 pc = .ok (.isub, 1)) (kk : V X Z sg I (pc + 1) L (.int (nI (a - b)) :: st)) : V X Z sg I pc L (.int (nI b) :: .int (nI a) :: st) := V_isub hd (V_topi (nI_subN h) kk)
theorem V_ishrN (h : a < 2147483648 ∧ b < 32) (hd : decode mi.2.1 pc = .ok (.ishr, 1)) (kk : V X Z sg I (pc + 1) L (.int (nI (a / 2 ^ b)) :: st)) : V X Z sg I pc L (.int (nI b) :: .int (nI a) :: st) := V_ishr hd (V_topi (nI_shr h.1 h.2) kk)
theorem V_ishl1N (h : b < 31) (hd : decode mi.2.1 pc = .ok (.ishl, 1)) (kk : V X Z sg I (pc + 1) L (.int (nI (2 ^ b)) :: st)) : V X Z sg I pc L (.int (nI b) :: .int (nI 1) :: st) := V_ishl hd (V_topi (nI_shl1 h) kk)
theorem V_iand1N (hd : decode mi.2.1 pc = .ok (.iand, 1)) (kk : V X Z sg I (pc + 1) L (.int (nI (a % 2)) :: st)) : V X Z sg I pc L (.int (nI 1) :: .int (nI a) :: st) := V_iand hd (V_topi (nI_and1 a) kk)
theorem V_same {L' : List (Option Value)} (h : L = L') (kk : V X Z sg I pc L' st) : V X Z sg I pc L st := h ▸ kk
end NR
theorem C_isSo {v s : Nat} (hv : v < 62) (hs : s < 2147483648) : Fn m_X5_isSo g [.int (nI v), .int (nI s)] sg I (some (.int (bI (so v s = true)))) sg I := by
  refine Ct.of rfl (Nat.le_of_ble_eq_true rfl) fun X => ?_
  show V X _ sg I 0 [some (.int (nI v)), some (.int (nI s))] []
  refine V_iload_n rfl dX5_isSo_0 ?_
  refine V_iload_n rfl dX5_isSo_1 ?_
  refine V_iconst (nI 1) (by decide) dX5_isSo_2 ?_
  refine V_ishr dX5_isSo_3 ?_
  refine V_ishr dX5_isSo_4 ?_
  refine V_iload_n rfl dX5_isSo_5 ?_
  refine V_ixor dX5_isSo_6 ?_
  refine V_iconst (nI 1) (by decide) dX5_isSo_7 ?_
  refine V_iand dX5_isSo_8 ?_
  rw [so_cls hv hs]
  refine V_iconst (nI 1) (by decide) dX5_isSo_9 ?_
  refine V_icmp_ne 17 dX5_isSo_10 (by decide) (fun h10 => ?_) (fun h10 => ?_)
  · skip
    refine V_iconst (nI 0) (by decide) dX5_isSo_17 ?_
    refine V_zret rfl (rfl) rfl rfl ?_ dX5_isSo_18
    exact ⟨by first | rw [bI_t (bI_eq1.mp h10)] | rw [bI_f (fun z => h10 (bI_eq1.mpr z))], rfl, rfl⟩
  · skip
    refine V_iconst (nI 1) (by decide) dX5_isSo_13 ?_
    refine V_goto 18 dX5_isSo_14 (by decide) ?_
    refine V_zret rfl (rfl) rfl rfl ?_ dX5_isSo_18
    exact ⟨by first | rw [bI_t (bI_eq1.mp h10)] | rw [bI_f (fun z => h10 (bI_eq1.mpr z))], rfl, rfl⟩
theorem C_trueSaying {f s : Nat} (hv : f < 31) (hs : s < 2147483648) : Fn m_X5_trueSaying g [.int (nI f), .int (nI s)] sg I (some (.int (nI (tsy f s)))) sg I := by
  refine Ct.of rfl (Nat.le_of_ble_eq_true rfl) fun X => ?_
  show V X _ sg I 0 [some (.int (nI f)), some (.int (nI s))] []
  have e := so_even f s
  refine V_iconst (nI 2) (by decide) dX5_trueSaying_0 ?_
  refine V_iload_n rfl dX5_trueSaying_1 ?_
  refine V_imulN dX5_trueSaying_2 ?_
  refine V_iload_n rfl dX5_trueSaying_3 ?_
  refine cf_X5_128 (C_isSo (by omega) hs) rfl rfl ft0 (Nat.le_of_ble_eq_true rfl) dX5_trueSaying_4 ?_
  refine V_if_eqB 16 dX5_trueSaying_7 (by decide) (fun h7 => ?_) (fun h7 => ?_)
  · skip
    rw [e] at h7
    refine V_iconst (nI 2) (by decide) dX5_trueSaying_16 ?_
    refine V_iload_n rfl dX5_trueSaying_17 ?_
    refine V_imulN dX5_trueSaying_18 ?_
    refine V_iconst (nI 1) (by decide) dX5_trueSaying_19 ?_
    refine V_iaddN dX5_trueSaying_20 ?_
    refine V_iret rfl rfl rfl ?_ dX5_trueSaying_21
    exact ⟨by unfold tsy; first | rw [if_pos h7] | rw [if_neg h7], rfl, rfl⟩
  · skip
    rw [e] at h7
    refine V_iconst (nI 2) (by decide) dX5_trueSaying_10 ?_
    refine V_iload_n rfl dX5_trueSaying_11 ?_
    refine V_imulN dX5_trueSaying_12 ?_
    refine V_goto 21 dX5_trueSaying_13 (by decide) ?_
    refine V_iret rfl rfl rfl ?_ dX5_trueSaying_21
    exact ⟨by unfold tsy; first | rw [if_pos h7] | rw [if_neg h7], rfl, rfl⟩
theorem C_opposite {v : Nat} : Fn m_X5_opposite g [.int (nI v)] sg I (some (.int (nI (v ^^^ 1)))) sg I := by
  refine Ct.of rfl (Nat.le_of_ble_eq_true rfl) fun X => ?_
  show V X _ sg I 0 [some (.int (nI v))] []
  refine V_iload_n rfl dX5_opposite_0 ?_
  refine V_iconst (nI 1) (by decide) dX5_opposite_1 ?_
  refine V_ixor dX5_opposite_2 ?_
  rw [nI_xor]
  refine V_iret rfl rfl rfl ?_ dX5_opposite_3
  exact ⟨rfl, rfl, rfl⟩
theorem C_isRule {h : Int32} : Fn m_X5_isRule g [.int h] sg I (some (.int (bI (h = nI 1 ∨ h = nI 2)))) sg I := by
  refine Ct.of rfl (Nat.le_of_ble_eq_true rfl) fun X => ?_
  show V X _ sg I 0 [some (.int h)] []
  refine V_iload_n rfl dX5_isRule_0 ?_
  refine V_iconst (nI 1) (by decide) dX5_isRule_1 ?_
  refine V_icmp_eq 10 dX5_isRule_2 (by decide) (fun h2 => ?_) (fun h2 => ?_)
  · skip
    refine V_iconst (nI 1) (by decide) dX5_isRule_10 ?_
    refine V_goto 15 dX5_isRule_11 (by decide) ?_
    refine V_zret rfl (rfl) rfl rfl ?_ dX5_isRule_15
    exact ⟨by first | rw [bI_t (Or.inl h2)] | rw [bI_t (Or.inr h7)] | rw [bI_f (fun z => z.elim h2 h7)], rfl, rfl⟩
  · skip
    refine V_iload_n rfl dX5_isRule_5 ?_
    refine V_iconst (nI 2) (by decide) dX5_isRule_6 ?_
    refine V_icmp_ne 14 dX5_isRule_7 (by decide) (fun h7 => ?_) (fun h7 => ?_)
    · skip
      refine V_iconst (nI 0) (by decide) dX5_isRule_14 ?_
      refine V_zret rfl (rfl) rfl rfl ?_ dX5_isRule_15
      exact ⟨by first | rw [bI_t (Or.inl h2)] | rw [bI_t (Or.inr h7)] | rw [bI_f (fun z => z.elim h2 h7)], rfl, rfl⟩
    · skip
      refine V_iconst (nI 1) (by decide) dX5_isRule_10 ?_
      refine V_goto 15 dX5_isRule_11 (by decide) ?_
      refine V_zret rfl (rfl) rfl rfl ?_ dX5_isRule_15
      exact ⟨by first | rw [bI_t (Or.inl h2)] | rw [bI_t (Or.inr h7)] | rw [bI_f (fun z => z.elim h2 h7)], rfl, rfl⟩
theorem C_bitCount {n : Nat} (hn : n < 65536) : Fn m_J6_bitCount_0f7a4 g [.int (nI n)] sg I (some (.int (nI (pc16 n)))) sg I := by
  refine Ct.of rfl (Nat.le_of_ble_eq_true rfl) fun X => ?_
  show V X _ sg I 0 [some (.int (nI n))] []
  rw [← bc_eq hn]
  have a0 : (n / 2 ^ 1 &&& 1431655765) ≤ n := Nat.le_trans Nat.and_le_left (Nat.div_le_self _ _)
  obtain ⟨a, ha⟩ : ∃ a, a = n - ((n / 2 ^ 1) &&& 1431655765) := ⟨_, rfl⟩
  have ha1 : a < 65536 := by omega
  obtain ⟨b, hb⟩ : ∃ b, b = (a &&& 858993459) + ((a / 2 ^ 2) &&& 858993459) := ⟨_, rfl⟩
  have b0 : (a &&& 858993459) ≤ a := Nat.and_le_left
  have b1 : ((a / 2 ^ 2) &&& 858993459) ≤ a / 2 ^ 2 := Nat.and_le_left
  have hb1 : b < 131072 := by omega
  obtain ⟨c, hc⟩ : ∃ c, c = (b + b / 2 ^ 4) &&& 252645135 := ⟨_, rfl⟩
  have c0 : ((b + b / 2 ^ 4) &&& 252645135) ≤ b + b / 2 ^ 4 := Nat.and_le_left
  have hc1 : c < 262144 := by omega
  obtain ⟨d, hd⟩ : ∃ d, d = c + c / 2 ^ 8 := ⟨_, rfl⟩
  have hd1 : d < 524288 := by omega
  have hbc : bcN n = (d + d / 2 ^ 16) &&& 63 := by rw [hd, hc, hb, ha]; rfl
  rw [hbc]
  have k1 : (1431655765 : Int32) = nI 1431655765 := by decide
  have k2 : (858993459 : Int32) = nI 858993459 := by decide
  have k3 : (252645135 : Int32) = nI 252645135 := by decide
  refine V_iload_n rfl dJ6_bitCount_0f7a4_0 ?_
  refine V_iload_n rfl dJ6_bitCount_0f7a4_1 ?_
  refine V_iconst (nI 1) (by decide) dJ6_bitCount_0f7a4_2 ?_
  refine V_iushr dJ6_bitCount_0f7a4_3 ?_
  rw [nI_ushr (by omega) (by decide)]
  refine V_ldcw RJ6 _ rfl wk_J6_265 dJ6_bitCount_0f7a4_4 ?_
  rw [k1]
  refine V_iand dJ6_bitCount_0f7a4_7 ?_
  rw [nI_and]
  refine V_isub dJ6_bitCount_0f7a4_8 ?_
  rw [nI_subN a0, ← ha]
  refine V_ist0 rfl dJ6_bitCount_0f7a4_9 ?_
  refine V_iload_n rfl dJ6_bitCount_0f7a4_10 ?_
  refine V_ldcw RJ6 _ rfl wk_J6_266 dJ6_bitCount_0f7a4_11 ?_
  rw [k2]
  refine V_iand dJ6_bitCount_0f7a4_14 ?_
  rw [nI_and]
  refine V_iload_n rfl dJ6_bitCount_0f7a4_15 ?_
  refine V_iconst (nI 2) (by decide) dJ6_bitCount_0f7a4_16 ?_
  refine V_iushr dJ6_bitCount_0f7a4_17 ?_
  rw [nI_ushr (by omega) (by decide)]
  refine V_ldcw RJ6 _ rfl wk_J6_266 dJ6_bitCount_0f7a4_18 ?_
  rw [k2]
  refine V_iand dJ6_bitCount_0f7a4_21 ?_
  rw [nI_and]
  refine V_iadd dJ6_bitCount_0f7a4_22 ?_
  rw [nI_add, ← hb]
  refine V_ist0 rfl dJ6_bitCount_0f7a4_23 ?_
  refine V_iload_n rfl dJ6_bitCount_0f7a4_24 ?_
  refine V_iload_n rfl dJ6_bitCount_0f7a4_25 ?_
  refine V_iconst (nI 4) (by decide) dJ6_bitCount_0f7a4_26 ?_
  refine V_iushr dJ6_bitCount_0f7a4_27 ?_
  rw [nI_ushr (by omega) (by decide)]
  refine V_iadd dJ6_bitCount_0f7a4_28 ?_
  rw [nI_add]
  refine V_ldcw RJ6 _ rfl wk_J6_267 dJ6_bitCount_0f7a4_29 ?_
  rw [k3]
  refine V_iand dJ6_bitCount_0f7a4_32 ?_
  rw [nI_and, ← hc]
  refine V_ist0 rfl dJ6_bitCount_0f7a4_33 ?_
  refine V_iload_n rfl dJ6_bitCount_0f7a4_34 ?_
  refine V_iload_n rfl dJ6_bitCount_0f7a4_35 ?_
  refine V_bipush (nI 8) (by decide) dJ6_bitCount_0f7a4_36 ?_
  refine V_iushr dJ6_bitCount_0f7a4_38 ?_
  rw [nI_ushr (by omega) (by decide)]
  refine V_iadd dJ6_bitCount_0f7a4_39 ?_
  rw [nI_add, ← hd]
  refine V_ist0 rfl dJ6_bitCount_0f7a4_40 ?_
  refine V_iload_n rfl dJ6_bitCount_0f7a4_41 ?_
  refine V_iload_n rfl dJ6_bitCount_0f7a4_42 ?_
  refine V_bipush (nI 16) (by decide) dJ6_bitCount_0f7a4_43 ?_
  refine V_iushr dJ6_bitCount_0f7a4_45 ?_
  rw [nI_ushr (by omega) (by decide)]
  refine V_iadd dJ6_bitCount_0f7a4_46 ?_
  rw [nI_add]
  refine V_ist0 rfl dJ6_bitCount_0f7a4_47 ?_
  refine V_iload_n rfl dJ6_bitCount_0f7a4_48 ?_
  refine V_bipush (nI 63) (by decide) dJ6_bitCount_0f7a4_49 ?_
  refine V_iand dJ6_bitCount_0f7a4_51 ?_
  rw [nI_and]
  refine V_iret rfl rfl rfl ?_ dJ6_bitCount_0f7a4_52
  exact ⟨rfl, rfl, rfl⟩
end STAT
