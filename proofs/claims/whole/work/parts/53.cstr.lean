/-! String: the first text, its length, its letters -/
def frA (g : GC) : Nat → Prop := fun q => g.2.2.2 ≤ q
def fsT : List Nat := [102, 51, 59, 105, 48, 44, 50, 59, 105, 52, 44, 49, 59, 100, 48, 59, 100, 49, 59, 112, 50, 48, 44, 49, 59, 112, 57, 44, 53, 59, 115, 51, 44, 52, 44, 48, 59, 115, 50, 44, 50, 44, 49, 59]
def fsS : String := "f3;i0,2;i4,1;d0;d1;p20,1;p9,5;s3,4,0;s2,2,1;"
theorem fs_small : ∀ i, i < 44 → 32 ≤ fsT.getD i 0 ∧ fsT.getD i 0 ≤ 126 := by decide +kernel
def SW (g : GC) (ak av : Nat) (U : State) : Prop := vk_R RX5 48 fsS ak U ∧ va_O RJ0 ak (frA g) U U.heap ∧ va_OF RJ0 "coder" "B" (.int 0) ak (frA g) U U.heap ∧ va_OF RJ0 "value" "[B" (.ref av) ak (frA g) U U.heap ∧ va_T .byte av 44 (fun j => .int (nI (fsT.getD j 0))) (frA g) U U.heap ∧ va_Z RJ0 "COMPACT_STRINGS" "Z" (.int 1) (frA g) U U.heap ∧ va_Zq "jdk/internal/util/Preconditions" "SIOOBE_FORMATTER" "Ljava/util/function/BiFunction;" (frA g) U U.heap
section CSTRS
variable {mi : MI} {g : GC} {sg0 : SG} {X : Cx mi g sg0} {Z : State → Prop} {sg : SG} {I : IM} {pc : Nat} {L : List (Option Value)} {st : List Value} {ak av : Nat}
theorem SW_at {H : Heap} {locs : List Loc} (hS : SW g ak av X.1.2.2.1) (h2 : va_S (fun q => g.2.2.2 ≤ q) X.1.2.2.1.heap H locs) (U : State) (hU : U.heap = H) (hW : X.1.2.2.1.WarmedH U.vm) : SW g ak av U := by
  obtain ⟨a, b, c, d, e, f, k⟩ := hS
  unfold SW
  rw [hU]
  exact ⟨a.warm hW, (b.kept h2.2.1).moved hW.alike, (c.kept h2.2.1).moved hW.alike, (d.kept h2.2.1).moved hW.alike, (e.kept h2.2.1).moved hW.alike, (f.kept h2.2.1).moved hW.alike, (k.kept h2.2.1).moved hW.alike⟩
def CtS (mi : MI) (g : GC) (ak av : Nat) (as : List Value) (sg : SG) (I : IM) (Q : Option Value → SG → IM → Prop) : Prop :=
  Met g.1 mi.1 (mws mi) (mrm mi) (fun v U => v = as.toArray ∧ Wd g sg I U ∧ SW g ak av U) (QCt g mi sg Q) mi.2.2.2.2.2.1 mi.2.2.2.2.2.2 (fun q => g.2.2.2 ≤ q)
theorem CtS.of {as : List Value} {Q : Option Value → SG → IM → Prop} (hy : plainName mi.1.cls = true) (hlen : (lg_sl as).length ≤ mi.2.2.1)
    (h : ∀ X : Cx mi g sg, SW g ak av X.1.2.2.1 → V X (ZQ X Q) sg I 0 (entL as ++ List.replicate (mi.2.2.1 - (lg_sl as).length) none) []) : CtS mi g ak av as sg I Q := by
  refine Met.ofW (cc := mi.2.1) (maxL := mi.2.2.1) (ret := mi.2.2.2.1) hy rfl ?_
  intro p e s m args below meth c s₁ B hml hv
  obtain ⟨rfl, ⟨hH, hK, hN⟩, hSW⟩ := hv
  have hts := atoms_spec (ws := mws mi) B.pre
  have X : Fix mi g sg (p, e, s, m, as.toArray, below, meth, c, mrm mi) := ⟨B.exec, B.bytes, hml, B.returns, findClass_of_methodNamed B.named, fun w hw => hts w (List.mem_cons_of_mem _ hw), hK, hN, B.notSynchronized, (name_of_methodNamed B.named B.method).1, hH.1, rfl⟩
  have hl := lv_entry as (n := mi.2.2.1) hlen
  rw [lg_entry_eq]
  have h2 := h ⟨_, X⟩ hSW (Nat.le_refl _) (Nat.le_refl _) s.heap [] _ hH va_S.rf (LH_of (L := entL as ++ List.replicate (mi.2.2.1 - (lg_sl as).length) none) hl fun i v hi => by
    have h3 : (entL as)[i]? = some (some v) := by
      by_cases hlt : i < (entL as).length
      · rwa [List.getElem?_append_left hlt] at hi
      · rw [List.getElem?_append_right (by omega)] at hi
        have := List.mem_of_getElem? hi
        rw [List.mem_replicate] at this
        cases this.2
    have := entL_mem as 0 i v h3
    rwa [Nat.zero_add] at this)
  rw [Nat.sub_self, Nat.sub_self] at h2
  exact h2
theorem CtS_blind {as : List Value} : FrameBlind (fun v U => v = as.toArray ∧ Wd g sg I U ∧ SW g ak av U) := by
  intro a U fr mk h
  obtain ⟨h1, h2, ⟨a1, b, c, d, e, f, k⟩⟩ := h
  have hA := Vm.Alike.refl U.vm
  exact ⟨h1, (Ct_blind (g := g) (sg := sg) (I := I) (av := as) a U fr mk ⟨h1, h2⟩).2, vk_R.same (u := U) (U := U.calling fr mk a) rfl a1, va_O.moved (u := U) (U := U.calling fr mk a) hA b, va_OF.moved (u := U) (U := U.calling fr mk a) hA c, va_OF.moved (u := U) (U := U.calling fr mk a) hA d, va_T.moved (u := U) (U := U.calling fr mk a) hA e, va_Z.moved (u := U) (U := U.calling fr mk a) hA f, va_Zq.moved (u := U) (U := U.calling fr mk a) hA k⟩
theorem V_callVs {mi' : MI} {Q : Option Value → SG → IM → Prop} {idx : Nat} {As st1 : List Value} (hSW : SW g ak av X.1.2.2.1) (hM : CtS mi' g ak av (.ref ak :: As) sg I Q) (hcl : mi'.1.cls = RJ0)
    (hl : Cond.methodLink mi.1.cls idx mi'.1 ∈ gw) (hin : Cond.instanceMethod mi'.1 ∈ gw) (hse : Cond.selects mi'.1.cls mi'.1 mi'.1 ∈ gw) (hini : Cond.initialized mi'.1.cls ∈ gw) (hco : Cond.code mi'.1 mi'.2.1 mi'.2.2.1 mi'.2.2.2.1 ∈ gw) (hn : okn mi'.1 As.length) (hR : rmok mi' mi = true)
    (hfit : sg.1 - sg0.1 + mi'.2.2.2.2.2.1 ≤ mi.2.2.2.2.2.1 ∧ sg.2.1 - sg0.2.1 + mi'.2.2.2.2.2.2 ≤ mi.2.2.2.2.2.2) (hst : (st.map fun v => v.category).sum ≤ 8) (hd : decode mi.2.1 pc = .ok (.invokevirtual idx, 3)) (hs1 : st1 = As.reverse ++ .ref ak :: st)
    (kk : ∀ r sg' I', Q r sg' I' → V X Z sg' I' (pc + 3) L (r.toList ++ st)) : V X Z sg I pc L st1 := by
  subst hs1
  intro a b H locs ls h1 h2 h3
  obtain ⟨cell, q1, q2, q3, -⟩ := hSW.2.1.kept h2.2.1
  have hRm := cx_room X
  refine V_back h1 h2 h3 a b rfl (va_runV (As := As) (bytes := mi'.2.1) (maxL := mi'.2.2.1) (ret := mi'.2.2.2.1) ⟨cx_exec X, cx_bytes X, cx_maxL X, cx_own X, cx_hts X⟩ hM (C := mi'.1.cls) ?_ ⟨CtS_blind, ⟨cell, q1, q2, by rw [hcl]; exact q3⟩, fun U hU hW => ⟨rfl, Wd_at X h1 U hU hW, SW_at hSW h2 U hU hW⟩⟩ rfl rfl h3.1 rfl (lv_room hst) hd (by rw [hRm]; exact hfit)) kk
  exact cwV As.length (cx_hts X) (gw_good fun w hw => by
    unfold wsV at hw
    rcases List.mem_append.mp hw with hw | hw
    · simp only [List.mem_cons, List.not_mem_nil, or_false] at hw
      rcases hw with rfl | rfl | rfl | rfl
      · exact hl
      · exact hin
      · exact hse
      · exact hini
    · exact (mws_good hco w hw).1) rfl rfl rfl ⟨rfl, hn⟩ ⟨by rw [hRm]; exact rmok_fr hR, by rw [hRm]; exact rmok_lo hR⟩
theorem V_callSs {mi' : MI} {Q : Option Value → SG → IM → Prop} {idx : Nat} {As st1 : List Value} (hSW : SW g ak av X.1.2.2.1) (hM : CtS mi' g ak av As sg I Q)
    (hl : Cond.methodLink mi.1.cls idx mi'.1 ∈ gw) (hin : Cond.static mi'.1 ∈ gw) (hini : Cond.initialized mi'.1.cls ∈ gw) (hco : Cond.code mi'.1 mi'.2.1 mi'.2.2.1 mi'.2.2.2.1 ∈ gw) (hn : okn mi'.1 As.length) (hR : rmok mi' mi = true)
    (hfit : sg.1 - sg0.1 + mi'.2.2.2.2.2.1 ≤ mi.2.2.2.2.2.1 ∧ sg.2.1 - sg0.2.1 + mi'.2.2.2.2.2.2 ≤ mi.2.2.2.2.2.2) (hst : (st.map fun v => v.category).sum ≤ 8) (hd : decode mi.2.1 pc = .ok (.invokestatic idx, 3)) (hs1 : st1 = As.reverse ++ st)
    (kk : ∀ r sg' I', Q r sg' I' → V X Z sg' I' (pc + 3) L (r.toList ++ st)) : V X Z sg I pc L st1 := by
  subst hs1
  intro a b H locs ls h1 h2 h3
  have hRm := cx_room X
  refine V_back h1 h2 h3 a b rfl (va_runS (As := As) (bytes := mi'.2.1) (maxL := mi'.2.2.1) (ret := mi'.2.2.2.1) ⟨cx_exec X, cx_bytes X, cx_maxL X, cx_own X, cx_hts X⟩ hM ?_ ⟨CtS_blind, fun U hU hW => ⟨rfl, Wd_at X h1 U hU hW, SW_at hSW h2 U hU hW⟩⟩ rfl rfl h3.1 rfl (lv_room hst) hd (by rw [hRm]; exact hfit)) kk
  exact ⟨callB_of As.length (cx_hts X) (mws_good hco) rfl rfl rfl (cx_hts X _ hini) (cx_hts X _ hl) hn ⟨by rw [hRm]; exact rmok_fr hR, by rw [hRm]; exact rmok_lo hR⟩, cx_hts X _ hin⟩
theorem V_ldcS (hSW : SW g ak av X.1.2.2.1) (ho : mi.1.cls = RX5) (hd : decode mi.2.1 pc = .ok (.ldc 48, 2)) (kk : V X Z sg I (pc + 2) L (.ref ak :: st)) : V X Z sg I pc L st := fun a b H locs ls h1 h2 h3 => va_ldcS (cx_exec X) (cx_bytes X) (own := RX5) (by rw [← ho]; exact cx_own X) hSW.1 hd (kk a b H locs ls h1 h2 h3)
theorem V_gets {C n d : String} {v : Value} {idx : Nat} (hZ : va_Z C n d v (frA g) X.1.2.2.1 X.1.2.2.1.heap) (hl : Cond.fieldLink mi.1.cls idx C n d ∈ gw) (hd : decode mi.2.1 pc = .ok (.getstatic idx, 3)) (kk : V X Z sg I (pc + 3) L (v :: st)) : V X Z sg I pc L st := fun a b H locs ls h1 h2 h3 => va_gets (cx_exec X) (cx_bytes X) hZ h2 (cx_own X) (cx_hts X _ hl) (fun _ h => h) hd (kk a b H locs ls h1 h2 h3)
theorem V_getO {n d : String} {v : Value} {idx : Nat} (hO : va_OF RJ0 n d v ak (frA g) X.1.2.2.1 X.1.2.2.1.heap) (hl : Cond.fieldLink mi.1.cls idx RJ0 n d ∈ gw) (hd : decode mi.2.1 pc = .ok (.getfield idx, 3)) (kk : V X Z sg I (pc + 3) L (v :: st)) : V X Z sg I pc L (.ref ak :: st) := fun a b H locs ls h1 h2 h3 => va_getX (cx_exec X) (cx_bytes X) (N := 1) (v := fun _ => v) (ad := fun _ => ak) (i := 0) (fun _ _ => hO) (by decide) h2 (cx_own X) (cx_hts X _ hl) (fun _ h => h) hd (kk a b H locs ls h1 h2 h3)
theorem V_slen (hSW : SW g ak av X.1.2.2.1) (hd : decode mi.2.1 pc = .ok (.arraylength, 1)) (kk : V X Z sg I (pc + 1) L (.int (nI 44) :: st)) : V X Z sg I pc L (.ref av :: st) := fun a b H locs ls h1 h2 h3 => va_tlen (cx_exec X) (cx_bytes X) hSW.2.2.2.2.1 h2 (v := nI 44) (by decide) hd (kk a b H locs ls h1 h2 h3)
theorem V_sbald {i : Nat} (hi : i < 44) (hSW : SW g ak av X.1.2.2.1) (hd : decode mi.2.1 pc = .ok (.baload, 1)) (kk : V X Z sg I (pc + 1) L (.int (nI (fsT.getD i 0)) :: st)) : V X Z sg I pc L (.int (nI i) :: .ref av :: st) := fun a b H locs ls h1 h2 h3 => va_tb (cx_exec X) (cx_bytes X) hSW.2.2.2.2.1 h2 (i := nI i) (v := .int (nI (fsT.getD i 0))) (vp_in_nI hi (by decide)) (by show Value.int (nI (fsT.getD (nI i).toNatClampNeg 0)) = _; rw [nI_clamp (by omega)]) hd (kk a b H locs ls h1 h2 h3)
theorem V_i2c {x v : Int32} (hv : (x.toUInt32 % 65536).toInt32 = v) (hd : decode mi.2.1 pc = .ok (.i2c, 1)) (kk : V X Z sg I (pc + 1) L (.int v :: st)) : V X Z sg I pc L (.int x :: st) := fun a b H locs ls h1 h2 h3 => lv_i2c (cx_exec X) (cx_bytes X) hd hv (kk a b H locs ls h1 h2 h3)
end CSTRS
section CSTRM
variable {g : GC} {sg : SG} {I : IM} {ak av : Nat}
theorem S_coder : CtS m_J0_coder_7d493 g ak av [.ref ak] sg I (fun r0 s0 J => r0 = some (.int (nI 0)) ∧ s0 = sg ∧ J = I) := by
  refine CtS.of rfl (Nat.le_of_ble_eq_true rfl) fun X hSW => ?_
  show V X _ sg I 0 [some (.ref ak)] []
  refine V_gets hSW.2.2.2.2.2.1 wf_J0_38 dJ0_coder_7d493_0 ?_
  refine V_if_eq 13 dJ0_coder_7d493_3 (by decide) (fun h => absurd h (by decide)) (fun _ => ?_)
  refine V_aload_n rfl dJ0_coder_7d493_6 ?_
  refine V_getO hSW.2.2.1 wf_J0_15 dJ0_coder_7d493_7 ?_
  refine V_goto 14 dJ0_coder_7d493_10 (by decide) ?_
  exact V_zret rfl (by decide) rfl rfl ⟨rfl, rfl, rfl⟩ dJ0_coder_7d493_14
theorem S_isLatin1 : CtS m_J0_isLatin1_aae02 g ak av [.ref ak] sg I (fun r0 s0 J => r0 = some (.int (nI 1)) ∧ s0 = sg ∧ J = I) := by
  refine CtS.of rfl (Nat.le_of_ble_eq_true rfl) fun X hSW => ?_
  show V X _ sg I 0 [some (.ref ak)] []
  refine V_gets hSW.2.2.2.2.2.1 wf_J0_38 dJ0_isLatin1_aae02_0 ?_
  refine V_if_eq 17 dJ0_isLatin1_aae02_3 (by decide) (fun h => absurd h (by decide)) (fun _ => ?_)
  refine V_aload_n rfl dJ0_isLatin1_aae02_6 ?_
  refine V_getO hSW.2.2.1 wf_J0_15 dJ0_isLatin1_aae02_7 ?_
  refine V_if_ne 17 dJ0_isLatin1_aae02_10 (by decide) (fun h => absurd rfl h) (fun _ => ?_)
  refine V_iconst (nI 1) (by decide) dJ0_isLatin1_aae02_13 ?_
  refine V_goto 18 dJ0_isLatin1_aae02_14 (by decide) ?_
  exact V_zret rfl (by decide) rfl rfl ⟨rfl, rfl, rfl⟩ dJ0_isLatin1_aae02_18
theorem S_length : CtS m_J0_length_8abf5 g ak av [.ref ak] sg I (fun r0 s0 J => r0 = some (.int (nI 44)) ∧ s0 = sg ∧ J = I) := by
  refine CtS.of rfl (Nat.le_of_ble_eq_true rfl) fun X hSW => ?_
  show V X _ sg I 0 [some (.ref ak)] []
  refine V_aload_n rfl dJ0_length_8abf5_0 ?_
  refine V_getO hSW.2.2.2.1 wf_J0_9 dJ0_length_8abf5_1 ?_
  refine V_slen hSW dJ0_length_8abf5_4 ?_
  refine V_aload_n rfl dJ0_length_8abf5_5 ?_
  refine V_callVs (As := []) hSW S_coder rfl wl_J0_335 ws_J0_coder_7d493 we_J0_coder_7d493 wi_J0 wc_J0_coder_7d493 wn_J0_coder_7d493 rfl ft0 (Nat.le_of_ble_eq_true rfl) dJ0_length_8abf5_6 rfl (fun r s1 I1 h => ?_)
  obtain ⟨rfl, rfl, rfl⟩ := h
  show V X _ s1 I1 9 _ [.int (nI 0), .int (nI 44)]
  refine V_ishr dJ0_length_8abf5_9 ?_
  rw [show nI 44 >>> (nI 0 &&& 31) = nI 44 by decide]
  exact V_iret rfl rfl rfl ⟨rfl, rfl, rfl⟩ dJ0_length_8abf5_10
theorem S_check3 {i n : Nat} {v : Value} (hv : v = .null ∨ ∃ t, v = .ref t) (hi : i < n) (hn : n < 2147483648) : Fn m_J3_checkIndex_8e157 g [.int (nI i), .int (nI n), v] sg I (some (.int (nI i))) sg I := by
  refine Ct.of rfl (by rcases hv with rfl | ⟨t, rfl⟩ <;> exact Nat.le_of_ble_eq_true rfl) fun X => ?_
  have he : entL [.int (nI i), .int (nI n), v] ++ List.replicate (m_J3_checkIndex_8e157.2.2.1 - (lg_sl [.int (nI i), .int (nI n), v]).length) none = [some (.int (nI i)), some (.int (nI n)), some v] := by
    rcases hv with rfl | ⟨t, rfl⟩ <;> rfl
  rw [he]
  refine V_iload_n rfl dJ3_checkIndex_8e157_0 ?_
  refine V_if_ltN 9 dJ3_checkIndex_8e157_1 (by decide) (by omega) ?_
  refine V_iload_n rfl dJ3_checkIndex_8e157_4 ?_
  refine V_iload_n rfl dJ3_checkIndex_8e157_5 ?_
  refine V_icmp_ltN 16 dJ3_checkIndex_8e157_6 (by decide) (by omega) (by omega) (fun _ => ?_) (fun h => absurd h (by omega))
  refine V_iload_n rfl dJ3_checkIndex_8e157_16 ?_
  exact V_iret rfl rfl rfl ⟨rfl, rfl, rfl⟩ dJ3_checkIndex_8e157_17
theorem S_check {i n : Nat} (hi : i < n) (hn : n < 2147483648) : CtS m_J0_checkIndex_df160 g ak av [.int (nI i), .int (nI n)] sg I (fun r0 s0 J => r0 = none ∧ s0 = sg ∧ J = I) := by
  refine CtS.of rfl (Nat.le_of_ble_eq_true rfl) fun X hSW => ?_
  show V X _ sg I 0 [some (.int (nI i)), some (.int (nI n))] []
  obtain ⟨v, hv, hZ⟩ : ∃ v : Value, (v = .null ∨ ∃ t, v = .ref t) ∧ va_Z "jdk/internal/util/Preconditions" "SIOOBE_FORMATTER" "Ljava/util/function/BiFunction;" v (frA g) X.1.2.2.1 X.1.2.2.1.heap := by
    rcases hSW.2.2.2.2.2.2 with h | ⟨t, h⟩
    · exact ⟨_, Or.inl rfl, h⟩
    · exact ⟨_, Or.inr ⟨t, rfl⟩, h⟩
  refine V_iload_n rfl dJ0_checkIndex_df160_0 ?_
  refine V_iload_n rfl dJ0_checkIndex_df160_1 ?_
  refine V_gets hZ wf_J0_1053 dJ0_checkIndex_df160_2 ?_
  refine V_callS (As := [.int (nI i), .int (nI n), v]) (S_check3 hv hi hn) wl_J0_1059 ws_J3_checkIndex_8e157 wi_J3 wc_J3_checkIndex_8e157 wn_J3_checkIndex_8e157 rfl ft0 (Nat.le_of_ble_eq_true rfl) dJ0_checkIndex_df160_5 rfl (fun r s1 I1 h => ?_)
  obtain ⟨rfl, rfl, rfl⟩ := h
  show V X _ s1 I1 8 _ [.int (nI i)]
  refine V_pop rfl dJ0_checkIndex_df160_8 ?_
  exact V_vret rfl rfl rfl ⟨rfl, rfl, rfl⟩ dJ0_checkIndex_df160_9
theorem chr_and : ∀ a, a < 128 → a &&& 255 = a := by decide +kernel
theorem chr_c : ∀ a, a < 128 → ((nI a).toUInt32 % 65536).toInt32 = nI a := by decide +kernel
theorem nar_c {m : Nat} (h : m < 128) : narrow .char (.int (nI m)) = .int (nI m) := by
  show Value.int ((nI m).toUInt32 % 65536).toInt32 = _
  rw [chr_c m h]
theorem S_latAt {i : Nat} (hi : i < 44) : CtS m_J1_charAt_3b067 g ak av [.ref av, .int (nI i)] sg I (fun r0 s0 J => r0 = some (.int (nI (fsT.getD i 0))) ∧ s0 = sg ∧ J = I) := by
  have hs := fs_small i hi
  refine CtS.of rfl (Nat.le_of_ble_eq_true rfl) fun X hSW => ?_
  show V X _ sg I 0 [some (.ref av), some (.int (nI i))] []
  refine V_iload_n rfl dJ1_charAt_3b067_0 ?_
  refine V_aload_n rfl dJ1_charAt_3b067_1 ?_
  refine V_slen hSW dJ1_charAt_3b067_2 ?_
  refine V_callSs (As := [.int (nI i), .int (nI 44)]) hSW (S_check hi (by decide)) wl_J1_9 ws_J0_checkIndex_df160 wi_J0 wc_J0_checkIndex_df160 wn_J0_checkIndex_df160 rfl ft0 (Nat.le_of_ble_eq_true rfl) dJ1_charAt_3b067_3 rfl (fun r s1 I1 h => ?_)
  obtain ⟨rfl, rfl, rfl⟩ := h
  show V X _ s1 I1 6 _ []
  refine V_aload_n rfl dJ1_charAt_3b067_6 ?_
  refine V_iload_n rfl dJ1_charAt_3b067_7 ?_
  refine V_sbald hi hSW dJ1_charAt_3b067_8 ?_
  refine V_sipush (nI 255) (by decide) dJ1_charAt_3b067_9 ?_
  refine V_iandN dJ1_charAt_3b067_12 ?_
  rw [chr_and _ (by omega)]
  refine V_i2c (chr_c _ (by omega)) dJ1_charAt_3b067_13 ?_
  exact V_zret rfl (nar_c (by omega)) rfl rfl ⟨rfl, rfl, rfl⟩ dJ1_charAt_3b067_14
theorem S_charAt {i : Nat} (hi : i < 44) : CtS m_J0_charAt_5068e g ak av [.ref ak, .int (nI i)] sg I (fun r0 s0 J => r0 = some (.int (nI (fsT.getD i 0))) ∧ s0 = sg ∧ J = I) := by
  have hs := fs_small i hi
  refine CtS.of rfl (Nat.le_of_ble_eq_true rfl) fun X hSW => ?_
  show V X _ sg I 0 [some (.ref ak), some (.int (nI i))] []
  refine V_aload_n rfl dJ0_charAt_5068e_0 ?_
  refine V_callVs (As := []) hSW S_isLatin1 rfl wl_J0_492 ws_J0_isLatin1_aae02 we_J0_isLatin1_aae02 wi_J0 wc_J0_isLatin1_aae02 wn_J0_isLatin1_aae02 rfl ft0 (Nat.le_of_ble_eq_true rfl) dJ0_charAt_5068e_1 rfl (fun r s1 I1 h => ?_)
  obtain ⟨rfl, rfl, rfl⟩ := h
  show V X _ s1 I1 4 _ [.int (nI 1)]
  refine V_if_eq 16 dJ0_charAt_5068e_4 (by decide) (fun h => absurd h (by decide)) (fun _ => ?_)
  refine V_aload_n rfl dJ0_charAt_5068e_7 ?_
  refine V_getO hSW.2.2.2.1 wf_J0_9 dJ0_charAt_5068e_8 ?_
  refine V_iload_n rfl dJ0_charAt_5068e_11 ?_
  refine V_callSs (As := [.ref av, .int (nI i)]) hSW (S_latAt hi) wl_J0_495 ws_J1_charAt_3b067 wi_J1 wc_J1_charAt_3b067 wn_J1_charAt_3b067 rfl ft0 (Nat.le_of_ble_eq_true rfl) dJ0_charAt_5068e_12 rfl (fun r s2 I2 h => ?_)
  obtain ⟨rfl, rfl, rfl⟩ := h
  show V X _ s2 I2 15 _ [.int (nI (fsT.getD i 0))]
  exact V_zret rfl (nar_c (by omega)) rfl rfl ⟨rfl, rfl, rfl⟩ dJ0_charAt_5068e_15
end CSTRM
