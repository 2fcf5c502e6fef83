/-! new objects, calls, ends -/
section CROWS
variable {mi : MI} {g : GC} {sg0 : SG} {X : Cx mi g sg0} {Z : State → Prop} {sg : SG} {I : IM} {pc : Nat} {L : List (Option Value)} {st : List Value}
/-- one object more -/
def sgN (sg : SG) (u : Nat) (s : Nat × Nat) : SG := (sg.1 + 1, sg.2.1 + u, fun q => if q = sg.1 then s else sg.2.2.1 q, fun q k => if q = sg.1 then none else sg.2.2.2 q k)
def imN (sg : SG) (I : IM) : IM := fun q k => if q = sg.1 then 0 else I q k
theorem Hp_new {H H' : Heap} {u : Nat} {s : Nat × Nat} (h1 : Hp g sg I H) (hz : H'.size = g.2.2.2 + sg.1 + 1) (ho : ∀ q, q < g.2.2.2 + sg.1 → H'[q]? = H[q]?) (hs : hat g (sgN sg u s) (imN sg I) sg.1 H') : Hp g (sgN sg u s) (imN sg I) H' := by
  refine ⟨by rw [hz]; show _ = _ + (sg.1 + 1); omega, fun q hq => ?_⟩
  by_cases e : q = sg.1
  · subst e
    exact ⟨Nat.lt_succ_self _, hs⟩
  · have hk : (sgN sg u s).2.2.1 q = sg.2.2.1 q := if_neg e
    rw [hk] at hq
    have h2 := h1.2 q hq
    refine ⟨Nat.lt_succ_of_lt h2.1, hat_kept h2.2 hk (ho _ (by have := h2.1; omega)) (fun k => ?_)⟩
    unfold hv
    rw [hk]
    show (if _ then rv g (if q = sg.1 then none else sg.2.2.2 q k) else .int (if q = sg.1 then 0 else I q k)) = _
    rw [if_neg e, if_neg e]
theorem V_new {idx : Nat} (c : Nat) (hc : c < 7) (hcl : Cond.classLink mi.1.cls idx (kC c) ∈ gw) (hin : Cond.instantiable (kC c) (kN c) ∈ gw) (hini : Cond.initialized (kC c) ∈ gw) (hdf : ∀ k, k < kN c → defaultValue (kTy c k) = if isRf c k = true then .null else .int 0)
    (hfit : sg.1 - sg0.1 + 1 ≤ mi.2.2.2.2.2.1 ∧ sg.2.1 - sg0.2.1 + kN c ≤ mi.2.2.2.2.2.2) (hd : decode mi.2.1 pc = .ok (.new idx, 3)) (kk : V X Z (sgN sg (kN c) (c, 0)) (imN sg I) (pc + 3) L (rf g sg.1 :: st)) : V X Z sg I pc L st := by
  intro a b H locs ls h1 h2 h3
  have hKn := (cx_K X).1 c _ (kcl_at c hc)
  have hR := cx_room X
  refine W.newcK (cx_exec X) (cx_bytes X) (cx_own X) (cx_hts X _ hcl) (cx_hts X _ hin) (cx_hts X _ hini) rfl hd (by rw [hR]; exact hfit.1) (by rw [hR]; exact hfit.2) hKn.2.1 h1.1 fun H1 kC0 hkC e1 z1 o1 => ?_
  have ho : ∀ q, q < g.2.2.2 + sg.1 → H1[q]? = H[q]? := o1
  have h4 := kk (Nat.le_succ_of_le a) (Nat.le_trans b (Nat.le_add_right _ _)) H1 locs ls (Hp_new h1 z1 ho (by
      unfold hat
      have hs : (sgN sg (kN c) (c, 0)).2.2.1 sg.1 = (c, 0) := if_pos rfl
      rw [hs, if_pos hc]
      refine (u_born (kTy c) (cx_hts X) (u_gw c hc) hKn hkC e1 (kTy_ok c hc)).to fun k hk => ?_
      rw [hdf k hk]
      unfold hv
      rw [hs]
      show _ = if _ then rv g (if sg.1 = sg.1 then none else _) else .int (if sg.1 = sg.1 then 0 else _)
      rw [if_pos rfl, if_pos rfl]; rfl)) ⟨Nat.le_trans h2.1 (by rw [z1, h1.1]; omega), fun x q1 q2 => (ho x (by have := h2.1; have := h1.1; omega)).trans (h2.2.1 x q1 q2), h2.2.2⟩ h3
  have e5 : (sgN sg (kN c) (c, 0)).1 - sg0.1 = sg.1 - sg0.1 + 1 := by show sg.1 + 1 - sg0.1 = _; omega
  have e6 : (sgN sg (kN c) (c, 0)).2.1 - sg0.2.1 = sg.2.1 - sg0.2.1 + kN c := by show sg.2.1 + kN c - sg0.2.1 = _; omega
  rw [e5, e6] at h4
  exact h4
theorem V_newa {atype : ArrayType} {n : Int32} (c N : Nat) (hc : c = 7 ∨ c = 8 ∨ c = 9) (hty : newarray.typeOf atype = kATy c) (harr : Cond.arrayClass (newarray.typeOf atype) ∈ gw) (hnN : n = nI N) (hN : N < 2 ^ 20)
    (hfit : sg.1 - sg0.1 + 1 ≤ mi.2.2.2.2.2.1 ∧ sg.2.1 - sg0.2.1 + N ≤ mi.2.2.2.2.2.2) (hd : decode mi.2.1 pc = .ok (.newarray atype, 2)) (kk : V X Z (sgN sg N (c, N)) (imN sg I) (pc + 2) L (rf g sg.1 :: st)) : V X Z sg I pc L (.int n :: st) := by
  intro a b H locs ls h1 h2 h3
  have hR := cx_room X
  have hp : (2 : Nat) ^ 20 = 1048576 := by decide
  have hn31 : N < 2 ^ 31 := by have : (2 : Nat) ^ 31 = 2147483648 := by decide
                               omega
  subst hnN
  refine va_newaK (cx_exec X) (cx_bytes X) (cx_hts X _ harr) rfl hd rfl (nI_pos hn31) (nI_clamp hn31) (by
    have : componentBytes (newarray.typeOf atype) ≤ 8 := by cases atype <;> decide
    calc N * componentBytes (newarray.typeOf atype) ≤ N * 8 := Nat.mul_le_mul_left _ this
      _ ≤ _ := by omega) (by rw [hR]; exact hfit.1) (by rw [hR]; exact hfit.2) h1.1 fun H1 cA e1 z1 o1 hAr hNm => ?_
  have ho : ∀ q, q < g.2.2.2 + sg.1 → H1[q]? = H[q]? := o1
  have hcA : cA = kA g c := by
    have hK := (cx_K X).2
    rw [hty] at hNm
    rcases hc with rfl | rfl | rfl
    · exact Option.some.inj (hNm.symm.trans (hK 0 _ rfl).2)
    · exact Option.some.inj (hNm.symm.trans (hK 1 _ rfl).2)
    · exact Option.some.inj (hNm.symm.trans (hK 2 _ rfl).2)
  have h4 := kk (Nat.le_succ_of_le a) (Nat.le_trans b (Nat.le_add_right _ _)) H1 locs ls (Hp_new h1 z1 ho (by
      unfold hat
      have hs : (sgN sg N (c, N)).2.2.1 sg.1 = (c, N) := if_pos rfl
      rw [hs, if_neg (by omega), e1, hcA]
      congr 2
      funext k
      unfold hv
      rw [hs]
      show _ = if _ then rv g (if sg.1 = sg.1 then none else _) else .int (if sg.1 = sg.1 then 0 else _)
      rw [if_pos rfl, if_pos rfl, hty]
      rcases hc with rfl | rfl | rfl <;> rfl)) ⟨Nat.le_trans h2.1 (by rw [z1, h1.1]; omega), fun x q1 q2 => (ho x (by have := h2.1; have := h1.1; omega)).trans (h2.2.1 x q1 q2), h2.2.2⟩ h3
  have e5 : (sgN sg N (c, N)).1 - sg0.1 = sg.1 - sg0.1 + 1 := by show sg.1 + 1 - sg0.1 = _; omega
  have e6 : (sgN sg N (c, N)).2.1 - sg0.2.1 = sg.2.1 - sg0.2.1 + N := by show sg.2.1 + N - sg0.2.1 = _; omega
  rw [e5, e6] at h4
  exact h4
theorem V_newq {idx : Nat} {n : Int32} (N : Nat) (hcl : Cond.classLink mi.1.cls idx RX4 ∈ gw) (hnN : n = nI N) (hN : N < 2 ^ 20)
    (hfit : sg.1 - sg0.1 + 1 ≤ mi.2.2.2.2.2.1 ∧ sg.2.1 - sg0.2.1 + N ≤ mi.2.2.2.2.2.2) (hd : decode mi.2.1 pc = .ok (.anewarray idx, 3)) (kk : V X Z (sgN sg N (10, N)) (imN sg I) (pc + 3) L (rf g sg.1 :: st)) : V X Z sg I pc L (.int n :: st) := by
  intro a b H locs ls h1 h2 h3
  have hR := cx_room X
  have hp : (2 : Nat) ^ 20 = 1048576 := by decide
  have hn31 : N < 2 ^ 31 := by have : (2 : Nat) ^ 31 = 2147483648 := by decide
                               omega
  subst hnN
  have hcl' : (nI N).toNatClampNeg = N := nI_clamp hn31
  refine W.anew (cx_exec X) (cx_bytes X) (cx_own X) (cx_hts X _ hcl) (va_AO.use (cx_NW X).2) rfl hd rfl (nI_pos hn31) (by rw [hcl']; omega) (by rw [hR]; exact hfit.1) (by rw [hR, hcl']; exact hfit.2) fun cA kA0 comp f1 f2 f3 f4 => ?_
  rw [hcl']
  generalize hH1 : H.push ({ cls := cA, slots := Array.replicate N .null, vm := .none } : Cell) = H1
  have z1 : H1.size = g.2.2.2 + sg.1 + 1 := by rw [← hH1, Array.size_push, h1.1]
  have e1 : H1[g.2.2.2 + sg.1]? = some (arrV cA N (fun _ => .null)) := by rw [← hH1, ← h1.1, Array.getElem?_push_size, ← arrV_new]
  have ho : ∀ q : Nat, q < g.2.2.2 + sg.1 → H1[q]? = H[q]? := fun q hq => by rw [← hH1, Array.getElem?_push, if_neg (by rw [h1.1]; omega)]
  have hcA : cA = kA g 10 := by
    obtain ⟨kA1, comp1, k1, k2, k3, k4⟩ := ((cx_K X).2 3 _ rfl).2
    exact Option.some.inj (f1.symm.trans k4)
  have h4 := kk (Nat.le_succ_of_le a) (Nat.le_trans b (Nat.le_add_right _ _)) H1 locs ls (Hp_new h1 z1 ho (by
      unfold hat
      have hs : (sgN sg N (10, N)).2.2.1 sg.1 = (10, N) := if_pos rfl
      rw [hs, if_neg (show ¬ (10 : Nat) < 7 by decide), e1, hcA]
      congr 2
      funext k
      unfold hv
      rw [hs]
      show _ = if _ then rv g (if sg.1 = sg.1 then none else _) else .int (if sg.1 = sg.1 then 0 else _)
      rw [if_pos rfl, if_pos rfl]; rfl)) ⟨Nat.le_trans h2.1 (by rw [z1, h1.1]; omega), fun x q1 q2 => (ho x (by have := h2.1; have := h1.1; omega)).trans (h2.2.1 x q1 q2), h2.2.2⟩ h3
  have e5 : (sgN sg N (10, N)).1 - sg0.1 = sg.1 - sg0.1 + 1 := by show sg.1 + 1 - sg0.1 = _; omega
  have e6 : (sgN sg N (10, N)).2.1 - sg0.2.1 = sg.2.1 - sg0.2.1 + N := by show sg.2.1 + N - sg0.2.1 = _; omega
  rw [e5, e6] at h4
  rw [show H.size = g.2.2.2 + sg.1 from h1.1]
  exact h4
/-- Object's constructor -/
theorem V_objInit {q idx : Nat} (hl : Cond.methodLink mi.1.cls idx objectInit ∈ gw) (hin : Cond.instanceMethod objectInit ∈ gw) (hco : Cond.code objectInit ⟨#[0xb1]⟩ 1 none ∈ gw) (hlv : 1 ≤ mi.2.2.2.2.1) (hst : (st.map fun v => v.category).sum ≤ 8) (hd : decode mi.2.1 pc = .ok (.invokespecial idx, 3)) (kk : V X Z sg I (pc + 3) L st) : V X Z sg I pc L (rf g q :: st) := by
  intro a b H locs ls h1 h2 h3
  refine W.objInit (cx_exec X) (cx_bytes X) (cx_own X) (cx_hts X _ hl) (cx_hts X _ hin) (cx_hts X _ hco) rfl (by rw [cx_maxL X]; exact h3.1) rfl hd (by rw [cx_room X]; exact hlv) ?_ (kk a b H locs ls h1 h2 h3)
  rw [cx_room X]
  show 2 * 0 + _ + 12 ≤ 40 * mi.2.2.2.2.1
  omega
/-- what a call wants: a level less, room for its locals -/
def rmok (mi' mi : MI) : Bool := Nat.ble (mi'.2.2.2.2.1 + 1) mi.2.2.2.2.1 && Nat.ble (8 + (mi'.2.2.1 + 11) + 40 * mi'.2.2.2.2.1) (40 * mi.2.2.2.2.1)
theorem rmok_fr {mi' mi : MI} (h : rmok mi' mi = true) : (mrm mi').frames + 1 ≤ (mrm mi).frames := by
  simp only [rmok, Bool.and_eq_true] at h; exact Nat.le_of_ble_eq_true h.1
theorem rmok_lo {mi' mi : MI} (h : rmok mi' mi = true) : 8 + (mi'.2.2.1 + 11) + (mrm mi').locals ≤ (mrm mi).locals := by
  simp only [rmok, Bool.and_eq_true] at h; exact Nat.le_of_ble_eq_true h.2
theorem Ct_blind {g : GC} {sg : SG} {I : IM} {av : List Value} : FrameBlind (fun v U => v = av.toArray ∧ Wd g sg I U) := by
  intro a U fr mk h
  exact ⟨h.1, h.2.1, va_K.moved (u := U) (U := U.calling fr mk a) (Vm.Alike.refl U.vm) h.2.2.1, ⟨fun w hw => va_Nw.same (u := U) (isNest_tab (List.mem_filter.mp hw).2) rfl (h.2.2.2.1 w hw), va_AO.moved (u := U) (U := U.calling fr mk a) (Vm.Alike.refl U.vm) h.2.2.2.2⟩⟩
theorem mws_good {mi' : MI} (hc : Cond.code mi'.1 mi'.2.1 mi'.2.2.1 mi'.2.2.2.1 ∈ gw) : GoodIn gw (mws mi') := gw_good fun w hw => (List.mem_cons.mp hw).elim (fun e => e ▸ hc) id
theorem Wd_at (X : Cx mi g sg0) {sg : SG} {I : IM} {H : Heap} (h1 : Hp g sg I H) (U : State) (hU : U.heap = H) (hW : X.1.2.2.1.WarmedH U.vm) : Wd g sg I U :=
  ⟨by rw [hU]; exact h1, va_K.moved hW.alike (cx_K X), NW_warm hW (cx_NW X)⟩
/-- what a call leaves -/
theorem V_back {mi' : MI} {Q : Option Value → SG → IM → Prop} {pc' : Nat} {st0 : List Value} {a : Array Value} {H : Heap} {locs : List Loc} {ls : Array Slot} (h1 : Hp g sg I H) (h2 : va_S (fun q => g.2.2.2 ≤ q) X.1.2.2.1.heap H locs) (h3 : LH ls mi.2.2.1 L) (ha : sg0.1 ≤ sg.1) (hb : sg0.2.1 ≤ sg.2.1) (hpc : pc + 3 = pc')
    (hr : va_Run X.1.1 g.1 X.1.2.1 X.1.2.2.2.2.2.2.2.2 X.1.2.2.1 X.1.2.2.2.1 X.1.2.2.2.2.1 X.1.2.2.2.2.2.1 X.1.2.2.2.2.2.2.1 X.1.2.2.2.2.2.2.2.1 H locs (sg.1 - sg0.1) (sg.2.1 - sg0.2.1) mi'.2.2.2.2.2.1 mi'.2.2.2.2.2.2 (F0 X.1.2.2.2.1 pc ls st0) st (QCt g mi' sg Q a) (fun q => g.2.2.2 ≤ q))
    (kk : ∀ r sg' I', Q r sg' I' → V X Z sg' I' pc' L (r.toList ++ st)) : W X.1.1 g.1 X.1.2.1 X.1.2.2.2.2.2.2.2.2 X.1.2.2.1 X.1.2.2.2.1 X.1.2.2.2.2.1 X.1.2.2.2.2.2.1 X.1.2.2.2.2.2.2.1 X.1.2.2.2.2.2.2.2.1 H locs (sg.1 - sg0.1) (sg.2.1 - sg0.2.1) Z (F0 X.1.2.2.2.1 pc ls st0) := by
  subst hpc
  intro T hT XX
  obtain ⟨v, st₀, t, T', Lc, h0, X', hL, e1, e2, ⟨⟨r, sg', I', hrv, ⟨hQ, hn, hu⟩, hH⟩, hz, hk⟩, stp⟩ := hr T hT XX
  cases hrv
  rw [h0] at hz hk
  have hSz : X.1.2.2.1.heap.size ≤ H.size := h2.1
  have h4 := kk _ sg' I' hQ (by omega) (by omega) T'.heap (locs ++ Lc) ls (by rw [e1]; exact hH)
    ⟨Nat.le_trans hSz (by rw [e1]; exact hz), fun q q1 q2 => by rw [e1, hk q (Nat.lt_of_lt_of_le q1 hSz) q2]; exact h2.2.1 q q1 q2, fun q hq => by
      rcases List.mem_append.mp hq with h | h
      · exact h2.2.2 q h
      · exact hL q h⟩ h3
  have e5 : sg'.1 - sg0.1 = sg.1 - sg0.1 + mi'.2.2.2.2.2.1 := by omega
  have e6 : sg'.2.1 - sg0.2.1 = sg.2.1 - sg0.2.1 + mi'.2.2.2.2.2.2 := by omega
  rw [e5, e6] at h4
  obtain ⟨t2, a1, b1⟩ := h4 T' rfl X'
  exact ⟨t2, stp t2 a1, b1⟩
/-- names of a method that is no method handle's, and how many arguments it has -/
def okn (y : MethodName) (n : Nat) : Prop := y.cls ≠ "java/lang/invoke/MethodHandle" ∧ y.cls ≠ "java/lang/invoke/VarHandle" ∧ (parseMethodDescriptor y.desc).map (fun d => d.parameters.length) = some n
theorem V_callV {mi' : MI} {Q : Option Value → SG → IM → Prop} {q idx : Nat} {As st1 : List Value} (c : Nat) (hM : Ct mi' g (rf g q :: As) sg I Q) (hk : (sg.2.2.1 q).1 = c) (hc : c < 7) (hcl : mi'.1.cls = kC c)
    (hl : Cond.methodLink mi.1.cls idx mi'.1 ∈ gw) (hin : Cond.instanceMethod mi'.1 ∈ gw) (hse : Cond.selects mi'.1.cls mi'.1 mi'.1 ∈ gw) (hini : Cond.initialized mi'.1.cls ∈ gw) (hco : Cond.code mi'.1 mi'.2.1 mi'.2.2.1 mi'.2.2.2.1 ∈ gw) (hn : okn mi'.1 As.length) (hR : rmok mi' mi = true)
    (hfit : sg.1 - sg0.1 + mi'.2.2.2.2.2.1 ≤ mi.2.2.2.2.2.1 ∧ sg.2.1 - sg0.2.1 + mi'.2.2.2.2.2.2 ≤ mi.2.2.2.2.2.2) (hst : (st.map fun v => v.category).sum ≤ 8) (hd : decode mi.2.1 pc = .ok (.invokevirtual idx, 3)) (hs1 : st1 = As.reverse ++ rf g q :: st)
    (kk : ∀ r sg' I', Q r sg' I' → V X Z sg' I' (pc + 3) L (r.toList ++ st)) : V X Z sg I pc L st1 := by
  subst hs1
  intro a b H locs ls h1 h2 h3
  obtain ⟨cell, q1, q2, q3, q4⟩ := hob h1 hk hc
  have hRm := cx_room X
  refine V_back h1 h2 h3 a b rfl (va_runV (As := As) (bytes := mi'.2.1) (maxL := mi'.2.2.1) (ret := mi'.2.2.2.1) ⟨cx_exec X, cx_bytes X, cx_maxL X, cx_own X, cx_hts X⟩ hM (C := mi'.1.cls) ?_ ⟨Ct_blind, ⟨cell, q1, by rw [q3]; rfl, by rw [q2, hcl]; exact ((cx_K X).1 c _ (kcl_at c hc)).2.1⟩, fun U hU hW => ⟨rfl, Wd_at X h1 U hU hW⟩⟩ rfl rfl h3.1 rfl (lv_room hst) hd (by rw [hRm]; exact hfit)) kk
  exact cwV As.length (cx_hts X) (gw_good fun w hw => by
    unfold wsV at hw
    rcases List.mem_append.mp hw with hw | hw
    · simp only [List.mem_cons, List.not_mem_nil, or_false] at hw
      rcases hw with rfl | rfl | rfl | rfl
      · exact hl
      · exact hin
      · exact hse
      · exact hini
    · exact (mws_good hco w hw).1) rfl rfl rfl ⟨rfl, hn⟩ ⟨by rw [hRm]; exact rmok_fr hR, by rw [hRm]; exact rmok_lo hR⟩
theorem V_callVN {mi' : MI} {Q : Option Value → SG → IM → Prop} {q idx : Nat} {As st1 : List Value} (c : Nat) (host : String) (hM : Ct mi' g (rf g q :: As) sg I Q) (hk : (sg.2.2.1 q).1 = c) (hc : c < 7) (hcl : mi'.1.cls = kC c)
    (hl : Cond.methodLinkNest mi.1.cls idx mi'.1 host ∈ nw) (hin : Cond.instanceMethod mi'.1 ∈ gw) (hse : Cond.selects mi'.1.cls mi'.1 mi'.1 ∈ gw) (hini : Cond.initialized mi'.1.cls ∈ gw) (hco : Cond.code mi'.1 mi'.2.1 mi'.2.2.1 mi'.2.2.2.1 ∈ gw) (hn : okn mi'.1 As.length) (hR : rmok mi' mi = true)
    (hfit : sg.1 - sg0.1 + mi'.2.2.2.2.2.1 ≤ mi.2.2.2.2.2.1 ∧ sg.2.1 - sg0.2.1 + mi'.2.2.2.2.2.2 ≤ mi.2.2.2.2.2.2) (hst : (st.map fun v => v.category).sum ≤ 8) (hd : decode mi.2.1 pc = .ok (.invokevirtual idx, 3)) (hs1 : st1 = As.reverse ++ rf g q :: st)
    (kk : ∀ r sg' I', Q r sg' I' → V X Z sg' I' (pc + 3) L (r.toList ++ st)) : V X Z sg I pc L st1 := by
  subst hs1
  intro a b H locs ls h1 h2 h3
  obtain ⟨cell, q1, q2, q3, q4⟩ := hob h1 hk hc
  have hRm := cx_room X
  refine V_back h1 h2 h3 a b rfl (va_runVN (As := As) (host := host) (bytes := mi'.2.1) (maxL := mi'.2.2.1) (ret := mi'.2.2.2.1) ⟨cx_exec X, cx_bytes X, cx_maxL X, cx_own X, cx_hts X⟩ hM (C := mi'.1.cls) ⟨?_, cx_hts X _ hin, cx_hts X _ hse⟩ ⟨Ct_blind, ⟨cell, q1, by rw [q3]; rfl, by rw [q2, hcl]; exact ((cx_K X).1 c _ (kcl_at c hc)).2.1⟩, fun U hU hW => ⟨rfl, Wd_at X h1 U hU hW⟩⟩ rfl rfl h3.1 rfl (lv_room hst) hd (by rw [hRm]; exact hfit)) kk
  exact va_cnB As.length (cx_hts X) (mws_good hco) rfl rfl rfl ((cx_NW X).1 _ hl) (cx_hts X _ hini) hn ⟨by rw [hRm]; exact rmok_fr hR, by rw [hRm]; exact rmok_lo hR⟩
theorem V_callS {mi' : MI} {Q : Option Value → SG → IM → Prop} {idx : Nat} {As st1 : List Value} (hM : Ct mi' g As sg I Q)
    (hl : Cond.methodLink mi.1.cls idx mi'.1 ∈ gw) (hin : Cond.static mi'.1 ∈ gw) (hini : Cond.initialized mi'.1.cls ∈ gw) (hco : Cond.code mi'.1 mi'.2.1 mi'.2.2.1 mi'.2.2.2.1 ∈ gw) (hn : okn mi'.1 As.length) (hR : rmok mi' mi = true)
    (hfit : sg.1 - sg0.1 + mi'.2.2.2.2.2.1 ≤ mi.2.2.2.2.2.1 ∧ sg.2.1 - sg0.2.1 + mi'.2.2.2.2.2.2 ≤ mi.2.2.2.2.2.2) (hst : (st.map fun v => v.category).sum ≤ 8) (hd : decode mi.2.1 pc = .ok (.invokestatic idx, 3)) (hs1 : st1 = As.reverse ++ st)
    (kk : ∀ r sg' I', Q r sg' I' → V X Z sg' I' (pc + 3) L (r.toList ++ st)) : V X Z sg I pc L st1 := by
  subst hs1
  intro a b H locs ls h1 h2 h3
  have hRm := cx_room X
  refine V_back h1 h2 h3 a b rfl (va_runS (As := As) (bytes := mi'.2.1) (maxL := mi'.2.2.1) (ret := mi'.2.2.2.1) ⟨cx_exec X, cx_bytes X, cx_maxL X, cx_own X, cx_hts X⟩ hM ?_ ⟨Ct_blind, fun U hU hW => ⟨rfl, Wd_at X h1 U hU hW⟩⟩ rfl rfl h3.1 rfl (lv_room hst) hd (by rw [hRm]; exact hfit)) kk
  exact ⟨callB_of As.length (cx_hts X) (mws_good hco) rfl rfl rfl (cx_hts X _ hini) (cx_hts X _ hl) hn ⟨by rw [hRm]; exact rmok_fr hR, by rw [hRm]; exact rmok_lo hR⟩, cx_hts X _ hin⟩
theorem V_callSN {mi' : MI} {Q : Option Value → SG → IM → Prop} {idx : Nat} {As st1 : List Value} (host : String) (hM : Ct mi' g As sg I Q)
    (hl : Cond.methodLinkNest mi.1.cls idx mi'.1 host ∈ nw) (hin : Cond.static mi'.1 ∈ gw) (hini : Cond.initialized mi'.1.cls ∈ gw) (hco : Cond.code mi'.1 mi'.2.1 mi'.2.2.1 mi'.2.2.2.1 ∈ gw) (hn : okn mi'.1 As.length) (hR : rmok mi' mi = true)
    (hfit : sg.1 - sg0.1 + mi'.2.2.2.2.2.1 ≤ mi.2.2.2.2.2.1 ∧ sg.2.1 - sg0.2.1 + mi'.2.2.2.2.2.2 ≤ mi.2.2.2.2.2.2) (hst : (st.map fun v => v.category).sum ≤ 8) (hd : decode mi.2.1 pc = .ok (.invokestatic idx, 3)) (hs1 : st1 = As.reverse ++ st)
    (kk : ∀ r sg' I', Q r sg' I' → V X Z sg' I' (pc + 3) L (r.toList ++ st)) : V X Z sg I pc L st1 := by
  subst hs1
  intro a b H locs ls h1 h2 h3
  have hRm := cx_room X
  refine V_back h1 h2 h3 a b rfl (va_runSN (As := As) (host := host) (bytes := mi'.2.1) (maxL := mi'.2.2.1) (ret := mi'.2.2.2.1) ⟨cx_exec X, cx_bytes X, cx_maxL X, cx_own X, cx_hts X⟩ hM ⟨?_, cx_hts X _ hin, trivial⟩ ⟨Ct_blind, fun U hU hW => ⟨rfl, Wd_at X h1 U hU hW⟩⟩ rfl rfl h3.1 rfl (lv_room hst) hd (by rw [hRm]; exact hfit)) kk
  exact va_cnB As.length (cx_hts X) (mws_good hco) rfl rfl rfl ((cx_NW X).1 _ hl) (cx_hts X _ hini) hn ⟨by rw [hRm]; exact rmok_fr hR, by rw [hRm]; exact rmok_lo hR⟩
theorem V_callI {mi' : MI} {Q : Option Value → SG → IM → Prop} {q idx : Nat} {As st1 : List Value} (hM : Ct mi' g (rf g q :: As) sg I Q) (hrn : mi'.2.2.2.1 = none) (hy1 : mi'.1.name = "<init>")
    (hl : Cond.methodLink mi.1.cls idx mi'.1 ∈ gw) (hin : Cond.instanceMethod mi'.1 ∈ gw) (hini : Cond.initialized mi'.1.cls ∈ gw) (hco : Cond.code mi'.1 mi'.2.1 mi'.2.2.1 mi'.2.2.2.1 ∈ gw) (hn : okn mi'.1 As.length) (hR : rmok mi' mi = true)
    (hfit : sg.1 - sg0.1 + mi'.2.2.2.2.2.1 ≤ mi.2.2.2.2.2.1 ∧ sg.2.1 - sg0.2.1 + mi'.2.2.2.2.2.2 ≤ mi.2.2.2.2.2.2) (hst : (st.map fun v => v.category).sum ≤ 8) (hd : decode mi.2.1 pc = .ok (.invokespecial idx, 3)) (hs1 : st1 = As.reverse ++ rf g q :: st)
    (kk : ∀ r sg' I', Q r sg' I' → V X Z sg' I' (pc + 3) L (r.toList ++ st)) : V X Z sg I pc L st1 := by
  subst hs1
  intro a b H locs ls h1 h2 h3
  have hRm := cx_room X
  refine V_back h1 h2 h3 a b rfl (va_runI (As := As) (bytes := mi'.2.1) (maxL := mi'.2.2.1) ⟨cx_exec X, cx_bytes X, cx_maxL X, cx_own X, cx_hts X⟩ hM (cwI (bytes := mi'.2.1) (maxL := mi'.2.2.1) As.length (cx_hts X) (mws_good hco) (by unfold mws; rw [hrn]) rfl rfl (cx_hts X _ hini) (cx_hts X _ hl) (cx_hts X _ hin) hy1 hn ⟨by rw [hRm]; exact rmok_fr hR, by rw [hRm]; exact rmok_lo hR⟩) ⟨Ct_blind, fun U hU hW => ⟨rfl, Wd_at X h1 U hU hW⟩⟩ rfl rfl h3.1 rfl (lv_room hst) hd (by rw [hRm]; exact hfit)) kk
theorem V_callIN {mi' : MI} {Q : Option Value → SG → IM → Prop} {q idx : Nat} {As st1 : List Value} (host : String) (hM : Ct mi' g (rf g q :: As) sg I Q) (hrn : mi'.2.2.2.1 = none) (hy1 : mi'.1.name = "<init>")
    (hl : Cond.methodLinkNest mi.1.cls idx mi'.1 host ∈ nw) (hin : Cond.instanceMethod mi'.1 ∈ gw) (hini : Cond.initialized mi'.1.cls ∈ gw) (hco : Cond.code mi'.1 mi'.2.1 mi'.2.2.1 mi'.2.2.2.1 ∈ gw) (hn : okn mi'.1 As.length) (hR : rmok mi' mi = true)
    (hfit : sg.1 - sg0.1 + mi'.2.2.2.2.2.1 ≤ mi.2.2.2.2.2.1 ∧ sg.2.1 - sg0.2.1 + mi'.2.2.2.2.2.2 ≤ mi.2.2.2.2.2.2) (hst : (st.map fun v => v.category).sum ≤ 8) (hd : decode mi.2.1 pc = .ok (.invokespecial idx, 3)) (hs1 : st1 = As.reverse ++ rf g q :: st)
    (kk : ∀ r sg' I', Q r sg' I' → V X Z sg' I' (pc + 3) L (r.toList ++ st)) : V X Z sg I pc L st1 := by
  subst hs1
  intro a b H locs ls h1 h2 h3
  have hRm := cx_room X
  refine V_back h1 h2 h3 a b rfl (va_runIN (As := As) (host := host) (bytes := mi'.2.1) (maxL := mi'.2.2.1) ⟨cx_exec X, cx_bytes X, cx_maxL X, cx_own X, cx_hts X⟩ hM ⟨va_cnB As.length (cx_hts X) (mws_good hco) (by unfold mws; rw [hrn]) rfl rfl ((cx_NW X).1 _ hl) (cx_hts X _ hini) hn ⟨by rw [hRm]; exact rmok_fr hR, by rw [hRm]; exact rmok_lo hR⟩, hy1, cx_hts X _ hin⟩ ⟨Ct_blind, fun U hU hW => ⟨rfl, Wd_at X h1 U hU hW⟩⟩ rfl rfl h3.1 rfl (lv_room hst) hd (by rw [hRm]; exact hfit)) kk
/-- Math.min, Math.max -/
theorem V_min {idx : Nat} {x y : Int32} (hl : Cond.methodLink mi.1.cls idx Lib.Math.min.name ∈ gw) (h2 : Cond.static Lib.Math.min.name ∈ gw) (h3 : Cond.initialized "java/lang/Math" ∈ gw) (h4 : Cond.code Lib.Math.min.name Lib.Math.min.code 2 (some .int) ∈ gw) (hlv : 1 ≤ mi.2.2.2.2.1) (hst : (st.map fun v => v.category).sum ≤ 8) (hc : sg.1 - sg0.1 ≤ mi.2.2.2.2.2.1 ∧ sg.2.1 - sg0.2.1 ≤ mi.2.2.2.2.2.2) (hd : decode mi.2.1 pc = .ok (.invokestatic idx, 3))
    (kk : V X Z sg I (pc + 3) L (.int (if y < x then y else x) :: st)) : V X Z sg I pc L (.int y :: .int x :: st) := by
  intro a b H locs ls q1 q2 q3
  have hRm := cx_room X
  exact va_mmin (cx_exec X) (cx_bytes X) ((cx_maxL X).trans q3.1.symm) (cx_own X) (cx_hts X _ hl) (cx_hts X _ h2) (cx_hts X _ h3) (cx_hts X _ h4) (by rw [hRm]; exact hlv) (by rw [hRm]; show _ ≤ 40 * mi.2.2.2.2.1; omega) (by rw [hRm]; exact hc.1) (by rw [hRm]; exact hc.2) hd (kk a b H locs ls q1 q2 q3)
theorem V_max {idx : Nat} {x y : Int32} (hl : Cond.methodLink mi.1.cls idx Lib.Math.max.name ∈ gw) (h2 : Cond.static Lib.Math.max.name ∈ gw) (h3 : Cond.initialized "java/lang/Math" ∈ gw) (h4 : Cond.code Lib.Math.max.name Lib.Math.max.code 2 (some .int) ∈ gw) (hlv : 1 ≤ mi.2.2.2.2.1) (hst : (st.map fun v => v.category).sum ≤ 8) (hc : sg.1 - sg0.1 ≤ mi.2.2.2.2.2.1 ∧ sg.2.1 - sg0.2.1 ≤ mi.2.2.2.2.2.2) (hd : decode mi.2.1 pc = .ok (.invokestatic idx, 3))
    (kk : V X Z sg I (pc + 3) L (.int (if x < y then y else x) :: st)) : V X Z sg I pc L (.int y :: .int x :: st) := by
  intro a b H locs ls q1 q2 q3
  have hRm := cx_room X
  exact va_mmax (cx_exec X) (cx_bytes X) ((cx_maxL X).trans q3.1.symm) (cx_own X) (cx_hts X _ hl) (cx_hts X _ h2) (cx_hts X _ h3) (cx_hts X _ h4) (by rw [hRm]; exact hlv) (by rw [hRm]; show _ ≤ 40 * mi.2.2.2.2.1; omega) (by rw [hRm]; exact hc.1) (by rw [hRm]; exact hc.2) hd (kk a b H locs ls q1 q2 q3)
variable {Q : Option Value → SG → IM → Prop}
theorem end_cells (hn : sg.1 = sg0.1 + mi.2.2.2.2.2.1) (hu : sg.2.1 = sg0.2.1 + mi.2.2.2.2.2.2) : sg.1 - sg0.1 = mi.2.2.2.2.2.1 ∧ sg.2.1 - sg0.2.1 = mi.2.2.2.2.2.2 := ⟨by omega, by omega⟩
theorem V_iret {v : Int32} (hr : mi.2.2.2.1 = some .int) (hn : sg.1 = sg0.1 + mi.2.2.2.2.2.1) (hu : sg.2.1 = sg0.2.1 + mi.2.2.2.2.2.2) (hQ : Q (some (.int v)) sg I) (hd : decode mi.2.1 pc = .ok (.ireturn, 1)) : V X (ZQ X Q) sg I pc L [.int v] := by
  intro a b H locs ls h1 h2 h3
  obtain ⟨e1, e2⟩ := end_cells hn hu
  rw [e1, e2]
  exact W.iret (cx_exec X) (cx_bytes X) ((cx_ret X).trans hr) (fun t ht hW => ⟨⟨_, sg, I, rfl, ⟨hQ, hn, hu⟩, by rw [ht]; exact h1⟩, h2.F ht⟩) h2.2.2 hd (hlocks := cx_locks X)
theorem V_zret {v : Int32} {ty : FieldType} (hr : mi.2.2.2.1 = some ty) (hnr : narrow ty (.int v) = .int v) (hn : sg.1 = sg0.1 + mi.2.2.2.2.2.1) (hu : sg.2.1 = sg0.2.1 + mi.2.2.2.2.2.2) (hQ : Q (some (.int v)) sg I) (hd : decode mi.2.1 pc = .ok (.ireturn, 1)) : V X (ZQ X Q) sg I pc L [.int v] := by
  intro a b H locs ls h1 h2 h3
  obtain ⟨e1, e2⟩ := end_cells hn hu
  rw [e1, e2]
  exact W.zret (cx_exec X) (cx_bytes X) ((cx_ret X).trans hr) hnr (fun t ht hW => ⟨⟨_, sg, I, rfl, ⟨hQ, hn, hu⟩, by rw [ht]; exact h1⟩, h2.F ht⟩) h2.2.2 hd (hlocks := cx_locks X)
theorem V_lret {v : Int64} (hr : mi.2.2.2.1 = some .long) (hn : sg.1 = sg0.1 + mi.2.2.2.2.2.1) (hu : sg.2.1 = sg0.2.1 + mi.2.2.2.2.2.2) (hQ : Q (some (.long v)) sg I) (hd : decode mi.2.1 pc = .ok (.lreturn, 1)) : V X (ZQ X Q) sg I pc L [.long v] := by
  intro a b H locs ls h1 h2 h3
  obtain ⟨e1, e2⟩ := end_cells hn hu
  rw [e1, e2]
  exact W.lret (cx_exec X) (cx_bytes X) ((cx_ret X).trans hr) (fun t ht hW => ⟨⟨_, sg, I, rfl, ⟨hQ, hn, hu⟩, by rw [ht]; exact h1⟩, h2.F ht⟩) h2.2.2 hd (hlocks := cx_locks X)
theorem V_vret (hr : mi.2.2.2.1 = none) (hn : sg.1 = sg0.1 + mi.2.2.2.2.2.1) (hu : sg.2.1 = sg0.2.1 + mi.2.2.2.2.2.2) (hQ : Q none sg I) (hd : decode mi.2.1 pc = .ok (.return_, 1)) : V X (ZQ X Q) sg I pc L [] := by
  intro a b H locs ls h1 h2 h3
  obtain ⟨e1, e2⟩ := end_cells hn hu
  rw [e1, e2]
  exact W.vret (cx_exec X) (cx_bytes X) ((cx_ret X).trans hr) (fun t ht hW => ⟨⟨_, sg, I, rfl, ⟨hQ, hn, hu⟩, by rw [ht]; exact h1⟩, h2.F ht⟩) h2.2.2 hd (hlocks := cx_locks X)
theorem V_aret {x : Nat} {nm : String} (hr : mi.2.2.2.1 = some (.object nm)) (hn : sg.1 = sg0.1 + mi.2.2.2.2.2.1) (hu : sg.2.1 = sg0.2.1 + mi.2.2.2.2.2.2) (hQ : Q (some (rf g x)) sg I) (hd : decode mi.2.1 pc = .ok (.areturn, 1)) : V X (ZQ X Q) sg I pc L [rf g x] := by
  intro a b H locs ls h1 h2 h3
  obtain ⟨e1, e2⟩ := end_cells hn hu
  rw [e1, e2]
  exact W.aret (cx_exec X) (cx_bytes X) ((cx_ret X).trans hr) (Or.inl ⟨_, rfl⟩) (Or.inr ⟨_, rfl⟩) (fun t ht hW => ⟨⟨_, sg, I, rfl, ⟨hQ, hn, hu⟩, by rw [ht]; exact h1⟩, h2.F ht⟩) h2.2.2 hd (hlocks := cx_locks X)
/-- a fit that nothing was made -/
theorem ft0 {sg : SG} : sg.1 - sg.1 + 0 ≤ 0 ∧ sg.2.1 - sg.2.1 + 0 ≤ 0 := ⟨by omega, by omega⟩
theorem fh0 {sg : SG} : sg.1 - sg.1 ≤ 0 ∧ sg.2.1 - sg.2.1 ≤ 0 := ⟨by omega, by omega⟩
end CROWS
