/-! the law's own walk: rows -/
abbrev LT : Type := Program × Env × State × MethodId × List Frame × Method × Code × Nat
def LOK (g : GC) (Ln : Nat) (xs : Nat → Int32) (ak av : Nat) (x : LT) : Prop := lw_At x.1 x.2.2.1 x.2.2.2.1 x.2.2.2.2.2.1 x.2.2.2.2.2.2.1 x.2.2.2.2.2.2.2 Ln xs ∧ x.2.2.1.heap.size = g.2.2.2 ∧ va_K g.2.1 kcl (gtys g) x.2.2.1 ∧ NW x.2.2.1 ∧ SW g ak av x.2.2.1 ∧ Ln ≤ 320
abbrev LCx (g : GC) (Ln : Nat) (xs : Nat → Int32) (ak av : Nat) : Type := { x : LT // LOK g Ln xs ak av x }
def U {g : GC} {Ln : Nat} {xs : Nat → Int32} {ak av : Nat} (X : LCx g Ln xs ak av) (sg : SG) (I : IM) (pc : Nat) (L : List (Option Value)) (st : List Value) : Prop :=
  ∀ (H : Heap) (locs : List Loc) (ls : Array Slot), Hp g sg I H → va_S (fun q => g.2.2.2 ≤ q) X.1.2.2.1.heap H locs → LH ls 4 L →
    W X.1.1 g.1 X.1.2.1 room_1 X.1.2.2.1 X.1.2.2.2.1 #[Value.ref X.1.2.2.2.2.2.2.2] X.1.2.2.2.2.1 X.1.2.2.2.2.2.1 X.1.2.2.2.2.2.2.1 H locs sg.1 sg.2.1 (lw_Z X.1.2.2.2.2.1 #[Value.ref X.1.2.2.2.2.2.2.2] X.1.2.2.1) (F0 X.1.2.2.2.1 pc ls st)
section LROWS
variable {g : GC} {Ln : Nat} {xs : Nat → Int32} {ak av : Nat} {X : LCx g Ln xs ak av} {sg : SG} {I : IM} {pc : Nat} {L : List (Option Value)} {st : List Value}
abbrev lxb (X : LCx g Ln xs ak av) : Nat := X.1.2.2.2.2.2.2.2
theorem lx_exec (X : LCx g Ln xs ak av) : X.1.1.tables.exec = Jvm.exec := X.2.1.1
theorem lx_bytes (X : LCx g Ln xs ak av) : X.1.2.2.2.2.2.2.1.code = code := X.2.1.2.1
theorem lx_ret (X : LCx g Ln xs ak av) : X.1.2.2.2.2.2.1.sig.returnType = ret := X.2.1.2.2.1
theorem lx_maxL (X : LCx g Ln xs ak av) : X.1.2.2.2.2.2.2.1.maxLocals = 4 := X.2.1.2.2.2.1
theorem lx_own (X : LCx g Ln xs ak av) : X.1.2.2.1.vm.findClass R_law = some X.1.2.2.2.1.cls := X.2.1.2.2.2.2.1
theorem lx_hts (X : LCx g Ln xs ak av) : ∀ w ∈ gw, w.before #[Value.ref (lxb X)] X.1.2.2.1 = true := fun w hw => X.2.1.2.2.2.2.2.1 w (List.mem_filter.mp hw).1
theorem lx_X (X : LCx g Ln xs ak av) : va_X (lxb X) Ln xs X.1.2.2.1 X.1.2.2.1.heap := X.2.1.2.2.2.2.2.2.1
theorem lx_b (X : LCx g Ln xs ak av) : lxb X < X.1.2.2.1.heap.size := X.2.1.2.2.2.2.2.2.2.1
theorem lx_locks (X : LCx g Ln xs ak av) : X.1.2.2.2.2.2.1.locks = false := X.2.1.2.2.2.2.2.2.2.2.1
theorem lx_size (X : LCx g Ln xs ak av) : X.1.2.2.1.heap.size = g.2.2.2 := X.2.2.1
theorem lx_K (X : LCx g Ln xs ak av) : va_K g.2.1 kcl (gtys g) X.1.2.2.1 := X.2.2.2.1
theorem lx_NW (X : LCx g Ln xs ak av) : NW X.1.2.2.1 := X.2.2.2.2.1
theorem lx_SW (X : LCx g Ln xs ak av) : SW g ak av X.1.2.2.1 := X.2.2.2.2.2.1
theorem lx_320 (X : LCx g Ln xs ak av) : Ln ≤ 320 := X.2.2.2.2.2.2
theorem lx_bA (X : LCx g Ln xs ak av) : ¬ g.2.2.2 ≤ lxb X := by have := lx_b X; have := lx_size X; omega
theorem U_iadd {x y : Int32} (hd : decode code pc = .ok (.iadd, 1)) (kk : U X sg I (pc + 1) L (.int (x + y) :: st)) : U X sg I pc L (.int y :: .int x :: st) := fun H locs ls h1 h2 h3 => lv_iadd (lx_exec X) (lx_bytes X) hd (kk H locs ls h1 h2 h3)
theorem U_isub {x y : Int32} (hd : decode code pc = .ok (.isub, 1)) (kk : U X sg I (pc + 1) L (.int (x - y) :: st)) : U X sg I pc L (.int y :: .int x :: st) := fun H locs ls h1 h2 h3 => lv_isub (lx_exec X) (lx_bytes X) hd (kk H locs ls h1 h2 h3)
theorem U_iand {x y : Int32} (hd : decode code pc = .ok (.iand, 1)) (kk : U X sg I (pc + 1) L (.int (x &&& y) :: st)) : U X sg I pc L (.int y :: .int x :: st) := fun H locs ls h1 h2 h3 => lv_iand (lx_exec X) (lx_bytes X) hd (kk H locs ls h1 h2 h3)
theorem U_lcmp {x y : Int64} (hd : decode code pc = .ok (.lcmp, 1)) (kk : U X sg I (pc + 1) L (.int (lg_cmp x y) :: st)) : U X sg I pc L (.long y :: .long x :: st) := fun H locs ls h1 h2 h3 => W.lcmp (lx_exec X) (lx_bytes X) hd (kk H locs ls h1 h2 h3)
theorem U_iconst {n : Int} (v : Int32) (hv : Int32.ofInt n = v) (hd : decode code pc = .ok (.iconst n, 1)) (kk : U X sg I (pc + 1) L (.int v :: st)) : U X sg I pc L st := fun H locs ls h1 h2 h3 => lv_iconst (lx_exec X) (lx_bytes X) hd hv (kk H locs ls h1 h2 h3)
theorem U_bipush {n : Int} (v : Int32) (hv : (Int8.ofInt n).toInt32 = v) (hd : decode code pc = .ok (.bipush n, 2)) (kk : U X sg I (pc + 2) L (.int v :: st)) : U X sg I pc L st := fun H locs ls h1 h2 h3 => lv_bipush (lx_exec X) (lx_bytes X) hd hv (kk H locs ls h1 h2 h3)
theorem U_iload_n {k : Fin 4} {x : Int32} (hL : L[(k : Nat)]? = some (some (.int x))) (hd : decode code pc = .ok (.iload_n k, 1)) (kk : U X sg I (pc + 1) L (.int x :: st)) : U X sg I pc L st := fun H locs ls h1 h2 h3 => lv_iload_n (lx_exec X) (lx_bytes X) hd rfl (h3.2.2 _ _ hL) (kk H locs ls h1 h2 h3)
theorem U_aload_n {k : Fin 4} {x : Nat} (hL : L[(k : Nat)]? = some (some (.ref x))) (hd : decode code pc = .ok (.aload_n k, 1)) (kk : U X sg I (pc + 1) L (.ref x :: st)) : U X sg I pc L st := fun H locs ls h1 h2 h3 => lv_aload_n (lx_exec X) (lx_bytes X) hd rfl (h3.2.2 _ _ hL) (kk H locs ls h1 h2 h3)
theorem U_dup {v : Value} (hc : v.category = 1) (hd : decode code pc = .ok (.dup, 1)) (kk : U X sg I (pc + 1) L (v :: v :: st)) : U X sg I pc L (v :: st) := fun H locs ls h1 h2 h3 => lv_dup (lx_exec X) (lx_bytes X) hd hc (kk H locs ls h1 h2 h3)
theorem U_goto {off : Int} (tgt : Nat) (hd : decode code pc = .ok (.goto off, 3)) (ht : (pc : Int) + off = (tgt : Int)) (kk : U X sg I tgt L st) : U X sg I pc L st := fun H locs ls h1 h2 h3 => lv_goto (lx_exec X) (lx_bytes X) hd ht (kk H locs ls h1 h2 h3)
theorem U_icmp_eq {x y : Int32} {off : Int} (tgt : Nat) (hd : decode code pc = .ok (.if_icmp .eq off, 3)) (ht : (pc : Int) + off = (tgt : Int)) (kt : x = y → U X sg I tgt L st) (kf : ¬ x = y → U X sg I (pc + 3) L st) : U X sg I pc L (.int y :: .int x :: st) := fun H locs ls h1 h2 h3 => lv_icmp_eq (lx_exec X) (lx_bytes X) hd ht (fun h => kt h H locs ls h1 h2 h3) (fun h => kf h H locs ls h1 h2 h3)
theorem U_icmp_gt {x y : Int32} {off : Int} (tgt : Nat) (hd : decode code pc = .ok (.if_icmp .gt off, 3)) (ht : (pc : Int) + off = (tgt : Int)) (kt : y < x → U X sg I tgt L st) (kf : ¬ y < x → U X sg I (pc + 3) L st) : U X sg I pc L (.int y :: .int x :: st) := fun H locs ls h1 h2 h3 => lv_icmp_gt (lx_exec X) (lx_bytes X) hd ht (fun h => kt h H locs ls h1 h2 h3) (fun h => kf h H locs ls h1 h2 h3)
theorem U_if_eq {x : Int32} {off : Int} (tgt : Nat) (hd : decode code pc = .ok (.ifCond .eq off, 3)) (ht : (pc : Int) + off = (tgt : Int)) (kt : x = 0 → U X sg I tgt L st) (kf : ¬ x = 0 → U X sg I (pc + 3) L st) : U X sg I pc L (.int x :: st) := fun H locs ls h1 h2 h3 => lv_if_eq (lx_exec X) (lx_bytes X) hd ht (fun h => kt h H locs ls h1 h2 h3) (fun h => kf h H locs ls h1 h2 h3)
theorem U_tableIn {dflt lo hi : Int} {offs : Array Int} {len : Nat} {x : Int32} (off : Int) (tgt : Nat) (hd : decode code pc = .ok (.tableswitch dflt lo hi offs, len)) (h1 : ¬ x.toInt < lo) (h2 : ¬ hi < x.toInt) (ho : offs[(x.toInt - lo).toNat]? = some off) (ht : (pc : Int) + off = (tgt : Int)) (kk : U X sg I tgt L st) : U X sg I pc L (.int x :: st) := fun H locs ls q1 q2 q3 => lv_tableIn (lx_exec X) (lx_bytes X) hd h1 h2 ho ht (kk H locs ls q1 q2 q3)
theorem U_ast {k : Fin 4} {x : Nat} (hi : (k : Nat) < 4) (hp : ∀ w, 0 < (k : Nat) → L[(k : Nat) - 1]? = some (some w) → w.category = 1) (hd : decode code pc = .ok (.astore_n k, 1)) (kk : U X sg I (pc + 1) (L.set (k : Nat) (some (.ref x))) st) : U X sg I pc L (.ref x :: st) := fun H locs ls h1 h2 h3 => lv_astore_n (lx_exec X) (lx_bytes X) hd rfl (LH_asc h3) hi rfl (fun ls' h => kk H locs ls' h1 h2 (LH_set hp h))
theorem U_ist {k : Fin 4} {x : Int32} (hi : (k : Nat) < 4) (hp : ∀ w, 0 < (k : Nat) → L[(k : Nat) - 1]? = some (some w) → w.category = 1) (hd : decode code pc = .ok (.istore_n k, 1)) (kk : U X sg I (pc + 1) (L.set (k : Nat) (some (.int x))) st) : U X sg I pc L (.int x :: st) := fun H locs ls h1 h2 h3 => lv_istore_n (lx_exec X) (lx_bytes X) hd rfl (LH_asc h3) hi rfl (fun ls' h => kk H locs ls' h1 h2 (LH_set hp h))
theorem U_iinc {i : Nat} {n : Int} {x : Int32} (v : Int32) (hv : x + Int32.ofInt n = v) (hL : L[i]? = some (some (.int x))) (hi : i < 4) (hp : ∀ w, 0 < i → L[i - 1]? = some (some w) → w.category = 1) (hd : decode code pc = .ok (.iinc i n, 3)) (kk : U X sg I (pc + 3) (L.set i (some (.int v))) st) : U X sg I pc L st := by
  intro H locs ls h1 h2 h3
  obtain ⟨k, hk⟩ := List.getElem?_of_mem (asc_mem.mpr hL)
  exact lv_iinc (lx_exec X) (lx_bytes X) hd (LH_asc h3) hk hv hi rfl (fun ls' h => kk H locs ls' h1 h2 (LH_set hp h))
theorem U_sld {j : Nat} (hj : j < Ln) (hd : decode code pc = .ok (.iaload, 1)) (kk : U X sg I (pc + 1) L (.int (xs j) :: st)) : U X sg I pc L (.int (nI j) :: .ref (lxb X) :: st) := fun H locs ls h1 h2 h3 => by
  have h9 := lx_320 X
  refine va_sld (lx_exec X) (lx_bytes X) (lx_X X) (lx_b X) (lx_bA X) h2 (i := nI j) (vp_in_nI hj (by omega)) hd ?_
  rw [nI_clamp (by omega)]
  exact kk H locs ls h1 h2 h3
theorem U_slen (hd : decode code pc = .ok (.arraylength, 1)) (kk : U X sg I (pc + 1) L (.int (nI Ln) :: st)) : U X sg I pc L (.ref (lxb X) :: st) := fun H locs ls h1 h2 h3 => va_slen (lx_exec X) (lx_bytes X) (lx_X X) (lx_b X) (lx_bA X) h2 hd (kk H locs ls h1 h2 h3)
/-- the end: true -/
theorem U_end (h1 : sg.1 ≤ 600000) (h2 : sg.2.1 ≤ 7302250) (hd : decode code pc = .ok (.ireturn, 1)) : U X sg I pc L [.int 1] := fun H locs ls q1 q2 q3 => by
  refine va_forget (fun q hq => by rw [lx_size X]; exact q2.2.2 q hq) ?_
  refine W.widen (k := 600000) (n := 7302250) h1 h2 ?_
  exact lw_ret (lx_exec X) (lx_bytes X) (lx_ret X) (lx_locks X) hd
theorem U_new {idx : Nat} (c : Nat) (hc : c < 7) (hcl : Cond.classLink RL idx (kC c) ∈ gw) (hin : Cond.instantiable (kC c) (kN c) ∈ gw) (hini : Cond.initialized (kC c) ∈ gw) (hdf : ∀ k, k < kN c → defaultValue (kTy c k) = if isRf c k = true then .null else .int 0)
    (hfit : sg.1 + 1 ≤ 600000 ∧ sg.2.1 + kN c ≤ 7302250) (hd : decode code pc = .ok (.new idx, 3)) (kk : U X (sgN sg (kN c) (c, 0)) (imN sg I) (pc + 3) L (rf g sg.1 :: st)) : U X sg I pc L st := by
  intro H locs ls h1 h2 h3
  have hKn := (lx_K X).1 c _ (kcl_at c hc)
  refine W.newcK (lx_exec X) (lx_bytes X) (lx_own X) (lx_hts X _ hcl) (lx_hts X _ hin) (lx_hts X _ hini) rfl hd hfit.1 hfit.2 hKn.2.1 h1.1 fun H1 kC0 hkC e1 z1 o1 => ?_
  have ho : ∀ q, q < g.2.2.2 + sg.1 → H1[q]? = H[q]? := o1
  exact kk H1 locs ls (Hp_new h1 z1 ho (by
      unfold hat
      have hs : (sgN sg (kN c) (c, 0)).2.2.1 sg.1 = (c, 0) := if_pos rfl
      rw [hs, if_pos hc]
      refine (u_born (kTy c) (lx_hts X) (u_gw c hc) hKn hkC e1 (kTy_ok c hc)).to fun k hk => ?_
      rw [hdf k hk]
      unfold hv
      rw [hs]
      show _ = if _ then rv g (if sg.1 = sg.1 then none else _) else .int (if sg.1 = sg.1 then 0 else _)
      rw [if_pos rfl, if_pos rfl]; rfl)) ⟨Nat.le_trans h2.1 (by rw [z1, h1.1]; omega), fun x q1 q2 => (ho x (by have := h2.1; have := h1.1; omega)).trans (h2.2.1 x q1 q2), h2.2.2⟩ h3
/-- what a call leaves -/
theorem U_back {mi' : MI} {Q : Option Value → SG → IM → Prop} {pc' : Nat} {st0 : List Value} {a : Array Value} {H : Heap} {locs : List Loc} {ls : Array Slot} (h1 : Hp g sg I H) (h2 : va_S (fun q => g.2.2.2 ≤ q) X.1.2.2.1.heap H locs) (h3 : LH ls 4 L) (hpc : pc + 3 = pc')
    (hr : va_Run X.1.1 g.1 X.1.2.1 room_1 X.1.2.2.1 X.1.2.2.2.1 #[Value.ref (lxb X)] X.1.2.2.2.2.1 X.1.2.2.2.2.2.1 X.1.2.2.2.2.2.2.1 H locs sg.1 sg.2.1 mi'.2.2.2.2.2.1 mi'.2.2.2.2.2.2 (F0 X.1.2.2.2.1 pc ls st0) st (QCt g mi' sg Q a) (fun q => g.2.2.2 ≤ q))
    (kk : ∀ r sg' I', Q r sg' I' → U X sg' I' pc' L (r.toList ++ st)) : W X.1.1 g.1 X.1.2.1 room_1 X.1.2.2.1 X.1.2.2.2.1 #[Value.ref (lxb X)] X.1.2.2.2.2.1 X.1.2.2.2.2.2.1 X.1.2.2.2.2.2.2.1 H locs sg.1 sg.2.1 (lw_Z X.1.2.2.2.2.1 #[Value.ref (lxb X)] X.1.2.2.1) (F0 X.1.2.2.2.1 pc ls st0) := by
  subst hpc
  intro T hT XX
  obtain ⟨v, st₀, t, T', Lc, h0, X', hL, e1, e2, ⟨⟨r, sg', I', hrv, ⟨hQ, hn, hu⟩, hH⟩, hz, hk⟩, stp⟩ := hr T hT XX
  cases hrv
  rw [h0] at hz hk
  have hSz : X.1.2.2.1.heap.size ≤ H.size := h2.1
  have h4 := kk _ sg' I' hQ T'.heap (locs ++ Lc) ls (by rw [e1]; exact hH)
    ⟨Nat.le_trans hSz (by rw [e1]; exact hz), fun q q1 q2 => by rw [e1, hk q (Nat.lt_of_lt_of_le q1 hSz) q2]; exact h2.2.1 q q1 q2, fun q hq => by
      rcases List.mem_append.mp hq with h | h
      · exact h2.2.2 q h
      · exact hL q h⟩ h3
  rw [hn, hu] at h4
  obtain ⟨t2, a1, b1⟩ := h4 T' rfl X'
  exact ⟨t2, stp t2 a1, b1⟩
theorem Wd_law {H : Heap} (h1 : Hp g sg I H) (U0 : State) (hU : U0.heap = H) (hW : X.1.2.2.1.WarmedH U0.vm) : Wd g sg I U0 :=
  ⟨by rw [hU]; exact h1, va_K.moved hW.alike (lx_K X), NW_warm hW (lx_NW X)⟩
theorem SW_law {H : Heap} {locs : List Loc} (h2 : va_S (fun q => g.2.2.2 ≤ q) X.1.2.2.1.heap H locs) (U0 : State) (hU : U0.heap = H) (hW : X.1.2.2.1.WarmedH U0.vm) : SW g ak av U0 := by
  obtain ⟨a, b, c, d, e, f, k⟩ := lx_SW X
  unfold SW
  rw [hU]
  exact ⟨a.warm hW, (b.kept h2.2.1).moved hW.alike, (c.kept h2.2.1).moved hW.alike, (d.kept h2.2.1).moved hW.alike, (e.kept h2.2.1).moved hW.alike, (f.kept h2.2.1).moved hW.alike, (k.kept h2.2.1).moved hW.alike⟩
def rmlw (mi' : MI) : Bool := Nat.ble (mi'.2.2.2.2.1 + 1) 9 && Nat.ble (8 + (mi'.2.2.1 + 11) + 40 * mi'.2.2.2.2.1) 336
theorem rmlw_fr {mi' : MI} (h : rmlw mi' = true) : (mrm mi').frames + 1 ≤ room_1.frames := by
  simp only [rmlw, Bool.and_eq_true] at h; exact Nat.le_of_ble_eq_true h.1
theorem rmlw_lo {mi' : MI} (h : rmlw mi' = true) : 8 + (mi'.2.2.1 + 11) + (mrm mi').locals ≤ room_1.locals := by
  simp only [rmlw, Bool.and_eq_true] at h; exact Nat.le_of_ble_eq_true h.2
theorem U_callV {mi' : MI} {Q : Option Value → SG → IM → Prop} {q idx : Nat} {As st1 : List Value} (c : Nat) (hM : Ct mi' g (rf g q :: As) sg I Q) (hk : (sg.2.2.1 q).1 = c) (hc : c < 7) (hcl : mi'.1.cls = kC c)
    (hl : Cond.methodLink RL idx mi'.1 ∈ gw) (hin : Cond.instanceMethod mi'.1 ∈ gw) (hse : Cond.selects mi'.1.cls mi'.1 mi'.1 ∈ gw) (hini : Cond.initialized mi'.1.cls ∈ gw) (hco : Cond.code mi'.1 mi'.2.1 mi'.2.2.1 mi'.2.2.2.1 ∈ gw) (hn : okn mi'.1 As.length) (hR : rmlw mi' = true)
    (hfit : sg.1 + mi'.2.2.2.2.2.1 ≤ 600000 ∧ sg.2.1 + mi'.2.2.2.2.2.2 ≤ 7302250) (hst : (st.map fun v => v.category).sum ≤ 8) (hd : decode code pc = .ok (.invokevirtual idx, 3)) (hs1 : st1 = As.reverse ++ rf g q :: st)
    (kk : ∀ r sg' I', Q r sg' I' → U X sg' I' (pc + 3) L (r.toList ++ st)) : U X sg I pc L st1 := by
  subst hs1
  intro H locs ls h1 h2 h3
  obtain ⟨cell, q1, q2, q3, q4⟩ := hob h1 hk hc
  refine U_back h1 h2 h3 rfl (va_runV (As := As) (bytes := mi'.2.1) (maxL := mi'.2.2.1) (ret := mi'.2.2.2.1) ⟨lx_exec X, lx_bytes X, lx_maxL X, lx_own X, lx_hts X⟩ hM (C := mi'.1.cls) ?_ ⟨Ct_blind, ⟨cell, q1, by rw [q3]; rfl, by rw [q2, hcl]; exact ((lx_K X).1 c _ (kcl_at c hc)).2.1⟩, fun U0 hU hW => ⟨rfl, Wd_law h1 U0 hU hW⟩⟩ rfl rfl h3.1 rfl (lv_room hst) hd hfit) kk
  exact cwV As.length (lx_hts X) (gw_good fun w hw => by
    unfold wsV at hw
    rcases List.mem_append.mp hw with hw | hw
    · simp only [List.mem_cons, List.not_mem_nil, or_false] at hw
      rcases hw with rfl | rfl | rfl | rfl
      · exact hl
      · exact hin
      · exact hse
      · exact hini
    · exact (mws_good hco w hw).1) rfl rfl rfl ⟨rfl, hn⟩ ⟨rmlw_fr hR, rmlw_lo hR⟩
theorem U_callI {mi' : MI} {Q : Option Value → SG → IM → Prop} {q idx : Nat} {As st1 : List Value} (hM : Ct mi' g (rf g q :: As) sg I Q) (hrn : mi'.2.2.2.1 = none) (hy1 : mi'.1.name = "<init>")
    (hl : Cond.methodLink RL idx mi'.1 ∈ gw) (hin : Cond.instanceMethod mi'.1 ∈ gw) (hini : Cond.initialized mi'.1.cls ∈ gw) (hco : Cond.code mi'.1 mi'.2.1 mi'.2.2.1 mi'.2.2.2.1 ∈ gw) (hn : okn mi'.1 As.length) (hR : rmlw mi' = true)
    (hfit : sg.1 + mi'.2.2.2.2.2.1 ≤ 600000 ∧ sg.2.1 + mi'.2.2.2.2.2.2 ≤ 7302250) (hst : (st.map fun v => v.category).sum ≤ 8) (hd : decode code pc = .ok (.invokespecial idx, 3)) (hs1 : st1 = As.reverse ++ rf g q :: st)
    (kk : ∀ r sg' I', Q r sg' I' → U X sg' I' (pc + 3) L (r.toList ++ st)) : U X sg I pc L st1 := by
  subst hs1
  intro H locs ls h1 h2 h3
  exact U_back h1 h2 h3 rfl (va_runI (As := As) (bytes := mi'.2.1) (maxL := mi'.2.2.1) ⟨lx_exec X, lx_bytes X, lx_maxL X, lx_own X, lx_hts X⟩ hM (cwI (bytes := mi'.2.1) (maxL := mi'.2.2.1) As.length (lx_hts X) (mws_good hco) (by unfold mws; rw [hrn]) rfl rfl (lx_hts X _ hini) (lx_hts X _ hl) (lx_hts X _ hin) hy1 hn ⟨rmlw_fr hR, rmlw_lo hR⟩) ⟨Ct_blind, fun U0 hU hW => ⟨rfl, Wd_law h1 U0 hU hW⟩⟩ rfl rfl h3.1 rfl (lv_room hst) hd hfit) kk
theorem U_callIs {mi' : MI} {Q : Option Value → SG → IM → Prop} {q idx : Nat} {As st1 : List Value} (hM : CtS mi' g ak av (rf g q :: As) sg I Q) (hrn : mi'.2.2.2.1 = none) (hy1 : mi'.1.name = "<init>")
    (hl : Cond.methodLink RL idx mi'.1 ∈ gw) (hin : Cond.instanceMethod mi'.1 ∈ gw) (hini : Cond.initialized mi'.1.cls ∈ gw) (hco : Cond.code mi'.1 mi'.2.1 mi'.2.2.1 mi'.2.2.2.1 ∈ gw) (hn : okn mi'.1 As.length) (hR : rmlw mi' = true)
    (hfit : sg.1 + mi'.2.2.2.2.2.1 ≤ 600000 ∧ sg.2.1 + mi'.2.2.2.2.2.2 ≤ 7302250) (hst : (st.map fun v => v.category).sum ≤ 8) (hd : decode code pc = .ok (.invokespecial idx, 3)) (hs1 : st1 = As.reverse ++ rf g q :: st)
    (kk : ∀ r sg' I', Q r sg' I' → U X sg' I' (pc + 3) L (r.toList ++ st)) : U X sg I pc L st1 := by
  subst hs1
  intro H locs ls h1 h2 h3
  exact U_back h1 h2 h3 rfl (va_runI (As := As) (bytes := mi'.2.1) (maxL := mi'.2.2.1) ⟨lx_exec X, lx_bytes X, lx_maxL X, lx_own X, lx_hts X⟩ hM (cwI (bytes := mi'.2.1) (maxL := mi'.2.2.1) As.length (lx_hts X) (mws_good hco) (by unfold mws; rw [hrn]) rfl rfl (lx_hts X _ hini) (lx_hts X _ hl) (lx_hts X _ hin) hy1 hn ⟨rmlw_fr hR, rmlw_lo hR⟩) ⟨CtS_blind, fun U0 hU hW => ⟨rfl, Wd_law h1 U0 hU hW, SW_law h2 U0 hU hW⟩⟩ rfl rfl h3.1 rfl (lv_room hst) hd hfit) kk
end LROWS
