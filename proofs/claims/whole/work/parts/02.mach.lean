/-! THE MACHINE LAYER: one judgement V over a memory of numbers (I), references (R) and kinds, each instruction a row. -/
def kC : Nat → String
  | 0 => RX0 | 1 => RX1 | 2 => RX2 | 3 => RX3 | 4 => RX4 | 5 => RX5 | _ => RX6
def kT : Nat → u_T
  | 0 => TX0 | 1 => TX1 | 2 => TX2 | 3 => TX3 | 4 => TX4 | 5 => TX5 | _ => TX6
def kN : Nat → Nat
  | 0 => 3 | 1 => 4 | 2 => 3 | 3 => 8 | 4 => 4 | 5 => 7 | _ => 19
def kTy : Nat → Nat → FieldType
  | 0 => tyX0 | 1 => tyX1 | 2 => tyX2 | 3 => tyX3 | 4 => tyX4 | 5 => tyX5 | _ => tyX6
abbrev kcl : List vw_C := [(RX0, TX0, 3), (RX1, TX1, 4), (RX2, TX2, 3), (RX3, TX3, 8), (RX4, TX4, 4), (RX5, TX5, 7), (RX6, TX6, 19)]
theorem kcl_at : ∀ c, c < 7 → kcl[c]? = some (kC c, kT c, kN c) := by
  intro c hc
  match c, hc with
  | 0, _ => rfl
  | 1, _ => rfl
  | 2, _ => rfl
  | 3, _ => rfl
  | 4, _ => rfl
  | 5, _ => rfl
  | 6, _ => rfl
/-- which fields of which class hold a reference; kind 10: an array of references -/
def isRf : Nat → Nat → Bool
  | 0, k => k == 0
  | 1, k => k == 2
  | 2, k => decide (k < 2)
  | 3, k => decide (k < 5)
  | 4, k => decide (k < 2)
  | 5, _ => true
  | 6, k => (k == 1) || decide (3 ≤ k ∧ k < 9) || k == 10 || k == 16 || k == 17
  | 10, _ => true
  | _, _ => false
/-- the context: launch, classes and slots, the array classes (int, byte, boolean, Week), the first address -/
abbrev GC : Type := Launch × va_G × (ClassId × ClassId × ClassId × ClassId) × Nat
abbrev rf (g : GC) (q : Nat) : Value := .ref (g.2.2.2 + q)
/-- how many objects, how many slots, kind and length of each, references -/
abbrev SG : Type := Nat × Nat × (Nat → Nat × Nat) × (Nat → Nat → Option Nat)
abbrev IM : Type := Nat → Nat → Int32
def rv (g : GC) (r : Option Nat) : Value := va_rf (r.map (fun q => g.2.2.2 + q))
theorem rv_some {g : GC} {r : Option Nat} {q : Nat} (h : r = some q) : rv g r = rf g q := by subst h; rfl
theorem rv_none {g : GC} {r : Option Nat} (h : r = none) : rv g r = .null := by subst h; rfl
def kA (g : GC) (c : Nat) : ClassId := if c = 7 then g.2.2.1.1 else if c = 8 then g.2.2.1.2.1 else if c = 9 then g.2.2.1.2.2.1 else g.2.2.1.2.2.2
def kATy (c : Nat) : FieldType := if c = 7 then .int else if c = 8 then .byte else if c = 9 then .boolean else .object RX4
abbrev gtys (g : GC) : List (ClassId × FieldType) := [(g.2.2.1.1, .int), (g.2.2.1.2.1, .byte), (g.2.2.1.2.2.1, .boolean), (g.2.2.1.2.2.2, .object RX4)]
def hv (g : GC) (sg : SG) (I : IM) (q k : Nat) : Value := if isRf (sg.2.2.1 q).1 k = true then rv g (sg.2.2.2 q k) else .int (I q k)
def hat (g : GC) (sg : SG) (I : IM) (q : Nat) (H : Heap) : Prop :=
  if (sg.2.2.1 q).1 < 7 then t_OB (g.2.2.2 + q) (g.2.1.1 (sg.2.2.1 q).1) (kN (sg.2.2.1 q).1) (g.2.1.2 (sg.2.2.1 q).1) H (hv g sg I q)
  else H[g.2.2.2 + q]? = some (arrV (kA g (sg.2.2.1 q).1) (sg.2.2.1 q).2 (hv g sg I q))
def Hp (g : GC) (sg : SG) (I : IM) (H : Heap) : Prop := H.size = g.2.2.2 + sg.1 ∧ ∀ q, (sg.2.2.1 q).1 ≠ 99 → q < sg.1 ∧ hat g sg I q H
def isNest : Cond → Bool
  | .fieldLinkNest _ _ _ _ _ _ => true
  | .methodLinkNest _ _ _ _ => true
  | _ => false
def nw : List Cond := lw_tbl.filter isNest
def gw : List Cond := lw_tbl.filter goodWord
def NW (U : State) : Prop := (∀ w ∈ nw, va_Nw w U) ∧ va_AO RX4 U
theorem isNest_tab {w : Cond} (h : isNest w = true) : w.onTables = true := by
  cases w <;> first | rfl | cases h
theorem NW_use {U : State} (h : NW U) {w : Cond} (hw : w ∈ nw) {A : Array Value} : w.before A U = true := va_Nw.use (isNest_tab (List.mem_filter.mp hw).2) (h.1 w hw)
theorem NW_warm {s U : State} (hW : s.WarmedH U.vm) (h : NW s) : NW U := by
  refine ⟨fun w hw => ?_, ?_⟩
  · have h1 := h.1 w hw
    have h2 := (List.mem_filter.mp hw).2
    cases w <;> first | exact va_Nw.warmF hW h1 | exact va_Nw.warmM hW h1 | cases h2
  · exact va_AO.moved hW.alike h.2
theorem gw_mem {w : Cond} (h : w ∈ lw_tbl) (hg : goodWord w = true) : w ∈ gw := List.mem_filter.mpr ⟨h, hg⟩
theorem nw_mem {w : Cond} (h : w ∈ lw_tbl) (hg : isNest w = true) : w ∈ nw := List.mem_filter.mpr ⟨h, hg⟩
theorem gw_good {ws : List Cond} (h : ∀ w ∈ ws, w ∈ gw) : GoodIn gw ws := fun w hw => ⟨h w hw, good_of_word (List.mem_filter.mp (h w hw)).2⟩
/-- a method: name, bytes, locals, answer, (level, cells, slots) -/
abbrev MI : Type := MethodName × ByteArray × Nat × Option FieldType × (Nat × Nat × Nat)
def mrm (mi : MI) : Room := { frames := mi.2.2.2.2.1, cells := mi.2.2.2.2.2.1, slots := mi.2.2.2.2.2.2, locals := 40 * mi.2.2.2.2.1 }
def mws (mi : MI) : List Cond := .code mi.1 mi.2.1 mi.2.2.1 mi.2.2.2.1 :: gw
def Wd (g : GC) (sg : SG) (I : IM) (U : State) : Prop := Hp g sg I U.heap ∧ va_K g.2.1 kcl (gtys g) U ∧ NW U
def QCt (g : GC) (mi : MI) (sg : SG) (Q : Option Value → SG → IM → Prop) : Array Value → State → Outcome → State → Prop := fun _ st oc t =>
  (∃ r sg' I', oc = .returned r ∧ (Q r sg' I' ∧ sg'.1 = sg.1 + mi.2.2.2.2.2.1 ∧ sg'.2.1 = sg.2.1 + mi.2.2.2.2.2.2) ∧ Hp g sg' I' t.heap) ∧ va_F (fun q => g.2.2.2 ≤ q) st t
def Ct (mi : MI) (g : GC) (av : List Value) (sg : SG) (I : IM) (Q : Option Value → SG → IM → Prop) : Prop :=
  Met g.1 mi.1 (mws mi) (mrm mi) (fun v U => v = av.toArray ∧ Wd g sg I U) (QCt g mi sg Q) mi.2.2.2.2.2.1 mi.2.2.2.2.2.2 (fun q => g.2.2.2 ≤ q)
/-- a contract with one answer and one memory behind it -/
abbrev Fn (mi : MI) (g : GC) (av : List Value) (sg : SG) (I : IM) (r : Option Value) (sg' : SG) (I' : IM) : Prop := Ct mi g av sg I (fun r0 s0 I0 => r0 = r ∧ s0 = sg' ∧ I0 = I')
abbrev XT : Type := Program × Env × State × MethodId × Array Value × List Frame × Method × Code × Room
def Fix (mi : MI) (g : GC) (sg0 : SG) (x : XT) : Prop :=
  x.1.tables.exec = Jvm.exec ∧ x.2.2.2.2.2.2.2.1.code = mi.2.1 ∧ x.2.2.2.2.2.2.2.1.maxLocals = mi.2.2.1 ∧ x.2.2.2.2.2.2.1.sig.returnType = mi.2.2.2.1 ∧ x.2.2.1.vm.findClass mi.1.cls = some x.2.2.2.1.cls ∧
  (∀ w ∈ gw, w.before x.2.2.2.2.1 x.2.2.1 = true) ∧ va_K g.2.1 kcl (gtys g) x.2.2.1 ∧ NW x.2.2.1 ∧ x.2.2.2.2.2.2.1.locks = false ∧ x.2.2.2.2.2.2.1.name = mi.1.name ∧ x.2.2.1.heap.size = g.2.2.2 + sg0.1 ∧ x.2.2.2.2.2.2.2.2 = mrm mi
abbrev Cx (mi : MI) (g : GC) (sg0 : SG) : Type := { x : XT // Fix mi g sg0 x }
section CX
variable {mi : MI} {g : GC} {sg0 : SG}
theorem cx_exec (X : Cx mi g sg0) : X.1.1.tables.exec = Jvm.exec := X.2.1
theorem cx_bytes (X : Cx mi g sg0) : X.1.2.2.2.2.2.2.2.1.code = mi.2.1 := X.2.2.1
theorem cx_maxL (X : Cx mi g sg0) : X.1.2.2.2.2.2.2.2.1.maxLocals = mi.2.2.1 := X.2.2.2.1
theorem cx_ret (X : Cx mi g sg0) : X.1.2.2.2.2.2.2.1.sig.returnType = mi.2.2.2.1 := X.2.2.2.2.1
theorem cx_own (X : Cx mi g sg0) : X.1.2.2.1.vm.findClass mi.1.cls = some X.1.2.2.2.1.cls := X.2.2.2.2.2.1
theorem cx_hts (X : Cx mi g sg0) : ∀ w ∈ gw, w.before X.1.2.2.2.2.1 X.1.2.2.1 = true := X.2.2.2.2.2.2.1
theorem cx_K (X : Cx mi g sg0) : va_K g.2.1 kcl (gtys g) X.1.2.2.1 := X.2.2.2.2.2.2.2.1
theorem cx_NW (X : Cx mi g sg0) : NW X.1.2.2.1 := X.2.2.2.2.2.2.2.2.1
theorem cx_locks (X : Cx mi g sg0) : X.1.2.2.2.2.2.2.1.locks = false := X.2.2.2.2.2.2.2.2.2.1
theorem cx_name (X : Cx mi g sg0) : X.1.2.2.2.2.2.2.1.name = mi.1.name := X.2.2.2.2.2.2.2.2.2.2.1
theorem cx_size (X : Cx mi g sg0) : X.1.2.2.1.heap.size = g.2.2.2 + sg0.1 := X.2.2.2.2.2.2.2.2.2.2.2.1
theorem cx_room (X : Cx mi g sg0) : X.1.2.2.2.2.2.2.2.2 = mrm mi := X.2.2.2.2.2.2.2.2.2.2.2.2
end CX
/-- locals by place -/
def LH (ls : Array Slot) (nL : Nat) (L : List (Option Value)) : Prop := ls.size = nL ∧ lv_wf ls ∧ ∀ (i : Nat) (v : Value), L[i]? = some (some v) → ls[i]? = some (.val v)
def V {mi : MI} {g : GC} {sg0 : SG} (X : Cx mi g sg0) (Z : State → Prop) (sg : SG) (I : IM) (pc : Nat) (L : List (Option Value)) (st : List Value) : Prop :=
  sg0.1 ≤ sg.1 → sg0.2.1 ≤ sg.2.1 → ∀ (H : Heap) (locs : List Loc) (ls : Array Slot), Hp g sg I H → va_S (fun q => g.2.2.2 ≤ q) X.1.2.2.1.heap H locs → LH ls mi.2.2.1 L →
    W X.1.1 g.1 X.1.2.1 X.1.2.2.2.2.2.2.2.2 X.1.2.2.1 X.1.2.2.2.1 X.1.2.2.2.2.1 X.1.2.2.2.2.2.1 X.1.2.2.2.2.2.2.1 X.1.2.2.2.2.2.2.2.1 H locs (sg.1 - sg0.1) (sg.2.1 - sg0.2.1) Z (F0 X.1.2.2.2.1 pc ls st)
/-- the state behind a method's end -/
def ZQ {mi : MI} {g : GC} {sg0 : SG} (X : Cx mi g sg0) (Q : Option Value → SG → IM → Prop) : State → Prop :=
  MQ X.1.2.2.2.2.2.1 (QCt g mi sg0 Q) X.1.2.2.2.2.1 X.1.2.2.1 mi.2.2.2.2.2.1 mi.2.2.2.2.2.2 (fun q => g.2.2.2 ≤ q)
/-- the locals at a method's entry -/
def entL : List Value → List (Option Value)
  | [] => []
  | v :: vs => if v.category = 2 then some v :: none :: entL vs else some v :: entL vs
theorem entL_mem : ∀ (vs : List Value) (k i : Nat) (v : Value), (entL vs)[i]? = some (some v) → (k + i, v) ∈ lv_args k vs
  | [], k, i, v, h => by simp [entL] at h
  | w :: vs, k, i, v, h => by
    unfold entL at h
    unfold lv_args
    split at h
    · rename_i hc
      rw [if_pos hc]
      cases i with
      | zero => simp at h; subst h; simp
      | succ i =>
        cases i with
        | zero => simp at h
        | succ i =>
          simp only [List.getElem?_cons_succ] at h
          have := entL_mem vs (k + 2) i v h
          rw [show k + (i + 1 + 1) = k + 2 + i by omega]
          exact List.mem_cons_of_mem _ this
    · rename_i hc
      rw [if_neg hc]
      cases i with
      | zero => simp at h; subst h; simp
      | succ i =>
        simp only [List.getElem?_cons_succ] at h
        have := entL_mem vs (k + 1) i v h
        rw [show k + (i + 1) = k + 1 + i by omega]
        exact List.mem_cons_of_mem _ this
theorem LH_of {ls : Array Slot} {nL : Nat} {l : List (Nat × Value)} {L : List (Option Value)} (h : lv_has ls nL l) (hL : ∀ (i : Nat) (v : Value), L[i]? = some (some v) → (i, v) ∈ l) : LH ls nL L :=
  ⟨h.1, h.2.1, fun i v hi => h.2.2 (i, v) (hL i v hi)⟩
theorem LH_lv {ls : Array Slot} {nL : Nat} {L : List (Option Value)} (h : LH ls nL L) {l : List (Nat × Value)} (hl : ∀ q ∈ l, L[q.1]? = some (some q.2)) : lv_has ls nL l := ⟨h.1, h.2.1, fun q hq => h.2.2 _ _ (hl q hq)⟩
/-- the listed values of a list of locals -/
def asc (L : List (Option Value)) : List (Nat × Value) := (List.range L.length).filterMap (fun i => (L[i]?.join).map (fun v => (i, v)))
theorem asc_mem {L : List (Option Value)} {i : Nat} {v : Value} : (i, v) ∈ asc L ↔ L[i]? = some (some v) := by
  unfold asc
  rw [List.mem_filterMap]
  constructor
  · rintro ⟨j, -, h⟩
    cases hj : L[j]? with
    | none => rw [hj] at h; cases h
    | some o =>
      rw [hj] at h
      cases o with
      | none => cases h
      | some w => cases h; exact hj
  · intro h
    refine ⟨i, List.mem_range.mpr (List.getElem?_eq_some_iff.mp h).1, ?_⟩
    rw [h]; rfl
theorem LH_asc {ls : Array Slot} {nL : Nat} {L : List (Option Value)} (h : LH ls nL L) : lv_has ls nL (asc L) := LH_lv h (fun _ hq => asc_mem.mp hq)
theorem LH_set {ls : Array Slot} {nL i : Nat} {L : List (Option Value)} {v : Value} (hp : ∀ w, 0 < i → L[i - 1]? = some (some w) → w.category = 1) (h : lv_has ls nL ((i, v) :: (asc L).filter (fun q => !(q.1 == i) && !(q.1 + 1 == i && q.2.category == 2)))) : LH ls nL (L.set i (some v)) := by
  refine LH_of h fun j w hj => ?_
  by_cases hji : j = i
  · subst hji
    rw [List.getElem?_set_self' ] at hj
    cases hL : L[j]? with
    | none => rw [hL] at hj; cases hj
    | some o => rw [hL] at hj; cases hj; exact List.mem_cons_self
  · rw [List.getElem?_set_ne (Ne.symm hji)] at hj
    refine List.mem_cons_of_mem _ (List.mem_filter.mpr ⟨asc_mem.mpr hj, ?_⟩)
    have h1 : (j == i) = false := by simpa using hji
    by_cases h2 : j + 1 = i
    · have h3 := hp w (by omega) (by rw [show i - 1 = j by omega]; exact hj)
      simp [h1, h3]
    · have h4 : (j + 1 == i) = false := by simpa using h2
      simp [h1, h4]
theorem LH_set2 {ls : Array Slot} {nL i : Nat} {L : List (Option Value)} {v : Value} (hp : ∀ w, 0 < i → L[i - 1]? = some (some w) → w.category = 1) (h : lv_has ls nL ((i, v) :: (asc L).filter (fun q => !(q.1 == i) && (!(q.1 == i + 1) && !(q.1 + 1 == i && q.2.category == 2))))) : LH ls nL ((L.set i (some v)).set (i + 1) none) := by
  refine LH_of h fun j w hj => ?_
  by_cases hj1 : j = i + 1
  · subst hj1
    rw [List.getElem?_set_self'] at hj
    cases hL : (L.set i (some v))[i + 1]? with
    | none => rw [hL] at hj; cases hj
    | some o => rw [hL] at hj; cases hj
  rw [List.getElem?_set_ne (Ne.symm hj1)] at hj
  by_cases hji : j = i
  · subst hji
    rw [List.getElem?_set_self' ] at hj
    cases hL : L[j]? with
    | none => rw [hL] at hj; cases hj
    | some o => rw [hL] at hj; cases hj; exact List.mem_cons_self
  · rw [List.getElem?_set_ne (Ne.symm hji)] at hj
    refine List.mem_cons_of_mem _ (List.mem_filter.mpr ⟨asc_mem.mpr hj, ?_⟩)
    have h1 : (j == i) = false := by simpa using hji
    have h5 : (j == i + 1) = false := by simpa using hj1
    by_cases h2 : j + 1 = i
    · have h3 := hp w (by omega) (by rw [show i - 1 = j by omega]; exact hj)
      simp [h1, h3, h5]
    · have h4 : (j + 1 == i) = false := by simpa using h2
      simp [h1, h4, h5]
def okp : Option Value → Bool
  | none => true
  | some v => v.category == 1
theorem Ct.of {mi : MI} {g : GC} {av : List Value} {sg : SG} {I : IM} {Q : Option Value → SG → IM → Prop} (hy : plainName mi.1.cls = true) (hlen : (lg_sl av).length ≤ mi.2.2.1)
    (h : ∀ X : Cx mi g sg, V X (ZQ X Q) sg I 0 (entL av ++ List.replicate (mi.2.2.1 - (lg_sl av).length) none) []) : Ct mi g av sg I Q := by
  refine Met.ofW (cc := mi.2.1) (maxL := mi.2.2.1) (ret := mi.2.2.2.1) hy rfl ?_
  intro p e s m args below meth c s₁ B hml hv
  obtain ⟨rfl, hH, hK, hN⟩ := hv
  have hts := atoms_spec (ws := mws mi) B.pre
  have X : Fix mi g sg (p, e, s, m, av.toArray, below, meth, c, mrm mi) := ⟨B.exec, B.bytes, hml, B.returns, findClass_of_methodNamed B.named, fun w hw => hts w (List.mem_cons_of_mem _ hw), hK, hN, B.notSynchronized, (name_of_methodNamed B.named B.method).1, hH.1, rfl⟩
  have hl := lv_entry av (n := mi.2.2.1) hlen
  rw [lg_entry_eq]
  have h2 := h ⟨_, X⟩ (Nat.le_refl _) (Nat.le_refl _) s.heap [] _ hH va_S.rf (LH_of (L := entL av ++ List.replicate (mi.2.2.1 - (lg_sl av).length) none) hl fun i v hi => by
    have h3 : (entL av)[i]? = some (some v) := by
      by_cases hlt : i < (entL av).length
      · rwa [List.getElem?_append_left hlt] at hi
      · rw [List.getElem?_append_right (by omega)] at hi
        have := List.mem_of_getElem? hi
        rw [List.mem_replicate] at this
        cases this.2
    have := entL_mem av 0 i v h3
    rwa [Nat.zero_add] at this)
  rw [Nat.sub_self, Nat.sub_self] at h2
  exact h2
section ROWS
variable {mi : MI} {g : GC} {sg0 : SG} {X : Cx mi g sg0} {Z : State → Prop} {sg : SG} {I : IM} {pc : Nat} {L : List (Option Value)} {st : List Value}
theorem V_iadd {x y : Int32} (hd : decode mi.2.1 pc = .ok (.iadd, 1)) (kk : V X Z sg I (pc + 1) L (.int (x + y) :: st)) : V X Z sg I pc L (.int y :: .int x :: st) := fun a b H locs ls h1 h2 h3 => lv_iadd (cx_exec X) (cx_bytes X) hd (kk a b H locs ls h1 h2 h3)
theorem V_isub {x y : Int32} (hd : decode mi.2.1 pc = .ok (.isub, 1)) (kk : V X Z sg I (pc + 1) L (.int (x - y) :: st)) : V X Z sg I pc L (.int y :: .int x :: st) := fun a b H locs ls h1 h2 h3 => lv_isub (cx_exec X) (cx_bytes X) hd (kk a b H locs ls h1 h2 h3)
theorem V_imul {x y : Int32} (hd : decode mi.2.1 pc = .ok (.imul, 1)) (kk : V X Z sg I (pc + 1) L (.int (x * y) :: st)) : V X Z sg I pc L (.int y :: .int x :: st) := fun a b H locs ls h1 h2 h3 => lv_imul (cx_exec X) (cx_bytes X) hd (kk a b H locs ls h1 h2 h3)
theorem V_iand {x y : Int32} (hd : decode mi.2.1 pc = .ok (.iand, 1)) (kk : V X Z sg I (pc + 1) L (.int (x &&& y) :: st)) : V X Z sg I pc L (.int y :: .int x :: st) := fun a b H locs ls h1 h2 h3 => lv_iand (cx_exec X) (cx_bytes X) hd (kk a b H locs ls h1 h2 h3)
theorem V_ior {x y : Int32} (hd : decode mi.2.1 pc = .ok (.ior, 1)) (kk : V X Z sg I (pc + 1) L (.int (x ||| y) :: st)) : V X Z sg I pc L (.int y :: .int x :: st) := fun a b H locs ls h1 h2 h3 => lv_ior (cx_exec X) (cx_bytes X) hd (kk a b H locs ls h1 h2 h3)
theorem V_ixor {x y : Int32} (hd : decode mi.2.1 pc = .ok (.ixor, 1)) (kk : V X Z sg I (pc + 1) L (.int (x ^^^ y) :: st)) : V X Z sg I pc L (.int y :: .int x :: st) := fun a b H locs ls h1 h2 h3 => lv_ixor (cx_exec X) (cx_bytes X) hd (kk a b H locs ls h1 h2 h3)
theorem V_ishl {x y : Int32} (hd : decode mi.2.1 pc = .ok (.ishl, 1)) (kk : V X Z sg I (pc + 1) L (.int (x <<< (y &&& 31)) :: st)) : V X Z sg I pc L (.int y :: .int x :: st) := fun a b H locs ls h1 h2 h3 => lv_ishl (cx_exec X) (cx_bytes X) hd (kk a b H locs ls h1 h2 h3)
theorem V_ishr {x y : Int32} (hd : decode mi.2.1 pc = .ok (.ishr, 1)) (kk : V X Z sg I (pc + 1) L (.int (x >>> (y &&& 31)) :: st)) : V X Z sg I pc L (.int y :: .int x :: st) := fun a b H locs ls h1 h2 h3 => lv_ishr (cx_exec X) (cx_bytes X) hd (kk a b H locs ls h1 h2 h3)
theorem V_iushr {x y : Int32} (hd : decode mi.2.1 pc = .ok (.iushr, 1)) (kk : V X Z sg I (pc + 1) L (.int ((x.toUInt32 >>> (y.toUInt32 &&& Int32.toUInt32 31)).toInt32) :: st)) : V X Z sg I pc L (.int y :: .int x :: st) := fun a b H locs ls h1 h2 h3 => lv_iushr (cx_exec X) (cx_bytes X) hd rfl (kk a b H locs ls h1 h2 h3)
theorem V_idiv {x y : Int32} (hne : ¬ y = 0) (hd : decode mi.2.1 pc = .ok (.idiv, 1)) (kk : V X Z sg I (pc + 1) L (.int (x / y) :: st)) : V X Z sg I pc L (.int y :: .int x :: st) := fun a b H locs ls h1 h2 h3 => lv_idiv (cx_exec X) (cx_bytes X) hd hne (kk a b H locs ls h1 h2 h3)
theorem V_irem {x y : Int32} (hne : ¬ y = 0) (hd : decode mi.2.1 pc = .ok (.irem, 1)) (kk : V X Z sg I (pc + 1) L (.int (x - x / y * y) :: st)) : V X Z sg I pc L (.int y :: .int x :: st) := fun a b H locs ls h1 h2 h3 => lv_irem (cx_exec X) (cx_bytes X) hd hne (kk a b H locs ls h1 h2 h3)
theorem V_ladd {x y : Int64} (hd : decode mi.2.1 pc = .ok (.ladd, 1)) (kk : V X Z sg I (pc + 1) L (.long (x + y) :: st)) : V X Z sg I pc L (.long y :: .long x :: st) := fun a b H locs ls h1 h2 h3 => lv_ladd (cx_exec X) (cx_bytes X) hd (kk a b H locs ls h1 h2 h3)
theorem V_lmul {x y : Int64} (hd : decode mi.2.1 pc = .ok (.lmul, 1)) (kk : V X Z sg I (pc + 1) L (.long (x * y) :: st)) : V X Z sg I pc L (.long y :: .long x :: st) := fun a b H locs ls h1 h2 h3 => lv_lmul (cx_exec X) (cx_bytes X) hd (kk a b H locs ls h1 h2 h3)
theorem V_ldiv {x y : Int64} (hne : ¬ y = 0) (hd : decode mi.2.1 pc = .ok (.ldiv, 1)) (kk : V X Z sg I (pc + 1) L (.long (x / y) :: st)) : V X Z sg I pc L (.long y :: .long x :: st) := fun a b H locs ls h1 h2 h3 => lv_ldiv (cx_exec X) (cx_bytes X) hd hne (kk a b H locs ls h1 h2 h3)
theorem V_lrem {x y : Int64} (hne : ¬ y = 0) (hd : decode mi.2.1 pc = .ok (.lrem, 1)) (kk : V X Z sg I (pc + 1) L (.long (x - x / y * y) :: st)) : V X Z sg I pc L (.long y :: .long x :: st) := fun a b H locs ls h1 h2 h3 => lv_lrem (cx_exec X) (cx_bytes X) hd hne (kk a b H locs ls h1 h2 h3)
theorem V_i2l {x : Int32} (hd : decode mi.2.1 pc = .ok (.i2l, 1)) (kk : V X Z sg I (pc + 1) L (.long x.toInt64 :: st)) : V X Z sg I pc L (.int x :: st) := fun a b H locs ls h1 h2 h3 => lv_i2l (cx_exec X) (cx_bytes X) hd rfl (kk a b H locs ls h1 h2 h3)
theorem V_l2i {x : Int64} (hd : decode mi.2.1 pc = .ok (.l2i, 1)) (kk : V X Z sg I (pc + 1) L (.int x.toInt32 :: st)) : V X Z sg I pc L (.long x :: st) := fun a b H locs ls h1 h2 h3 => lv_l2i (cx_exec X) (cx_bytes X) hd rfl (kk a b H locs ls h1 h2 h3)
theorem V_i2b {x : Int32} (hd : decode mi.2.1 pc = .ok (.i2b, 1)) (kk : V X Z sg I (pc + 1) L (.int x.toInt8.toInt32 :: st)) : V X Z sg I pc L (.int x :: st) := fun a b H locs ls h1 h2 h3 => lv_i2b (cx_exec X) (cx_bytes X) hd rfl (kk a b H locs ls h1 h2 h3)
theorem V_ineg {x : Int32} (hd : decode mi.2.1 pc = .ok (.ineg, 1)) (kk : V X Z sg I (pc + 1) L (.int (-x) :: st)) : V X Z sg I pc L (.int x :: st) := fun a b H locs ls h1 h2 h3 => lv_ineg (cx_exec X) (cx_bytes X) hd (kk a b H locs ls h1 h2 h3)
theorem V_lcmp {x y : Int64} (hd : decode mi.2.1 pc = .ok (.lcmp, 1)) (kk : V X Z sg I (pc + 1) L (.int (lg_cmp x y) :: st)) : V X Z sg I pc L (.long y :: .long x :: st) := fun a b H locs ls h1 h2 h3 => W.lcmp (cx_exec X) (cx_bytes X) hd (kk a b H locs ls h1 h2 h3)
theorem V_dup {v : Value} (hc : v.category = 1) (hd : decode mi.2.1 pc = .ok (.dup, 1)) (kk : V X Z sg I (pc + 1) L (v :: v :: st)) : V X Z sg I pc L (v :: st) := fun a b H locs ls h1 h2 h3 => lv_dup (cx_exec X) (cx_bytes X) hd hc (kk a b H locs ls h1 h2 h3)
theorem V_pop {v : Value} (hc : v.category = 1) (hd : decode mi.2.1 pc = .ok (.pop, 1)) (kk : V X Z sg I (pc + 1) L (st)) : V X Z sg I pc L (v :: st) := fun a b H locs ls h1 h2 h3 => lv_pop (cx_exec X) (cx_bytes X) hd hc (kk a b H locs ls h1 h2 h3)
theorem V_dup2 {v w : Value} (hc : v.category = 1) (hc2 : w.category = 1) (hd : decode mi.2.1 pc = .ok (.dup2, 1)) (kk : V X Z sg I (pc + 1) L (v :: w :: v :: w :: st)) : V X Z sg I pc L (v :: w :: st) := fun a b H locs ls h1 h2 h3 => lv_dup2_11 (cx_exec X) (cx_bytes X) hd hc hc2 (kk a b H locs ls h1 h2 h3)
theorem V_iconst {n : Int} (v : Int32) (hv : Int32.ofInt n = v) (hd : decode mi.2.1 pc = .ok (.iconst n, 1)) (kk : V X Z sg I (pc + 1) L (.int v :: st)) : V X Z sg I pc L (st) := fun a b H locs ls h1 h2 h3 => lv_iconst (cx_exec X) (cx_bytes X) hd hv (kk a b H locs ls h1 h2 h3)
theorem V_bipush {n : Int} (v : Int32) (hv : (Int8.ofInt n).toInt32 = v) (hd : decode mi.2.1 pc = .ok (.bipush n, 2)) (kk : V X Z sg I (pc + 2) L (.int v :: st)) : V X Z sg I pc L (st) := fun a b H locs ls h1 h2 h3 => lv_bipush (cx_exec X) (cx_bytes X) hd hv (kk a b H locs ls h1 h2 h3)
theorem V_sipush {n : Int} (v : Int32) (hv : (Int16.ofInt n).toInt32 = v) (hd : decode mi.2.1 pc = .ok (.sipush n, 3)) (kk : V X Z sg I (pc + 3) L (.int v :: st)) : V X Z sg I pc L (st) := fun a b H locs ls h1 h2 h3 => lv_sipush (cx_exec X) (cx_bytes X) hd hv (kk a b H locs ls h1 h2 h3)
theorem V_lconst {n : Fin 2} (v : Int64) (hv : Int64.ofNat (n : Nat) = v) (hd : decode mi.2.1 pc = .ok (.lconst n, 1)) (kk : V X Z sg I (pc + 1) L (.long v :: st)) : V X Z sg I pc L (st) := fun a b H locs ls h1 h2 h3 => lv_lconst (cx_exec X) (cx_bytes X) hd hv (kk a b H locs ls h1 h2 h3)
theorem V_null (hd : decode mi.2.1 pc = .ok (.aconst_null, 1)) (kk : V X Z sg I (pc + 1) L (.null :: st)) : V X Z sg I pc L (st) := fun a b H locs ls h1 h2 h3 => lv_null (cx_exec X) (cx_bytes X) hd (kk a b H locs ls h1 h2 h3)
theorem V_ldc {index : Nat} (own : String) (v : Int32) (ho : mi.1.cls = own) (hw : Cond.constant own index v ∈ gw) (hd : decode mi.2.1 pc = .ok (.ldc index, 2)) (kk : V X Z sg I (pc + 2) L (.int v :: st)) : V X Z sg I pc L st := fun a b H locs ls h1 h2 h3 => lv_ldc (cx_exec X) (cx_bytes X) (own := own) (by rw [← ho]; exact cx_own X) (cx_hts X _ hw) hd (kk a b H locs ls h1 h2 h3)
theorem V_ldc2 {index : Nat} (own : String) (v : Int64) (ho : mi.1.cls = own) (hw : Cond.constantLong own index v ∈ gw) (hd : decode mi.2.1 pc = .ok (.ldc2_w index, 3)) (kk : V X Z sg I (pc + 3) L (.long v :: st)) : V X Z sg I pc L st := fun a b H locs ls h1 h2 h3 => lv_ldc2 (cx_exec X) (cx_bytes X) (own := own) (by rw [← ho]; exact cx_own X) (cx_hts X _ hw) hd (kk a b H locs ls h1 h2 h3)
theorem V_iload_n {k : Fin 4} {x : Int32} (hL : L[(k : Nat)]? = some (some (.int x))) (hd : decode mi.2.1 pc = .ok (.iload_n k, 1)) (kk : V X Z sg I (pc + 1) L (.int x :: st)) : V X Z sg I pc L st := fun a b H locs ls h1 h2 h3 => lv_iload_n (cx_exec X) (cx_bytes X) hd rfl (h3.2.2 _ _ hL) (kk a b H locs ls h1 h2 h3)
theorem V_iload {i : Nat} {x : Int32} (hL : L[i]? = some (some (.int x))) (hd : decode mi.2.1 pc = .ok (.iload i, 2)) (kk : V X Z sg I (pc + 2) L (.int x :: st)) : V X Z sg I pc L st := fun a b H locs ls h1 h2 h3 => lv_iload (cx_exec X) (cx_bytes X) hd (h3.2.2 _ _ hL) (kk a b H locs ls h1 h2 h3)
theorem V_lload_n {k : Fin 4} {x : Int64} (hL : L[(k : Nat)]? = some (some (.long x))) (hd : decode mi.2.1 pc = .ok (.lload_n k, 1)) (kk : V X Z sg I (pc + 1) L (.long x :: st)) : V X Z sg I pc L st := fun a b H locs ls h1 h2 h3 => lv_lload_n (cx_exec X) (cx_bytes X) hd rfl (h3.2.2 _ _ hL) (kk a b H locs ls h1 h2 h3)
theorem V_lload {i : Nat} {x : Int64} (hL : L[i]? = some (some (.long x))) (hd : decode mi.2.1 pc = .ok (.lload i, 2)) (kk : V X Z sg I (pc + 2) L (.long x :: st)) : V X Z sg I pc L st := fun a b H locs ls h1 h2 h3 => lv_lload (cx_exec X) (cx_bytes X) hd (h3.2.2 _ _ hL) (kk a b H locs ls h1 h2 h3)
theorem V_aload_n {k : Fin 4} {x : Nat} (hL : L[(k : Nat)]? = some (some (.ref x))) (hd : decode mi.2.1 pc = .ok (.aload_n k, 1)) (kk : V X Z sg I (pc + 1) L (.ref x :: st)) : V X Z sg I pc L st := fun a b H locs ls h1 h2 h3 => lv_aload_n (cx_exec X) (cx_bytes X) hd rfl (h3.2.2 _ _ hL) (kk a b H locs ls h1 h2 h3)
theorem V_aload {i : Nat} {x : Nat} (hL : L[i]? = some (some (.ref x))) (hd : decode mi.2.1 pc = .ok (.aload i, 2)) (kk : V X Z sg I (pc + 2) L (.ref x :: st)) : V X Z sg I pc L st := fun a b H locs ls h1 h2 h3 => lv_aload (cx_exec X) (cx_bytes X) hd (h3.2.2 _ _ hL) (kk a b H locs ls h1 h2 h3)
theorem V_istore_n0 {k : Fin 4} {x : Int32} (hi : (k : Nat) < mi.2.2.1) (hp : ∀ w, 0 < (k : Nat) → L[(k : Nat) - 1]? = some (some w) → w.category = 1) (hd : decode mi.2.1 pc = .ok (.istore_n k, 1)) (kk : V X Z sg I (pc + 1) (L.set (k : Nat) (some (.int x))) st) : V X Z sg I pc L (.int x :: st) := fun a b H locs ls h1 h2 h3 => lv_istore_n (cx_exec X) (cx_bytes X) hd rfl (LH_asc h3) hi rfl (fun ls' h => kk a b H locs ls' h1 h2 (LH_set hp h))
theorem V_istore0 {i : Nat} {x : Int32} (hi : i < mi.2.2.1) (hp : ∀ w, 0 < i → L[i - 1]? = some (some w) → w.category = 1) (hd : decode mi.2.1 pc = .ok (.istore i, 2)) (kk : V X Z sg I (pc + 2) (L.set i (some (.int x))) st) : V X Z sg I pc L (.int x :: st) := fun a b H locs ls h1 h2 h3 => lv_istore (cx_exec X) (cx_bytes X) hd (LH_asc h3) hi rfl (fun ls' h => kk a b H locs ls' h1 h2 (LH_set hp h))
theorem V_astore_n0 {k : Fin 4} {x : Nat} (hi : (k : Nat) < mi.2.2.1) (hp : ∀ w, 0 < (k : Nat) → L[(k : Nat) - 1]? = some (some w) → w.category = 1) (hd : decode mi.2.1 pc = .ok (.astore_n k, 1)) (kk : V X Z sg I (pc + 1) (L.set (k : Nat) (some (.ref x))) st) : V X Z sg I pc L (.ref x :: st) := fun a b H locs ls h1 h2 h3 => lv_astore_n (cx_exec X) (cx_bytes X) hd rfl (LH_asc h3) hi rfl (fun ls' h => kk a b H locs ls' h1 h2 (LH_set hp h))
theorem V_astore0 {i : Nat} {x : Nat} (hi : i < mi.2.2.1) (hp : ∀ w, 0 < i → L[i - 1]? = some (some w) → w.category = 1) (hd : decode mi.2.1 pc = .ok (.astore i, 2)) (kk : V X Z sg I (pc + 2) (L.set i (some (.ref x))) st) : V X Z sg I pc L (.ref x :: st) := fun a b H locs ls h1 h2 h3 => lv_astore (cx_exec X) (cx_bytes X) hd (LH_asc h3) hi rfl (fun ls' h => kk a b H locs ls' h1 h2 (LH_set hp h))
theorem V_lstore_n0 {k : Fin 4} {x : Int64} (hi : (k : Nat) + 1 < mi.2.2.1) (hp : ∀ w, 0 < (k : Nat) → L[(k : Nat) - 1]? = some (some w) → w.category = 1) (hd : decode mi.2.1 pc = .ok (.lstore_n k, 1)) (kk : V X Z sg I (pc + 1) ((L.set (k : Nat) (some (.long x))).set ((k : Nat) + 1) none) st) : V X Z sg I pc L (.long x :: st) := fun a b H locs ls h1 h2 h3 => lv_lstore_n (cx_exec X) (cx_bytes X) hd rfl (LH_asc h3) hi rfl (fun ls' h => kk a b H locs ls' h1 h2 (LH_set2 hp h))
theorem V_lstore0 {i : Nat} {x : Int64} (hi : i + 1 < mi.2.2.1) (hp : ∀ w, 0 < i → L[i - 1]? = some (some w) → w.category = 1) (hd : decode mi.2.1 pc = .ok (.lstore i, 2)) (kk : V X Z sg I (pc + 2) ((L.set i (some (.long x))).set (i + 1) none) st) : V X Z sg I pc L (.long x :: st) := fun a b H locs ls h1 h2 h3 => lv_lstore (cx_exec X) (cx_bytes X) hd (LH_asc h3) hi rfl (fun ls' h => kk a b H locs ls' h1 h2 (LH_set2 hp h))
theorem V_iinc0 {i : Nat} {n : Int} {x : Int32} (v : Int32) (hv : x + Int32.ofInt n = v) (hL : L[i]? = some (some (.int x))) (hi : i < mi.2.2.1) (hp : ∀ w, 0 < i → L[i - 1]? = some (some w) → w.category = 1) (hd : decode mi.2.1 pc = .ok (.iinc i n, 3)) (kk : V X Z sg I (pc + 3) (L.set i (some (.int v))) st) : V X Z sg I pc L st := by
  intro a b H locs ls h1 h2 h3
  obtain ⟨k, hk⟩ := List.getElem?_of_mem (asc_mem.mpr hL)
  exact lv_iinc (cx_exec X) (cx_bytes X) hd (LH_asc h3) hk hv hi rfl (fun ls' h => kk a b H locs ls' h1 h2 (LH_set hp h))
theorem V_ist0 {x0 : Option Value} {r : List (Option Value)} {v : Int32} (hi : Nat.ble 1 mi.2.2.1 = true) (hd : decode mi.2.1 pc = .ok (.istore_n 0, 1)) (kk : V X Z sg I (pc + 1) (some (.int v) :: r) st) : V X Z sg I pc (x0 :: r) (.int v :: st) := V_istore_n0 (k := 0) (Nat.le_of_ble_eq_true hi) (fun w h0 h => absurd h0 (by decide)) hd kk
theorem V_ast0 {x0 : Option Value} {r : List (Option Value)} {v : Nat} (hi : Nat.ble 1 mi.2.2.1 = true) (hd : decode mi.2.1 pc = .ok (.astore_n 0, 1)) (kk : V X Z sg I (pc + 1) (some (.ref v) :: r) st) : V X Z sg I pc (x0 :: r) (.ref v :: st) := V_astore_n0 (k := 0) (Nat.le_of_ble_eq_true hi) (fun w h0 h => absurd h0 (by decide)) hd kk
theorem V_iinc0_ {x0 : Int32} {n : Int} {r : List (Option Value)} (v : Int32) (hv : x0 + Int32.ofInt n = v) (hi : Nat.ble 1 mi.2.2.1 = true) (hd : decode mi.2.1 pc = .ok (.iinc 0 n, 3)) (kk : V X Z sg I (pc + 3) (some (.int v) :: r) st) : V X Z sg I pc (some (.int x0) :: r) st := V_iinc0 (i := 0) v hv rfl (Nat.le_of_ble_eq_true hi) (fun w h0 h => absurd h0 (by decide)) hd kk
theorem V_lst0 {x0 x1 : Option Value} {r : List (Option Value)} {v : Int64} (hi : Nat.ble 2 mi.2.2.1 = true) (hd : decode mi.2.1 pc = .ok (.lstore_n 0, 1)) (kk : V X Z sg I (pc + 1) (some (.long v) :: none :: r) st) : V X Z sg I pc (x0 :: x1 :: r) (.long v :: st) := V_lstore_n0 (k := 0) (Nat.le_of_ble_eq_true hi) (fun w h0 h => absurd h0 (by decide)) hd kk
theorem V_ist1 {x0 x1 : Option Value} {r : List (Option Value)} {v : Int32} (hp : okp x0 = true) (hi : Nat.ble 2 mi.2.2.1 = true) (hd : decode mi.2.1 pc = .ok (.istore_n 1, 1)) (kk : V X Z sg I (pc + 1) (x0 :: some (.int v) :: r) st) : V X Z sg I pc (x0 :: x1 :: r) (.int v :: st) := V_istore_n0 (k := 1) (Nat.le_of_ble_eq_true hi) (fun w h0 h => by cases h; simpa [okp] using hp) hd kk
theorem V_ast1 {x0 x1 : Option Value} {r : List (Option Value)} {v : Nat} (hp : okp x0 = true) (hi : Nat.ble 2 mi.2.2.1 = true) (hd : decode mi.2.1 pc = .ok (.astore_n 1, 1)) (kk : V X Z sg I (pc + 1) (x0 :: some (.ref v) :: r) st) : V X Z sg I pc (x0 :: x1 :: r) (.ref v :: st) := V_astore_n0 (k := 1) (Nat.le_of_ble_eq_true hi) (fun w h0 h => by cases h; simpa [okp] using hp) hd kk
theorem V_iinc1_ {x0 : Option Value} {x1 : Int32} {n : Int} {r : List (Option Value)} (v : Int32) (hv : x1 + Int32.ofInt n = v) (hp : okp x0 = true) (hi : Nat.ble 2 mi.2.2.1 = true) (hd : decode mi.2.1 pc = .ok (.iinc 1 n, 3)) (kk : V X Z sg I (pc + 3) (x0 :: some (.int v) :: r) st) : V X Z sg I pc (x0 :: some (.int x1) :: r) st := V_iinc0 (i := 1) v hv rfl (Nat.le_of_ble_eq_true hi) (fun w h0 h => by cases h; simpa [okp] using hp) hd kk
theorem V_lst1 {x0 x1 x2 : Option Value} {r : List (Option Value)} {v : Int64} (hp : okp x0 = true) (hi : Nat.ble 3 mi.2.2.1 = true) (hd : decode mi.2.1 pc = .ok (.lstore_n 1, 1)) (kk : V X Z sg I (pc + 1) (x0 :: some (.long v) :: none :: r) st) : V X Z sg I pc (x0 :: x1 :: x2 :: r) (.long v :: st) := V_lstore_n0 (k := 1) (Nat.le_of_ble_eq_true hi) (fun w h0 h => by cases h; simpa [okp] using hp) hd kk
theorem V_ist2 {x0 x1 x2 : Option Value} {r : List (Option Value)} {v : Int32} (hp : okp x1 = true) (hi : Nat.ble 3 mi.2.2.1 = true) (hd : decode mi.2.1 pc = .ok (.istore_n 2, 1)) (kk : V X Z sg I (pc + 1) (x0 :: x1 :: some (.int v) :: r) st) : V X Z sg I pc (x0 :: x1 :: x2 :: r) (.int v :: st) := V_istore_n0 (k := 2) (Nat.le_of_ble_eq_true hi) (fun w h0 h => by cases h; simpa [okp] using hp) hd kk
theorem V_ast2 {x0 x1 x2 : Option Value} {r : List (Option Value)} {v : Nat} (hp : okp x1 = true) (hi : Nat.ble 3 mi.2.2.1 = true) (hd : decode mi.2.1 pc = .ok (.astore_n 2, 1)) (kk : V X Z sg I (pc + 1) (x0 :: x1 :: some (.ref v) :: r) st) : V X Z sg I pc (x0 :: x1 :: x2 :: r) (.ref v :: st) := V_astore_n0 (k := 2) (Nat.le_of_ble_eq_true hi) (fun w h0 h => by cases h; simpa [okp] using hp) hd kk
theorem V_iinc2_ {x0 x1 : Option Value} {x2 : Int32} {n : Int} {r : List (Option Value)} (v : Int32) (hv : x2 + Int32.ofInt n = v) (hp : okp x1 = true) (hi : Nat.ble 3 mi.2.2.1 = true) (hd : decode mi.2.1 pc = .ok (.iinc 2 n, 3)) (kk : V X Z sg I (pc + 3) (x0 :: x1 :: some (.int v) :: r) st) : V X Z sg I pc (x0 :: x1 :: some (.int x2) :: r) st := V_iinc0 (i := 2) v hv rfl (Nat.le_of_ble_eq_true hi) (fun w h0 h => by cases h; simpa [okp] using hp) hd kk
theorem V_lst2 {x0 x1 x2 x3 : Option Value} {r : List (Option Value)} {v : Int64} (hp : okp x1 = true) (hi : Nat.ble 4 mi.2.2.1 = true) (hd : decode mi.2.1 pc = .ok (.lstore_n 2, 1)) (kk : V X Z sg I (pc + 1) (x0 :: x1 :: some (.long v) :: none :: r) st) : V X Z sg I pc (x0 :: x1 :: x2 :: x3 :: r) (.long v :: st) := V_lstore_n0 (k := 2) (Nat.le_of_ble_eq_true hi) (fun w h0 h => by cases h; simpa [okp] using hp) hd kk
theorem V_ist3 {x0 x1 x2 x3 : Option Value} {r : List (Option Value)} {v : Int32} (hp : okp x2 = true) (hi : Nat.ble 4 mi.2.2.1 = true) (hd : decode mi.2.1 pc = .ok (.istore_n 3, 1)) (kk : V X Z sg I (pc + 1) (x0 :: x1 :: x2 :: some (.int v) :: r) st) : V X Z sg I pc (x0 :: x1 :: x2 :: x3 :: r) (.int v :: st) := V_istore_n0 (k := 3) (Nat.le_of_ble_eq_true hi) (fun w h0 h => by cases h; simpa [okp] using hp) hd kk
theorem V_ast3 {x0 x1 x2 x3 : Option Value} {r : List (Option Value)} {v : Nat} (hp : okp x2 = true) (hi : Nat.ble 4 mi.2.2.1 = true) (hd : decode mi.2.1 pc = .ok (.astore_n 3, 1)) (kk : V X Z sg I (pc + 1) (x0 :: x1 :: x2 :: some (.ref v) :: r) st) : V X Z sg I pc (x0 :: x1 :: x2 :: x3 :: r) (.ref v :: st) := V_astore_n0 (k := 3) (Nat.le_of_ble_eq_true hi) (fun w h0 h => by cases h; simpa [okp] using hp) hd kk
theorem V_iinc3_ {x0 x1 x2 : Option Value} {x3 : Int32} {n : Int} {r : List (Option Value)} (v : Int32) (hv : x3 + Int32.ofInt n = v) (hp : okp x2 = true) (hi : Nat.ble 4 mi.2.2.1 = true) (hd : decode mi.2.1 pc = .ok (.iinc 3 n, 3)) (kk : V X Z sg I (pc + 3) (x0 :: x1 :: x2 :: some (.int v) :: r) st) : V X Z sg I pc (x0 :: x1 :: x2 :: some (.int x3) :: r) st := V_iinc0 (i := 3) v hv rfl (Nat.le_of_ble_eq_true hi) (fun w h0 h => by cases h; simpa [okp] using hp) hd kk
theorem V_lst3 {x0 x1 x2 x3 x4 : Option Value} {r : List (Option Value)} {v : Int64} (hp : okp x2 = true) (hi : Nat.ble 5 mi.2.2.1 = true) (hd : decode mi.2.1 pc = .ok (.lstore_n 3, 1)) (kk : V X Z sg I (pc + 1) (x0 :: x1 :: x2 :: some (.long v) :: none :: r) st) : V X Z sg I pc (x0 :: x1 :: x2 :: x3 :: x4 :: r) (.long v :: st) := V_lstore_n0 (k := 3) (Nat.le_of_ble_eq_true hi) (fun w h0 h => by cases h; simpa [okp] using hp) hd kk
theorem V_ist4 {x0 x1 x2 x3 x4 : Option Value} {r : List (Option Value)} {v : Int32} (hp : okp x3 = true) (hi : Nat.ble 5 mi.2.2.1 = true) (hd : decode mi.2.1 pc = .ok (.istore 4, 2)) (kk : V X Z sg I (pc + 2) (x0 :: x1 :: x2 :: x3 :: some (.int v) :: r) st) : V X Z sg I pc (x0 :: x1 :: x2 :: x3 :: x4 :: r) (.int v :: st) := V_istore0 (i := 4) (Nat.le_of_ble_eq_true hi) (fun w h0 h => by cases h; simpa [okp] using hp) hd kk
theorem V_ast4 {x0 x1 x2 x3 x4 : Option Value} {r : List (Option Value)} {v : Nat} (hp : okp x3 = true) (hi : Nat.ble 5 mi.2.2.1 = true) (hd : decode mi.2.1 pc = .ok (.astore 4, 2)) (kk : V X Z sg I (pc + 2) (x0 :: x1 :: x2 :: x3 :: some (.ref v) :: r) st) : V X Z sg I pc (x0 :: x1 :: x2 :: x3 :: x4 :: r) (.ref v :: st) := V_astore0 (i := 4) (Nat.le_of_ble_eq_true hi) (fun w h0 h => by cases h; simpa [okp] using hp) hd kk
theorem V_iinc4_ {x0 x1 x2 x3 : Option Value} {x4 : Int32} {n : Int} {r : List (Option Value)} (v : Int32) (hv : x4 + Int32.ofInt n = v) (hp : okp x3 = true) (hi : Nat.ble 5 mi.2.2.1 = true) (hd : decode mi.2.1 pc = .ok (.iinc 4 n, 3)) (kk : V X Z sg I (pc + 3) (x0 :: x1 :: x2 :: x3 :: some (.int v) :: r) st) : V X Z sg I pc (x0 :: x1 :: x2 :: x3 :: some (.int x4) :: r) st := V_iinc0 (i := 4) v hv rfl (Nat.le_of_ble_eq_true hi) (fun w h0 h => by cases h; simpa [okp] using hp) hd kk
theorem V_lst4 {x0 x1 x2 x3 x4 x5 : Option Value} {r : List (Option Value)} {v : Int64} (hp : okp x3 = true) (hi : Nat.ble 6 mi.2.2.1 = true) (hd : decode mi.2.1 pc = .ok (.lstore 4, 2)) (kk : V X Z sg I (pc + 2) (x0 :: x1 :: x2 :: x3 :: some (.long v) :: none :: r) st) : V X Z sg I pc (x0 :: x1 :: x2 :: x3 :: x4 :: x5 :: r) (.long v :: st) := V_lstore0 (i := 4) (Nat.le_of_ble_eq_true hi) (fun w h0 h => by cases h; simpa [okp] using hp) hd kk
theorem V_ist5 {x0 x1 x2 x3 x4 x5 : Option Value} {r : List (Option Value)} {v : Int32} (hp : okp x4 = true) (hi : Nat.ble 6 mi.2.2.1 = true) (hd : decode mi.2.1 pc = .ok (.istore 5, 2)) (kk : V X Z sg I (pc + 2) (x0 :: x1 :: x2 :: x3 :: x4 :: some (.int v) :: r) st) : V X Z sg I pc (x0 :: x1 :: x2 :: x3 :: x4 :: x5 :: r) (.int v :: st) := V_istore0 (i := 5) (Nat.le_of_ble_eq_true hi) (fun w h0 h => by cases h; simpa [okp] using hp) hd kk
theorem V_ast5 {x0 x1 x2 x3 x4 x5 : Option Value} {r : List (Option Value)} {v : Nat} (hp : okp x4 = true) (hi : Nat.ble 6 mi.2.2.1 = true) (hd : decode mi.2.1 pc = .ok (.astore 5, 2)) (kk : V X Z sg I (pc + 2) (x0 :: x1 :: x2 :: x3 :: x4 :: some (.ref v) :: r) st) : V X Z sg I pc (x0 :: x1 :: x2 :: x3 :: x4 :: x5 :: r) (.ref v :: st) := V_astore0 (i := 5) (Nat.le_of_ble_eq_true hi) (fun w h0 h => by cases h; simpa [okp] using hp) hd kk
theorem V_iinc5_ {x0 x1 x2 x3 x4 : Option Value} {x5 : Int32} {n : Int} {r : List (Option Value)} (v : Int32) (hv : x5 + Int32.ofInt n = v) (hp : okp x4 = true) (hi : Nat.ble 6 mi.2.2.1 = true) (hd : decode mi.2.1 pc = .ok (.iinc 5 n, 3)) (kk : V X Z sg I (pc + 3) (x0 :: x1 :: x2 :: x3 :: x4 :: some (.int v) :: r) st) : V X Z sg I pc (x0 :: x1 :: x2 :: x3 :: x4 :: some (.int x5) :: r) st := V_iinc0 (i := 5) v hv rfl (Nat.le_of_ble_eq_true hi) (fun w h0 h => by cases h; simpa [okp] using hp) hd kk
theorem V_lst5 {x0 x1 x2 x3 x4 x5 x6 : Option Value} {r : List (Option Value)} {v : Int64} (hp : okp x4 = true) (hi : Nat.ble 7 mi.2.2.1 = true) (hd : decode mi.2.1 pc = .ok (.lstore 5, 2)) (kk : V X Z sg I (pc + 2) (x0 :: x1 :: x2 :: x3 :: x4 :: some (.long v) :: none :: r) st) : V X Z sg I pc (x0 :: x1 :: x2 :: x3 :: x4 :: x5 :: x6 :: r) (.long v :: st) := V_lstore0 (i := 5) (Nat.le_of_ble_eq_true hi) (fun w h0 h => by cases h; simpa [okp] using hp) hd kk
theorem V_ist6 {x0 x1 x2 x3 x4 x5 x6 : Option Value} {r : List (Option Value)} {v : Int32} (hp : okp x5 = true) (hi : Nat.ble 7 mi.2.2.1 = true) (hd : decode mi.2.1 pc = .ok (.istore 6, 2)) (kk : V X Z sg I (pc + 2) (x0 :: x1 :: x2 :: x3 :: x4 :: x5 :: some (.int v) :: r) st) : V X Z sg I pc (x0 :: x1 :: x2 :: x3 :: x4 :: x5 :: x6 :: r) (.int v :: st) := V_istore0 (i := 6) (Nat.le_of_ble_eq_true hi) (fun w h0 h => by cases h; simpa [okp] using hp) hd kk
theorem V_ast6 {x0 x1 x2 x3 x4 x5 x6 : Option Value} {r : List (Option Value)} {v : Nat} (hp : okp x5 = true) (hi : Nat.ble 7 mi.2.2.1 = true) (hd : decode mi.2.1 pc = .ok (.astore 6, 2)) (kk : V X Z sg I (pc + 2) (x0 :: x1 :: x2 :: x3 :: x4 :: x5 :: some (.ref v) :: r) st) : V X Z sg I pc (x0 :: x1 :: x2 :: x3 :: x4 :: x5 :: x6 :: r) (.ref v :: st) := V_astore0 (i := 6) (Nat.le_of_ble_eq_true hi) (fun w h0 h => by cases h; simpa [okp] using hp) hd kk
theorem V_iinc6_ {x0 x1 x2 x3 x4 x5 : Option Value} {x6 : Int32} {n : Int} {r : List (Option Value)} (v : Int32) (hv : x6 + Int32.ofInt n = v) (hp : okp x5 = true) (hi : Nat.ble 7 mi.2.2.1 = true) (hd : decode mi.2.1 pc = .ok (.iinc 6 n, 3)) (kk : V X Z sg I (pc + 3) (x0 :: x1 :: x2 :: x3 :: x4 :: x5 :: some (.int v) :: r) st) : V X Z sg I pc (x0 :: x1 :: x2 :: x3 :: x4 :: x5 :: some (.int x6) :: r) st := V_iinc0 (i := 6) v hv rfl (Nat.le_of_ble_eq_true hi) (fun w h0 h => by cases h; simpa [okp] using hp) hd kk
theorem V_lst6 {x0 x1 x2 x3 x4 x5 x6 x7 : Option Value} {r : List (Option Value)} {v : Int64} (hp : okp x5 = true) (hi : Nat.ble 8 mi.2.2.1 = true) (hd : decode mi.2.1 pc = .ok (.lstore 6, 2)) (kk : V X Z sg I (pc + 2) (x0 :: x1 :: x2 :: x3 :: x4 :: x5 :: some (.long v) :: none :: r) st) : V X Z sg I pc (x0 :: x1 :: x2 :: x3 :: x4 :: x5 :: x6 :: x7 :: r) (.long v :: st) := V_lstore0 (i := 6) (Nat.le_of_ble_eq_true hi) (fun w h0 h => by cases h; simpa [okp] using hp) hd kk
theorem V_ist7 {x0 x1 x2 x3 x4 x5 x6 x7 : Option Value} {r : List (Option Value)} {v : Int32} (hp : okp x6 = true) (hi : Nat.ble 8 mi.2.2.1 = true) (hd : decode mi.2.1 pc = .ok (.istore 7, 2)) (kk : V X Z sg I (pc + 2) (x0 :: x1 :: x2 :: x3 :: x4 :: x5 :: x6 :: some (.int v) :: r) st) : V X Z sg I pc (x0 :: x1 :: x2 :: x3 :: x4 :: x5 :: x6 :: x7 :: r) (.int v :: st) := V_istore0 (i := 7) (Nat.le_of_ble_eq_true hi) (fun w h0 h => by cases h; simpa [okp] using hp) hd kk
theorem V_ast7 {x0 x1 x2 x3 x4 x5 x6 x7 : Option Value} {r : List (Option Value)} {v : Nat} (hp : okp x6 = true) (hi : Nat.ble 8 mi.2.2.1 = true) (hd : decode mi.2.1 pc = .ok (.astore 7, 2)) (kk : V X Z sg I (pc + 2) (x0 :: x1 :: x2 :: x3 :: x4 :: x5 :: x6 :: some (.ref v) :: r) st) : V X Z sg I pc (x0 :: x1 :: x2 :: x3 :: x4 :: x5 :: x6 :: x7 :: r) (.ref v :: st) := V_astore0 (i := 7) (Nat.le_of_ble_eq_true hi) (fun w h0 h => by cases h; simpa [okp] using hp) hd kk
theorem V_iinc7_ {x0 x1 x2 x3 x4 x5 x6 : Option Value} {x7 : Int32} {n : Int} {r : List (Option Value)} (v : Int32) (hv : x7 + Int32.ofInt n = v) (hp : okp x6 = true) (hi : Nat.ble 8 mi.2.2.1 = true) (hd : decode mi.2.1 pc = .ok (.iinc 7 n, 3)) (kk : V X Z sg I (pc + 3) (x0 :: x1 :: x2 :: x3 :: x4 :: x5 :: x6 :: some (.int v) :: r) st) : V X Z sg I pc (x0 :: x1 :: x2 :: x3 :: x4 :: x5 :: x6 :: some (.int x7) :: r) st := V_iinc0 (i := 7) v hv rfl (Nat.le_of_ble_eq_true hi) (fun w h0 h => by cases h; simpa [okp] using hp) hd kk
theorem V_lst7 {x0 x1 x2 x3 x4 x5 x6 x7 x8 : Option Value} {r : List (Option Value)} {v : Int64} (hp : okp x6 = true) (hi : Nat.ble 9 mi.2.2.1 = true) (hd : decode mi.2.1 pc = .ok (.lstore 7, 2)) (kk : V X Z sg I (pc + 2) (x0 :: x1 :: x2 :: x3 :: x4 :: x5 :: x6 :: some (.long v) :: none :: r) st) : V X Z sg I pc (x0 :: x1 :: x2 :: x3 :: x4 :: x5 :: x6 :: x7 :: x8 :: r) (.long v :: st) := V_lstore0 (i := 7) (Nat.le_of_ble_eq_true hi) (fun w h0 h => by cases h; simpa [okp] using hp) hd kk
theorem V_ist8 {x0 x1 x2 x3 x4 x5 x6 x7 x8 : Option Value} {r : List (Option Value)} {v : Int32} (hp : okp x7 = true) (hi : Nat.ble 9 mi.2.2.1 = true) (hd : decode mi.2.1 pc = .ok (.istore 8, 2)) (kk : V X Z sg I (pc + 2) (x0 :: x1 :: x2 :: x3 :: x4 :: x5 :: x6 :: x7 :: some (.int v) :: r) st) : V X Z sg I pc (x0 :: x1 :: x2 :: x3 :: x4 :: x5 :: x6 :: x7 :: x8 :: r) (.int v :: st) := V_istore0 (i := 8) (Nat.le_of_ble_eq_true hi) (fun w h0 h => by cases h; simpa [okp] using hp) hd kk
theorem V_ast8 {x0 x1 x2 x3 x4 x5 x6 x7 x8 : Option Value} {r : List (Option Value)} {v : Nat} (hp : okp x7 = true) (hi : Nat.ble 9 mi.2.2.1 = true) (hd : decode mi.2.1 pc = .ok (.astore 8, 2)) (kk : V X Z sg I (pc + 2) (x0 :: x1 :: x2 :: x3 :: x4 :: x5 :: x6 :: x7 :: some (.ref v) :: r) st) : V X Z sg I pc (x0 :: x1 :: x2 :: x3 :: x4 :: x5 :: x6 :: x7 :: x8 :: r) (.ref v :: st) := V_astore0 (i := 8) (Nat.le_of_ble_eq_true hi) (fun w h0 h => by cases h; simpa [okp] using hp) hd kk
theorem V_iinc8_ {x0 x1 x2 x3 x4 x5 x6 x7 : Option Value} {x8 : Int32} {n : Int} {r : List (Option Value)} (v : Int32) (hv : x8 + Int32.ofInt n = v) (hp : okp x7 = true) (hi : Nat.ble 9 mi.2.2.1 = true) (hd : decode mi.2.1 pc = .ok (.iinc 8 n, 3)) (kk : V X Z sg I (pc + 3) (x0 :: x1 :: x2 :: x3 :: x4 :: x5 :: x6 :: x7 :: some (.int v) :: r) st) : V X Z sg I pc (x0 :: x1 :: x2 :: x3 :: x4 :: x5 :: x6 :: x7 :: some (.int x8) :: r) st := V_iinc0 (i := 8) v hv rfl (Nat.le_of_ble_eq_true hi) (fun w h0 h => by cases h; simpa [okp] using hp) hd kk
theorem V_lst8 {x0 x1 x2 x3 x4 x5 x6 x7 x8 x9 : Option Value} {r : List (Option Value)} {v : Int64} (hp : okp x7 = true) (hi : Nat.ble 10 mi.2.2.1 = true) (hd : decode mi.2.1 pc = .ok (.lstore 8, 2)) (kk : V X Z sg I (pc + 2) (x0 :: x1 :: x2 :: x3 :: x4 :: x5 :: x6 :: x7 :: some (.long v) :: none :: r) st) : V X Z sg I pc (x0 :: x1 :: x2 :: x3 :: x4 :: x5 :: x6 :: x7 :: x8 :: x9 :: r) (.long v :: st) := V_lstore0 (i := 8) (Nat.le_of_ble_eq_true hi) (fun w h0 h => by cases h; simpa [okp] using hp) hd kk
theorem V_ist9 {x0 x1 x2 x3 x4 x5 x6 x7 x8 x9 : Option Value} {r : List (Option Value)} {v : Int32} (hp : okp x8 = true) (hi : Nat.ble 10 mi.2.2.1 = true) (hd : decode mi.2.1 pc = .ok (.istore 9, 2)) (kk : V X Z sg I (pc + 2) (x0 :: x1 :: x2 :: x3 :: x4 :: x5 :: x6 :: x7 :: x8 :: some (.int v) :: r) st) : V X Z sg I pc (x0 :: x1 :: x2 :: x3 :: x4 :: x5 :: x6 :: x7 :: x8 :: x9 :: r) (.int v :: st) := V_istore0 (i := 9) (Nat.le_of_ble_eq_true hi) (fun w h0 h => by cases h; simpa [okp] using hp) hd kk
theorem V_ast9 {x0 x1 x2 x3 x4 x5 x6 x7 x8 x9 : Option Value} {r : List (Option Value)} {v : Nat} (hp : okp x8 = true) (hi : Nat.ble 10 mi.2.2.1 = true) (hd : decode mi.2.1 pc = .ok (.astore 9, 2)) (kk : V X Z sg I (pc + 2) (x0 :: x1 :: x2 :: x3 :: x4 :: x5 :: x6 :: x7 :: x8 :: some (.ref v) :: r) st) : V X Z sg I pc (x0 :: x1 :: x2 :: x3 :: x4 :: x5 :: x6 :: x7 :: x8 :: x9 :: r) (.ref v :: st) := V_astore0 (i := 9) (Nat.le_of_ble_eq_true hi) (fun w h0 h => by cases h; simpa [okp] using hp) hd kk
theorem V_iinc9_ {x0 x1 x2 x3 x4 x5 x6 x7 x8 : Option Value} {x9 : Int32} {n : Int} {r : List (Option Value)} (v : Int32) (hv : x9 + Int32.ofInt n = v) (hp : okp x8 = true) (hi : Nat.ble 10 mi.2.2.1 = true) (hd : decode mi.2.1 pc = .ok (.iinc 9 n, 3)) (kk : V X Z sg I (pc + 3) (x0 :: x1 :: x2 :: x3 :: x4 :: x5 :: x6 :: x7 :: x8 :: some (.int v) :: r) st) : V X Z sg I pc (x0 :: x1 :: x2 :: x3 :: x4 :: x5 :: x6 :: x7 :: x8 :: some (.int x9) :: r) st := V_iinc0 (i := 9) v hv rfl (Nat.le_of_ble_eq_true hi) (fun w h0 h => by cases h; simpa [okp] using hp) hd kk
theorem V_lst9 {x0 x1 x2 x3 x4 x5 x6 x7 x8 x9 x10 : Option Value} {r : List (Option Value)} {v : Int64} (hp : okp x8 = true) (hi : Nat.ble 11 mi.2.2.1 = true) (hd : decode mi.2.1 pc = .ok (.lstore 9, 2)) (kk : V X Z sg I (pc + 2) (x0 :: x1 :: x2 :: x3 :: x4 :: x5 :: x6 :: x7 :: x8 :: some (.long v) :: none :: r) st) : V X Z sg I pc (x0 :: x1 :: x2 :: x3 :: x4 :: x5 :: x6 :: x7 :: x8 :: x9 :: x10 :: r) (.long v :: st) := V_lstore0 (i := 9) (Nat.le_of_ble_eq_true hi) (fun w h0 h => by cases h; simpa [okp] using hp) hd kk
theorem V_ist10 {x0 x1 x2 x3 x4 x5 x6 x7 x8 x9 x10 : Option Value} {r : List (Option Value)} {v : Int32} (hp : okp x9 = true) (hi : Nat.ble 11 mi.2.2.1 = true) (hd : decode mi.2.1 pc = .ok (.istore 10, 2)) (kk : V X Z sg I (pc + 2) (x0 :: x1 :: x2 :: x3 :: x4 :: x5 :: x6 :: x7 :: x8 :: x9 :: some (.int v) :: r) st) : V X Z sg I pc (x0 :: x1 :: x2 :: x3 :: x4 :: x5 :: x6 :: x7 :: x8 :: x9 :: x10 :: r) (.int v :: st) := V_istore0 (i := 10) (Nat.le_of_ble_eq_true hi) (fun w h0 h => by cases h; simpa [okp] using hp) hd kk
theorem V_ast10 {x0 x1 x2 x3 x4 x5 x6 x7 x8 x9 x10 : Option Value} {r : List (Option Value)} {v : Nat} (hp : okp x9 = true) (hi : Nat.ble 11 mi.2.2.1 = true) (hd : decode mi.2.1 pc = .ok (.astore 10, 2)) (kk : V X Z sg I (pc + 2) (x0 :: x1 :: x2 :: x3 :: x4 :: x5 :: x6 :: x7 :: x8 :: x9 :: some (.ref v) :: r) st) : V X Z sg I pc (x0 :: x1 :: x2 :: x3 :: x4 :: x5 :: x6 :: x7 :: x8 :: x9 :: x10 :: r) (.ref v :: st) := V_astore0 (i := 10) (Nat.le_of_ble_eq_true hi) (fun w h0 h => by cases h; simpa [okp] using hp) hd kk
theorem V_iinc10_ {x0 x1 x2 x3 x4 x5 x6 x7 x8 x9 : Option Value} {x10 : Int32} {n : Int} {r : List (Option Value)} (v : Int32) (hv : x10 + Int32.ofInt n = v) (hp : okp x9 = true) (hi : Nat.ble 11 mi.2.2.1 = true) (hd : decode mi.2.1 pc = .ok (.iinc 10 n, 3)) (kk : V X Z sg I (pc + 3) (x0 :: x1 :: x2 :: x3 :: x4 :: x5 :: x6 :: x7 :: x8 :: x9 :: some (.int v) :: r) st) : V X Z sg I pc (x0 :: x1 :: x2 :: x3 :: x4 :: x5 :: x6 :: x7 :: x8 :: x9 :: some (.int x10) :: r) st := V_iinc0 (i := 10) v hv rfl (Nat.le_of_ble_eq_true hi) (fun w h0 h => by cases h; simpa [okp] using hp) hd kk
theorem V_lst10 {x0 x1 x2 x3 x4 x5 x6 x7 x8 x9 x10 x11 : Option Value} {r : List (Option Value)} {v : Int64} (hp : okp x9 = true) (hi : Nat.ble 12 mi.2.2.1 = true) (hd : decode mi.2.1 pc = .ok (.lstore 10, 2)) (kk : V X Z sg I (pc + 2) (x0 :: x1 :: x2 :: x3 :: x4 :: x5 :: x6 :: x7 :: x8 :: x9 :: some (.long v) :: none :: r) st) : V X Z sg I pc (x0 :: x1 :: x2 :: x3 :: x4 :: x5 :: x6 :: x7 :: x8 :: x9 :: x10 :: x11 :: r) (.long v :: st) := V_lstore0 (i := 10) (Nat.le_of_ble_eq_true hi) (fun w h0 h => by cases h; simpa [okp] using hp) hd kk
theorem V_ist11 {x0 x1 x2 x3 x4 x5 x6 x7 x8 x9 x10 x11 : Option Value} {r : List (Option Value)} {v : Int32} (hp : okp x10 = true) (hi : Nat.ble 12 mi.2.2.1 = true) (hd : decode mi.2.1 pc = .ok (.istore 11, 2)) (kk : V X Z sg I (pc + 2) (x0 :: x1 :: x2 :: x3 :: x4 :: x5 :: x6 :: x7 :: x8 :: x9 :: x10 :: some (.int v) :: r) st) : V X Z sg I pc (x0 :: x1 :: x2 :: x3 :: x4 :: x5 :: x6 :: x7 :: x8 :: x9 :: x10 :: x11 :: r) (.int v :: st) := V_istore0 (i := 11) (Nat.le_of_ble_eq_true hi) (fun w h0 h => by cases h; simpa [okp] using hp) hd kk
theorem V_ast11 {x0 x1 x2 x3 x4 x5 x6 x7 x8 x9 x10 x11 : Option Value} {r : List (Option Value)} {v : Nat} (hp : okp x10 = true) (hi : Nat.ble 12 mi.2.2.1 = true) (hd : decode mi.2.1 pc = .ok (.astore 11, 2)) (kk : V X Z sg I (pc + 2) (x0 :: x1 :: x2 :: x3 :: x4 :: x5 :: x6 :: x7 :: x8 :: x9 :: x10 :: some (.ref v) :: r) st) : V X Z sg I pc (x0 :: x1 :: x2 :: x3 :: x4 :: x5 :: x6 :: x7 :: x8 :: x9 :: x10 :: x11 :: r) (.ref v :: st) := V_astore0 (i := 11) (Nat.le_of_ble_eq_true hi) (fun w h0 h => by cases h; simpa [okp] using hp) hd kk
theorem V_iinc11_ {x0 x1 x2 x3 x4 x5 x6 x7 x8 x9 x10 : Option Value} {x11 : Int32} {n : Int} {r : List (Option Value)} (v : Int32) (hv : x11 + Int32.ofInt n = v) (hp : okp x10 = true) (hi : Nat.ble 12 mi.2.2.1 = true) (hd : decode mi.2.1 pc = .ok (.iinc 11 n, 3)) (kk : V X Z sg I (pc + 3) (x0 :: x1 :: x2 :: x3 :: x4 :: x5 :: x6 :: x7 :: x8 :: x9 :: x10 :: some (.int v) :: r) st) : V X Z sg I pc (x0 :: x1 :: x2 :: x3 :: x4 :: x5 :: x6 :: x7 :: x8 :: x9 :: x10 :: some (.int x11) :: r) st := V_iinc0 (i := 11) v hv rfl (Nat.le_of_ble_eq_true hi) (fun w h0 h => by cases h; simpa [okp] using hp) hd kk
theorem V_lst11 {x0 x1 x2 x3 x4 x5 x6 x7 x8 x9 x10 x11 x12 : Option Value} {r : List (Option Value)} {v : Int64} (hp : okp x10 = true) (hi : Nat.ble 13 mi.2.2.1 = true) (hd : decode mi.2.1 pc = .ok (.lstore 11, 2)) (kk : V X Z sg I (pc + 2) (x0 :: x1 :: x2 :: x3 :: x4 :: x5 :: x6 :: x7 :: x8 :: x9 :: x10 :: some (.long v) :: none :: r) st) : V X Z sg I pc (x0 :: x1 :: x2 :: x3 :: x4 :: x5 :: x6 :: x7 :: x8 :: x9 :: x10 :: x11 :: x12 :: r) (.long v :: st) := V_lstore0 (i := 11) (Nat.le_of_ble_eq_true hi) (fun w h0 h => by cases h; simpa [okp] using hp) hd kk
theorem V_ist12 {x0 x1 x2 x3 x4 x5 x6 x7 x8 x9 x10 x11 x12 : Option Value} {r : List (Option Value)} {v : Int32} (hp : okp x11 = true) (hi : Nat.ble 13 mi.2.2.1 = true) (hd : decode mi.2.1 pc = .ok (.istore 12, 2)) (kk : V X Z sg I (pc + 2) (x0 :: x1 :: x2 :: x3 :: x4 :: x5 :: x6 :: x7 :: x8 :: x9 :: x10 :: x11 :: some (.int v) :: r) st) : V X Z sg I pc (x0 :: x1 :: x2 :: x3 :: x4 :: x5 :: x6 :: x7 :: x8 :: x9 :: x10 :: x11 :: x12 :: r) (.int v :: st) := V_istore0 (i := 12) (Nat.le_of_ble_eq_true hi) (fun w h0 h => by cases h; simpa [okp] using hp) hd kk
theorem V_ast12 {x0 x1 x2 x3 x4 x5 x6 x7 x8 x9 x10 x11 x12 : Option Value} {r : List (Option Value)} {v : Nat} (hp : okp x11 = true) (hi : Nat.ble 13 mi.2.2.1 = true) (hd : decode mi.2.1 pc = .ok (.astore 12, 2)) (kk : V X Z sg I (pc + 2) (x0 :: x1 :: x2 :: x3 :: x4 :: x5 :: x6 :: x7 :: x8 :: x9 :: x10 :: x11 :: some (.ref v) :: r) st) : V X Z sg I pc (x0 :: x1 :: x2 :: x3 :: x4 :: x5 :: x6 :: x7 :: x8 :: x9 :: x10 :: x11 :: x12 :: r) (.ref v :: st) := V_astore0 (i := 12) (Nat.le_of_ble_eq_true hi) (fun w h0 h => by cases h; simpa [okp] using hp) hd kk
theorem V_iinc12_ {x0 x1 x2 x3 x4 x5 x6 x7 x8 x9 x10 x11 : Option Value} {x12 : Int32} {n : Int} {r : List (Option Value)} (v : Int32) (hv : x12 + Int32.ofInt n = v) (hp : okp x11 = true) (hi : Nat.ble 13 mi.2.2.1 = true) (hd : decode mi.2.1 pc = .ok (.iinc 12 n, 3)) (kk : V X Z sg I (pc + 3) (x0 :: x1 :: x2 :: x3 :: x4 :: x5 :: x6 :: x7 :: x8 :: x9 :: x10 :: x11 :: some (.int v) :: r) st) : V X Z sg I pc (x0 :: x1 :: x2 :: x3 :: x4 :: x5 :: x6 :: x7 :: x8 :: x9 :: x10 :: x11 :: some (.int x12) :: r) st := V_iinc0 (i := 12) v hv rfl (Nat.le_of_ble_eq_true hi) (fun w h0 h => by cases h; simpa [okp] using hp) hd kk
theorem V_lst12 {x0 x1 x2 x3 x4 x5 x6 x7 x8 x9 x10 x11 x12 x13 : Option Value} {r : List (Option Value)} {v : Int64} (hp : okp x11 = true) (hi : Nat.ble 14 mi.2.2.1 = true) (hd : decode mi.2.1 pc = .ok (.lstore 12, 2)) (kk : V X Z sg I (pc + 2) (x0 :: x1 :: x2 :: x3 :: x4 :: x5 :: x6 :: x7 :: x8 :: x9 :: x10 :: x11 :: some (.long v) :: none :: r) st) : V X Z sg I pc (x0 :: x1 :: x2 :: x3 :: x4 :: x5 :: x6 :: x7 :: x8 :: x9 :: x10 :: x11 :: x12 :: x13 :: r) (.long v :: st) := V_lstore0 (i := 12) (Nat.le_of_ble_eq_true hi) (fun w h0 h => by cases h; simpa [okp] using hp) hd kk
theorem V_ist13 {x0 x1 x2 x3 x4 x5 x6 x7 x8 x9 x10 x11 x12 x13 : Option Value} {r : List (Option Value)} {v : Int32} (hp : okp x12 = true) (hi : Nat.ble 14 mi.2.2.1 = true) (hd : decode mi.2.1 pc = .ok (.istore 13, 2)) (kk : V X Z sg I (pc + 2) (x0 :: x1 :: x2 :: x3 :: x4 :: x5 :: x6 :: x7 :: x8 :: x9 :: x10 :: x11 :: x12 :: some (.int v) :: r) st) : V X Z sg I pc (x0 :: x1 :: x2 :: x3 :: x4 :: x5 :: x6 :: x7 :: x8 :: x9 :: x10 :: x11 :: x12 :: x13 :: r) (.int v :: st) := V_istore0 (i := 13) (Nat.le_of_ble_eq_true hi) (fun w h0 h => by cases h; simpa [okp] using hp) hd kk
theorem V_ast13 {x0 x1 x2 x3 x4 x5 x6 x7 x8 x9 x10 x11 x12 x13 : Option Value} {r : List (Option Value)} {v : Nat} (hp : okp x12 = true) (hi : Nat.ble 14 mi.2.2.1 = true) (hd : decode mi.2.1 pc = .ok (.astore 13, 2)) (kk : V X Z sg I (pc + 2) (x0 :: x1 :: x2 :: x3 :: x4 :: x5 :: x6 :: x7 :: x8 :: x9 :: x10 :: x11 :: x12 :: some (.ref v) :: r) st) : V X Z sg I pc (x0 :: x1 :: x2 :: x3 :: x4 :: x5 :: x6 :: x7 :: x8 :: x9 :: x10 :: x11 :: x12 :: x13 :: r) (.ref v :: st) := V_astore0 (i := 13) (Nat.le_of_ble_eq_true hi) (fun w h0 h => by cases h; simpa [okp] using hp) hd kk
theorem V_iinc13_ {x0 x1 x2 x3 x4 x5 x6 x7 x8 x9 x10 x11 x12 : Option Value} {x13 : Int32} {n : Int} {r : List (Option Value)} (v : Int32) (hv : x13 + Int32.ofInt n = v) (hp : okp x12 = true) (hi : Nat.ble 14 mi.2.2.1 = true) (hd : decode mi.2.1 pc = .ok (.iinc 13 n, 3)) (kk : V X Z sg I (pc + 3) (x0 :: x1 :: x2 :: x3 :: x4 :: x5 :: x6 :: x7 :: x8 :: x9 :: x10 :: x11 :: x12 :: some (.int v) :: r) st) : V X Z sg I pc (x0 :: x1 :: x2 :: x3 :: x4 :: x5 :: x6 :: x7 :: x8 :: x9 :: x10 :: x11 :: x12 :: some (.int x13) :: r) st := V_iinc0 (i := 13) v hv rfl (Nat.le_of_ble_eq_true hi) (fun w h0 h => by cases h; simpa [okp] using hp) hd kk
theorem V_lst13 {x0 x1 x2 x3 x4 x5 x6 x7 x8 x9 x10 x11 x12 x13 x14 : Option Value} {r : List (Option Value)} {v : Int64} (hp : okp x12 = true) (hi : Nat.ble 15 mi.2.2.1 = true) (hd : decode mi.2.1 pc = .ok (.lstore 13, 2)) (kk : V X Z sg I (pc + 2) (x0 :: x1 :: x2 :: x3 :: x4 :: x5 :: x6 :: x7 :: x8 :: x9 :: x10 :: x11 :: x12 :: some (.long v) :: none :: r) st) : V X Z sg I pc (x0 :: x1 :: x2 :: x3 :: x4 :: x5 :: x6 :: x7 :: x8 :: x9 :: x10 :: x11 :: x12 :: x13 :: x14 :: r) (.long v :: st) := V_lstore0 (i := 13) (Nat.le_of_ble_eq_true hi) (fun w h0 h => by cases h; simpa [okp] using hp) hd kk
theorem V_ist14 {x0 x1 x2 x3 x4 x5 x6 x7 x8 x9 x10 x11 x12 x13 x14 : Option Value} {r : List (Option Value)} {v : Int32} (hp : okp x13 = true) (hi : Nat.ble 15 mi.2.2.1 = true) (hd : decode mi.2.1 pc = .ok (.istore 14, 2)) (kk : V X Z sg I (pc + 2) (x0 :: x1 :: x2 :: x3 :: x4 :: x5 :: x6 :: x7 :: x8 :: x9 :: x10 :: x11 :: x12 :: x13 :: some (.int v) :: r) st) : V X Z sg I pc (x0 :: x1 :: x2 :: x3 :: x4 :: x5 :: x6 :: x7 :: x8 :: x9 :: x10 :: x11 :: x12 :: x13 :: x14 :: r) (.int v :: st) := V_istore0 (i := 14) (Nat.le_of_ble_eq_true hi) (fun w h0 h => by cases h; simpa [okp] using hp) hd kk
theorem V_ast14 {x0 x1 x2 x3 x4 x5 x6 x7 x8 x9 x10 x11 x12 x13 x14 : Option Value} {r : List (Option Value)} {v : Nat} (hp : okp x13 = true) (hi : Nat.ble 15 mi.2.2.1 = true) (hd : decode mi.2.1 pc = .ok (.astore 14, 2)) (kk : V X Z sg I (pc + 2) (x0 :: x1 :: x2 :: x3 :: x4 :: x5 :: x6 :: x7 :: x8 :: x9 :: x10 :: x11 :: x12 :: x13 :: some (.ref v) :: r) st) : V X Z sg I pc (x0 :: x1 :: x2 :: x3 :: x4 :: x5 :: x6 :: x7 :: x8 :: x9 :: x10 :: x11 :: x12 :: x13 :: x14 :: r) (.ref v :: st) := V_astore0 (i := 14) (Nat.le_of_ble_eq_true hi) (fun w h0 h => by cases h; simpa [okp] using hp) hd kk
theorem V_iinc14_ {x0 x1 x2 x3 x4 x5 x6 x7 x8 x9 x10 x11 x12 x13 : Option Value} {x14 : Int32} {n : Int} {r : List (Option Value)} (v : Int32) (hv : x14 + Int32.ofInt n = v) (hp : okp x13 = true) (hi : Nat.ble 15 mi.2.2.1 = true) (hd : decode mi.2.1 pc = .ok (.iinc 14 n, 3)) (kk : V X Z sg I (pc + 3) (x0 :: x1 :: x2 :: x3 :: x4 :: x5 :: x6 :: x7 :: x8 :: x9 :: x10 :: x11 :: x12 :: x13 :: some (.int v) :: r) st) : V X Z sg I pc (x0 :: x1 :: x2 :: x3 :: x4 :: x5 :: x6 :: x7 :: x8 :: x9 :: x10 :: x11 :: x12 :: x13 :: some (.int x14) :: r) st := V_iinc0 (i := 14) v hv rfl (Nat.le_of_ble_eq_true hi) (fun w h0 h => by cases h; simpa [okp] using hp) hd kk
theorem V_lst14 {x0 x1 x2 x3 x4 x5 x6 x7 x8 x9 x10 x11 x12 x13 x14 x15 : Option Value} {r : List (Option Value)} {v : Int64} (hp : okp x13 = true) (hi : Nat.ble 16 mi.2.2.1 = true) (hd : decode mi.2.1 pc = .ok (.lstore 14, 2)) (kk : V X Z sg I (pc + 2) (x0 :: x1 :: x2 :: x3 :: x4 :: x5 :: x6 :: x7 :: x8 :: x9 :: x10 :: x11 :: x12 :: x13 :: some (.long v) :: none :: r) st) : V X Z sg I pc (x0 :: x1 :: x2 :: x3 :: x4 :: x5 :: x6 :: x7 :: x8 :: x9 :: x10 :: x11 :: x12 :: x13 :: x14 :: x15 :: r) (.long v :: st) := V_lstore0 (i := 14) (Nat.le_of_ble_eq_true hi) (fun w h0 h => by cases h; simpa [okp] using hp) hd kk
theorem V_ist15 {x0 x1 x2 x3 x4 x5 x6 x7 x8 x9 x10 x11 x12 x13 x14 x15 : Option Value} {r : List (Option Value)} {v : Int32} (hp : okp x14 = true) (hi : Nat.ble 16 mi.2.2.1 = true) (hd : decode mi.2.1 pc = .ok (.istore 15, 2)) (kk : V X Z sg I (pc + 2) (x0 :: x1 :: x2 :: x3 :: x4 :: x5 :: x6 :: x7 :: x8 :: x9 :: x10 :: x11 :: x12 :: x13 :: x14 :: some (.int v) :: r) st) : V X Z sg I pc (x0 :: x1 :: x2 :: x3 :: x4 :: x5 :: x6 :: x7 :: x8 :: x9 :: x10 :: x11 :: x12 :: x13 :: x14 :: x15 :: r) (.int v :: st) := V_istore0 (i := 15) (Nat.le_of_ble_eq_true hi) (fun w h0 h => by cases h; simpa [okp] using hp) hd kk
theorem V_ast15 {x0 x1 x2 x3 x4 x5 x6 x7 x8 x9 x10 x11 x12 x13 x14 x15 : Option Value} {r : List (Option Value)} {v : Nat} (hp : okp x14 = true) (hi : Nat.ble 16 mi.2.2.1 = true) (hd : decode mi.2.1 pc = .ok (.astore 15, 2)) (kk : V X Z sg I (pc + 2) (x0 :: x1 :: x2 :: x3 :: x4 :: x5 :: x6 :: x7 :: x8 :: x9 :: x10 :: x11 :: x12 :: x13 :: x14 :: some (.ref v) :: r) st) : V X Z sg I pc (x0 :: x1 :: x2 :: x3 :: x4 :: x5 :: x6 :: x7 :: x8 :: x9 :: x10 :: x11 :: x12 :: x13 :: x14 :: x15 :: r) (.ref v :: st) := V_astore0 (i := 15) (Nat.le_of_ble_eq_true hi) (fun w h0 h => by cases h; simpa [okp] using hp) hd kk
theorem V_iinc15_ {x0 x1 x2 x3 x4 x5 x6 x7 x8 x9 x10 x11 x12 x13 x14 : Option Value} {x15 : Int32} {n : Int} {r : List (Option Value)} (v : Int32) (hv : x15 + Int32.ofInt n = v) (hp : okp x14 = true) (hi : Nat.ble 16 mi.2.2.1 = true) (hd : decode mi.2.1 pc = .ok (.iinc 15 n, 3)) (kk : V X Z sg I (pc + 3) (x0 :: x1 :: x2 :: x3 :: x4 :: x5 :: x6 :: x7 :: x8 :: x9 :: x10 :: x11 :: x12 :: x13 :: x14 :: some (.int v) :: r) st) : V X Z sg I pc (x0 :: x1 :: x2 :: x3 :: x4 :: x5 :: x6 :: x7 :: x8 :: x9 :: x10 :: x11 :: x12 :: x13 :: x14 :: some (.int x15) :: r) st := V_iinc0 (i := 15) v hv rfl (Nat.le_of_ble_eq_true hi) (fun w h0 h => by cases h; simpa [okp] using hp) hd kk
theorem V_lst15 {x0 x1 x2 x3 x4 x5 x6 x7 x8 x9 x10 x11 x12 x13 x14 x15 x16 : Option Value} {r : List (Option Value)} {v : Int64} (hp : okp x14 = true) (hi : Nat.ble 17 mi.2.2.1 = true) (hd : decode mi.2.1 pc = .ok (.lstore 15, 2)) (kk : V X Z sg I (pc + 2) (x0 :: x1 :: x2 :: x3 :: x4 :: x5 :: x6 :: x7 :: x8 :: x9 :: x10 :: x11 :: x12 :: x13 :: x14 :: some (.long v) :: none :: r) st) : V X Z sg I pc (x0 :: x1 :: x2 :: x3 :: x4 :: x5 :: x6 :: x7 :: x8 :: x9 :: x10 :: x11 :: x12 :: x13 :: x14 :: x15 :: x16 :: r) (.long v :: st) := V_lstore0 (i := 15) (Nat.le_of_ble_eq_true hi) (fun w h0 h => by cases h; simpa [okp] using hp) hd kk
theorem V_if_eq {x : Int32} {off : Int} (tgt : Nat) (hd : decode mi.2.1 pc = .ok (.ifCond .eq off, 3)) (ht : (pc : Int) + off = (tgt : Int)) (kt : x = 0 → V X Z sg I tgt L st) (kf : ¬ x = 0 → V X Z sg I (pc + 3) L st) : V X Z sg I pc L (.int x :: st) := fun a b H locs ls h1 h2 h3 => lv_if_eq (cx_exec X) (cx_bytes X) hd ht (fun h => kt h a b H locs ls h1 h2 h3) (fun h => kf h a b H locs ls h1 h2 h3)
theorem V_icmp_eq {x y : Int32} {off : Int} (tgt : Nat) (hd : decode mi.2.1 pc = .ok (.if_icmp .eq off, 3)) (ht : (pc : Int) + off = (tgt : Int)) (kt : x = y → V X Z sg I tgt L st) (kf : ¬ x = y → V X Z sg I (pc + 3) L st) : V X Z sg I pc L (.int y :: .int x :: st) := fun a b H locs ls h1 h2 h3 => lv_icmp_eq (cx_exec X) (cx_bytes X) hd ht (fun h => kt h a b H locs ls h1 h2 h3) (fun h => kf h a b H locs ls h1 h2 h3)
theorem V_if_ne {x : Int32} {off : Int} (tgt : Nat) (hd : decode mi.2.1 pc = .ok (.ifCond .ne off, 3)) (ht : (pc : Int) + off = (tgt : Int)) (kt : ¬ x = 0 → V X Z sg I tgt L st) (kf : x = 0 → V X Z sg I (pc + 3) L st) : V X Z sg I pc L (.int x :: st) := fun a b H locs ls h1 h2 h3 => lv_if_ne (cx_exec X) (cx_bytes X) hd ht (fun h => kt h a b H locs ls h1 h2 h3) (fun h => kf h a b H locs ls h1 h2 h3)
theorem V_icmp_ne {x y : Int32} {off : Int} (tgt : Nat) (hd : decode mi.2.1 pc = .ok (.if_icmp .ne off, 3)) (ht : (pc : Int) + off = (tgt : Int)) (kt : ¬ x = y → V X Z sg I tgt L st) (kf : x = y → V X Z sg I (pc + 3) L st) : V X Z sg I pc L (.int y :: .int x :: st) := fun a b H locs ls h1 h2 h3 => lv_icmp_ne (cx_exec X) (cx_bytes X) hd ht (fun h => kt h a b H locs ls h1 h2 h3) (fun h => kf h a b H locs ls h1 h2 h3)
theorem V_if_lt {x : Int32} {off : Int} (tgt : Nat) (hd : decode mi.2.1 pc = .ok (.ifCond .lt off, 3)) (ht : (pc : Int) + off = (tgt : Int)) (kt : x < 0 → V X Z sg I tgt L st) (kf : ¬ x < 0 → V X Z sg I (pc + 3) L st) : V X Z sg I pc L (.int x :: st) := fun a b H locs ls h1 h2 h3 => lv_if_lt (cx_exec X) (cx_bytes X) hd ht (fun h => kt h a b H locs ls h1 h2 h3) (fun h => kf h a b H locs ls h1 h2 h3)
theorem V_icmp_lt {x y : Int32} {off : Int} (tgt : Nat) (hd : decode mi.2.1 pc = .ok (.if_icmp .lt off, 3)) (ht : (pc : Int) + off = (tgt : Int)) (kt : x < y → V X Z sg I tgt L st) (kf : ¬ x < y → V X Z sg I (pc + 3) L st) : V X Z sg I pc L (.int y :: .int x :: st) := fun a b H locs ls h1 h2 h3 => lv_icmp_lt (cx_exec X) (cx_bytes X) hd ht (fun h => kt h a b H locs ls h1 h2 h3) (fun h => kf h a b H locs ls h1 h2 h3)
theorem V_if_ge {x : Int32} {off : Int} (tgt : Nat) (hd : decode mi.2.1 pc = .ok (.ifCond .ge off, 3)) (ht : (pc : Int) + off = (tgt : Int)) (kt : 0 ≤ x → V X Z sg I tgt L st) (kf : ¬ 0 ≤ x → V X Z sg I (pc + 3) L st) : V X Z sg I pc L (.int x :: st) := fun a b H locs ls h1 h2 h3 => lv_if_ge (cx_exec X) (cx_bytes X) hd ht (fun h => kt h a b H locs ls h1 h2 h3) (fun h => kf h a b H locs ls h1 h2 h3)
theorem V_icmp_ge {x y : Int32} {off : Int} (tgt : Nat) (hd : decode mi.2.1 pc = .ok (.if_icmp .ge off, 3)) (ht : (pc : Int) + off = (tgt : Int)) (kt : y ≤ x → V X Z sg I tgt L st) (kf : ¬ y ≤ x → V X Z sg I (pc + 3) L st) : V X Z sg I pc L (.int y :: .int x :: st) := fun a b H locs ls h1 h2 h3 => lv_icmp_ge (cx_exec X) (cx_bytes X) hd ht (fun h => kt h a b H locs ls h1 h2 h3) (fun h => kf h a b H locs ls h1 h2 h3)
theorem V_if_gt {x : Int32} {off : Int} (tgt : Nat) (hd : decode mi.2.1 pc = .ok (.ifCond .gt off, 3)) (ht : (pc : Int) + off = (tgt : Int)) (kt : 0 < x → V X Z sg I tgt L st) (kf : ¬ 0 < x → V X Z sg I (pc + 3) L st) : V X Z sg I pc L (.int x :: st) := fun a b H locs ls h1 h2 h3 => lv_if_gt (cx_exec X) (cx_bytes X) hd ht (fun h => kt h a b H locs ls h1 h2 h3) (fun h => kf h a b H locs ls h1 h2 h3)
theorem V_icmp_gt {x y : Int32} {off : Int} (tgt : Nat) (hd : decode mi.2.1 pc = .ok (.if_icmp .gt off, 3)) (ht : (pc : Int) + off = (tgt : Int)) (kt : y < x → V X Z sg I tgt L st) (kf : ¬ y < x → V X Z sg I (pc + 3) L st) : V X Z sg I pc L (.int y :: .int x :: st) := fun a b H locs ls h1 h2 h3 => lv_icmp_gt (cx_exec X) (cx_bytes X) hd ht (fun h => kt h a b H locs ls h1 h2 h3) (fun h => kf h a b H locs ls h1 h2 h3)
theorem V_if_le {x : Int32} {off : Int} (tgt : Nat) (hd : decode mi.2.1 pc = .ok (.ifCond .le off, 3)) (ht : (pc : Int) + off = (tgt : Int)) (kt : x ≤ 0 → V X Z sg I tgt L st) (kf : ¬ x ≤ 0 → V X Z sg I (pc + 3) L st) : V X Z sg I pc L (.int x :: st) := fun a b H locs ls h1 h2 h3 => lv_if_le (cx_exec X) (cx_bytes X) hd ht (fun h => kt h a b H locs ls h1 h2 h3) (fun h => kf h a b H locs ls h1 h2 h3)
theorem V_icmp_le {x y : Int32} {off : Int} (tgt : Nat) (hd : decode mi.2.1 pc = .ok (.if_icmp .le off, 3)) (ht : (pc : Int) + off = (tgt : Int)) (kt : x ≤ y → V X Z sg I tgt L st) (kf : ¬ x ≤ y → V X Z sg I (pc + 3) L st) : V X Z sg I pc L (.int y :: .int x :: st) := fun a b H locs ls h1 h2 h3 => lv_icmp_le (cx_exec X) (cx_bytes X) hd ht (fun h => kt h a b H locs ls h1 h2 h3) (fun h => kf h a b H locs ls h1 h2 h3)
theorem V_goto {off : Int} (tgt : Nat) (hd : decode mi.2.1 pc = .ok (.goto off, 3)) (ht : (pc : Int) + off = (tgt : Int)) (kk : V X Z sg I tgt L st) : V X Z sg I pc L st := fun a b H locs ls h1 h2 h3 => lv_goto (cx_exec X) (cx_bytes X) hd ht (kk a b H locs ls h1 h2 h3)
theorem V_ifnull {x : Nat} {off : Int} (hd : decode mi.2.1 pc = .ok (.ifnull off, 3)) (kk : V X Z sg I (pc + 3) L st) : V X Z sg I pc L (.ref x :: st) := fun a b H locs ls h1 h2 h3 => lv_ifnull (cx_exec X) (cx_bytes X) hd (kk a b H locs ls h1 h2 h3)
theorem V_tableIn {dflt lo hi : Int} {offs : Array Int} {len : Nat} {x : Int32} (off : Int) (tgt : Nat) (hd : decode mi.2.1 pc = .ok (.tableswitch dflt lo hi offs, len)) (h1 : ¬ x.toInt < lo) (h2 : ¬ hi < x.toInt) (ho : offs[(x.toInt - lo).toNat]? = some off) (ht : (pc : Int) + off = (tgt : Int)) (kk : V X Z sg I tgt L st) : V X Z sg I pc L (.int x :: st) := fun a b H locs ls q1 q2 q3 => lv_tableIn (cx_exec X) (cx_bytes X) hd h1 h2 ho ht (kk a b H locs ls q1 q2 q3)
theorem V_tableOut {dflt lo hi : Int} {offs : Array Int} {len : Nat} {x : Int32} (tgt : Nat) (hd : decode mi.2.1 pc = .ok (.tableswitch dflt lo hi offs, len)) (h : x.toInt < lo ∨ hi < x.toInt) (ht : (pc : Int) + dflt = (tgt : Int)) (kk : V X Z sg I tgt L st) : V X Z sg I pc L (.int x :: st) := fun a b H locs ls q1 q2 q3 => lv_tableOut (cx_exec X) (cx_bytes X) hd h ht (kk a b H locs ls q1 q2 q3)
theorem V_lookup {dflt : Int} {ps : Array (Int × Int)} {len : Nat} {x : Int32} (off : Int) (tgt : Nat) (hd : decode mi.2.1 pc = .ok (.lookupswitch dflt ps, len)) (hp : (ps.toList.zip (ps.toList.drop 1)).all (fun (a, next) => a.1 < next.1) = true) (ho : Op.lookupswitch.offset ps.toList dflt x.toInt = off) (ht : (pc : Int) + off = (tgt : Int)) (kk : V X Z sg I tgt L st) : V X Z sg I pc L (.int x :: st) := fun a b H locs ls q1 q2 q3 => lv_lookup (cx_exec X) (cx_bytes X) hd hp ho ht (kk a b H locs ls q1 q2 q3)
end ROWS
