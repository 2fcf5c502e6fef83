/-! fields, arrays, calls, ends over the memory -/
def upI (I : IM) (q k : Nat) (v : Int32) : IM := fun a b => if a = q ∧ b = k then v else I a b
def upR (R : Nat → Nat → Option Nat) (q k : Nat) (v : Option Nat) : Nat → Nat → Option Nat := fun a b => if a = q ∧ b = k then v else R a b
theorem upI_ne {I : IM} {q k : Nat} {v : Int32} {a b : Nat} (h : a ≠ q ∨ b ≠ k) : upI I q k v a b = I a b := if_neg (fun e => h.elim (fun z => z e.1) (fun z => z e.2))
theorem upI_eq {I : IM} {q k : Nat} {v : Int32} : upI I q k v q k = v := if_pos ⟨rfl, rfl⟩
theorem upR_ne {R : Nat → Nat → Option Nat} {q k : Nat} {v : Option Nat} {a b : Nat} (h : a ≠ q ∨ b ≠ k) : upR R q k v a b = R a b := if_neg (fun e => h.elim (fun z => z e.1) (fun z => z e.2))
theorem upR_eq {R : Nat → Nat → Option Nat} {q k : Nat} {v : Option Nat} : upR R q k v q k = v := if_pos ⟨rfl, rfl⟩
theorem hat_kept {g : GC} {sg sg' : SG} {I I' : IM} {q : Nat} {H H' : Heap} (h : hat g sg I q H) (hk : sg'.2.2.1 q = sg.2.2.1 q) (hq : H'[g.2.2.2 + q]? = H[g.2.2.2 + q]?) (hvv : ∀ k, hv g sg' I' q k = hv g sg I q k) : hat g sg' I' q H' := by
  unfold hat at h ⊢
  rw [hk]
  have hf : hv g sg' I' q = hv g sg I q := funext hvv
  rw [hf]
  split
  · rename_i h7
    rw [if_pos h7] at h
    exact h.kept hq
  · rename_i h7
    rw [if_neg h7] at h
    rw [hq]; exact h
/-- one object's slots anew, the others as they were -/
theorem Hp_put {g : GC} {sg sg' : SG} {I I' : IM} {q : Nat} {H H' : Heap} (h : Hp g sg I H) (hn : sg'.1 = sg.1) (hk : sg'.2.2.1 = sg.2.2.1) (hz : H'.size = H.size) (ho : ∀ a, a ≠ g.2.2.2 + q → H'[a]? = H[a]?) (hvv : ∀ a k, a ≠ q → hv g sg' I' a k = hv g sg I a k) (hq : (sg.2.2.1 q).1 ≠ 99 → hat g sg' I' q H') : Hp g sg' I' H' := by
  refine ⟨by rw [hz, hn]; exact h.1, fun a ha => ?_⟩
  rw [hk] at ha
  rw [hn]
  by_cases e : a = q
  · subst e
    exact ⟨(h.2 a ha).1, hq ha⟩
  · exact ⟨(h.2 a ha).1, hat_kept (h.2 a ha).2 (by rw [hk]) (ho _ (by omega)) (fun k => hvv a k e)⟩
theorem hv_int {g : GC} {sg : SG} {I : IM} {q k : Nat} (h : isRf (sg.2.2.1 q).1 k = false) : hv g sg I q k = .int (I q k) := by
  unfold hv; rw [h]; rfl
theorem hv_ref {g : GC} {sg : SG} {I : IM} {q k : Nat} (h : isRf (sg.2.2.1 q).1 k = true) : hv g sg I q k = rv g (sg.2.2.2 q k) := by
  unfold hv; rw [h]; rfl
theorem hv_upI {g : GC} {sg : SG} {I : IM} {q k : Nat} {v : Int32} (a b : Nat) (h : a ≠ q ∨ b ≠ k) : hv g sg (upI I q k v) a b = hv g sg I a b := by
  unfold hv
  rw [upI_ne h]
theorem hv_upI_self {g : GC} {sg : SG} {I : IM} {q k : Nat} {v : Int32} (h : isRf (sg.2.2.1 q).1 k = false) : hv g sg (upI I q k v) q k = .int v := by
  rw [hv_int h]; simp [upI]
abbrev sgR (sg : SG) (R : Nat → Nat → Option Nat) : SG := (sg.1, sg.2.1, sg.2.2.1, R)
theorem hv_upR {g : GC} {sg : SG} {I : IM} {q k : Nat} {v : Option Nat} (a b : Nat) (h : a ≠ q ∨ b ≠ k) : hv g (sgR sg (upR sg.2.2.2 q k v)) I a b = hv g sg I a b := by
  unfold hv
  show (if isRf (sg.2.2.1 a).1 b = true then rv g (upR sg.2.2.2 q k v a b) else _) = _
  rw [upR_ne h]
theorem hv_upR_self {g : GC} {sg : SG} {I : IM} {q k : Nat} {v : Option Nat} (h : isRf (sg.2.2.1 q).1 k = true) : hv g (sgR sg (upR sg.2.2.2 q k v)) I q k = rv g v := by
  unfold hv
  show (if isRf (sg.2.2.1 q).1 k = true then rv g (upR sg.2.2.2 q k v q k) else _) = _
  rw [if_pos h]; simp [upR]
/-- the rows that a program decides, for each class: its field words, names, types -/
theorem u_gw (c : Nat) (hc : c < 7) : ∀ w ∈ u_ws (kC c) (kT c) (kN c), w ∈ gw := by
  have key : ∀ c, c < 7 → ∀ w ∈ u_ws (kC c) (kT c) (kN c), w ∈ lw_tbl ∧ goodWord w = true := by decide +kernel
  exact fun w hw => gw_mem (key c hc w hw).1 (key c hc w hw).2
theorem kTy_ok : ∀ c, c < 7 → ∀ k, k < kN c → parseFieldDescriptor ((kT c) k).2.2.1 = some (kTy c k) := by decide +kernel
theorem knm : ∀ c, c < 7 → ∀ a, a < kN c → ∀ b, b < kN c → a ≠ b → (kT c a).2.1 ≠ (kT c b).2.1 := by decide +kernel
theorem kdecl : ∀ c, c < 7 → ∀ k, k < kN c → (kT c k).1 = kC c := by decide +kernel
section HROWS
variable {mi : MI} {g : GC} {sg0 : SG} {X : Cx mi g sg0} {Z : State → Prop} {sg : SG} {I : IM} {pc : Nat} {L : List (Option Value)} {st : List Value}
theorem hob {H : Heap} {q c : Nat} (hH : Hp g sg I H) (hk : (sg.2.2.1 q).1 = c) (hc : c < 7) : t_OB (g.2.2.2 + q) (g.2.1.1 c) (kN c) (g.2.1.2 c) H (hv g sg I q) := by
  subst hk
  have h := (hH.2 q (by omega)).2
  unfold hat at h
  rwa [if_pos hc] at h
theorem har {H : Heap} {q c n : Nat} (hH : Hp g sg I H) (hk : sg.2.2.1 q = (c, n)) (hc : ¬ c < 7) (h9 : c ≠ 99) : H[g.2.2.2 + q]? = some (arrV (kA g c) n (hv g sg I q)) := by
  have h := (hH.2 q (by rw [hk]; exact h9)).2
  unfold hat at h
  rw [hk, if_neg hc] at h
  exact h
theorem V_getv {q idx : Nat} (c k : Nat) {v : Value} (hk : (sg.2.2.1 q).1 = c) (hc : c < 7) (hkn : k < kN c) (hw : Cond.fieldLink mi.1.cls idx (kC c) (kT c k).2.1 (kT c k).2.2.1 ∈ gw) (hv' : hv g sg I q k = v) (hd : decode mi.2.1 pc = .ok (.getfield idx, 3))
    (kk : V X Z sg I (pc + 3) L (v :: st)) : V X Z sg I pc L (rf g q :: st) := by
  intro a b H locs ls h1 h2 h3
  obtain ⟨cell, q1, q2, q3, q4⟩ := hob h1 hk hc
  obtain ⟨hS, hfc, kk0, hkC, hkind⟩ := (cx_K X).1 c _ (kcl_at c hc)
  obtain ⟨cf, kf, fi, f, hi, hsl⟩ := hS k hkn
  refine W.getf (cx_exec X) (cx_bytes X) (cx_own X) (cx_hts X _ hw) (v := v) (show _ = some (cf, kf, fi, f) from by rw [← kdecl c hc k hkn]; exact hi) (u_facts hfc hkC (u_lays (cx_hts X) (u_gw c hc) hkn) hi).1 q1 (by rw [q3]; exact fun h => by cases h) ?_ rfl rfl hd (kk a b H locs ls h1 h2 h3)
  rw [hsl, q4 k hkn, hv']
theorem V_getnv {q idx : Nat} (c k : Nat) (host : String) {v : Value} (hk : (sg.2.2.1 q).1 = c) (hc : c < 7) (hkn : k < kN c) (hw : Cond.fieldLinkNest mi.1.cls idx (kC c) (kT c k).2.1 (kT c k).2.2.1 host ∈ nw) (hv' : hv g sg I q k = v) (hd : decode mi.2.1 pc = .ok (.getfield idx, 3))
    (kk : V X Z sg I (pc + 3) L (v :: st)) : V X Z sg I pc L (rf g q :: st) := by
  intro a b H locs ls h1 h2 h3
  obtain ⟨cell, q1, q2, q3, q4⟩ := hob h1 hk hc
  obtain ⟨hS, hfc, kk0, hkC, hkind⟩ := (cx_K X).1 c _ (kcl_at c hc)
  obtain ⟨cf, kf, fi, f, hi, hsl⟩ := hS k hkn
  refine va_Wgetf (cx_exec X) (cx_bytes X) (cx_own X) (NW_use (cx_NW X) hw) (v := v) (show _ = some (cf, kf, fi, f) from by rw [← kdecl c hc k hkn]; exact hi) (u_facts hfc hkC (u_lays (cx_hts X) (u_gw c hc) hkn) hi).1 q1 (by rw [q3]; exact fun h => by cases h) ?_ rfl rfl hd (kk a b H locs ls h1 h2 h3)
  rw [hsl, q4 k hkn, hv']
theorem hap (X : Cx mi g sg0) (c : Nat) (hc : c < 7) : ∀ x y, x < kN c → y < kN c → x ≠ y → (g.2.1.2 c) x ≠ (g.2.1.2 c) y :=
  va_apart (own := mi.1.cls) (cx_hts X) (u_gw c hc) (kTy c) (kTy_ok c hc) (knm c hc) (cx_K X) (kcl_at c hc)
/-- the heap behind a store into a field -/
theorem Hp_field {sg' : SG} {I' : IM} {H H' : Heap} {q c k : Nat} {cell : Cell} {v : Value} (X : Cx mi g sg0) (h1 : Hp g sg I H) (hk : (sg.2.2.1 q).1 = c) (hc : c < 7) (hkn : k < kN c) (q1 : H[g.2.2.2 + q]? = some cell) (q2 : cell.cls = g.2.1.1 c) (q3 : cell.vm = .none) (q4 : ∀ j, j < kN c → cell.slots[g.2.1.2 c j]? = some (hv g sg I q j))
    (hn : sg'.1 = sg.1) (hk' : sg'.2.2.1 = sg.2.2.1) (hself : hv g sg' I' q k = v) (hoth : ∀ a j, a ≠ q ∨ j ≠ k → hv g sg' I' a j = hv g sg I a j)
    (e1 : H'[g.2.2.2 + q]? = some (cell.setSlot (g.2.1.2 c k) v)) (e2 : H'.size = H.size) (e3 : ∀ a, a ≠ g.2.2.2 + q → H'[a]? = H[a]?) : Hp g sg' I' H' := by
  refine Hp_put (q := q) h1 hn hk' e2 e3 (fun a j h => hoth a j (Or.inl h)) (fun h9 => ?_)
  unfold hat
  rw [hk', hk, if_pos hc]
  refine ⟨_, e1, q2, q3, fun j hj => ?_⟩
  rw [t_set q4 (hap X c hc) hkn v j hj]
  unfold updV
  by_cases hjk : j = k
  · subst hjk
    rw [if_pos rfl, hself]
  · rw [if_neg hjk, hoth q j (Or.inr hjk)]
theorem V_putv {q idx : Nat} (c k : Nat) (ty : FieldType) {v : Value} {sg' : SG} {I' : IM} (hk : (sg.2.2.1 q).1 = c) (hc : c < 7) (hkn : k < kN c) (hw : Cond.fieldLink mi.1.cls idx (kC c) (kT c k).2.1 (kT c k).2.2.1 ∈ gw) (hfin : (kT c k).2.2.2 = false) (hd0 : kTy c k = ty) (hnr : narrow ty v = v) (hfit : fits ty v = true)
    (hn : sg'.1 = sg.1) (hu : sg'.2.1 = sg.2.1) (hk' : sg'.2.2.1 = sg.2.2.1) (hself : hv g sg' I' q k = v) (hoth : ∀ a j, a ≠ q ∨ j ≠ k → hv g sg' I' a j = hv g sg I a j) (hd : decode mi.2.1 pc = .ok (.putfield idx, 3))
    (kk : V X Z sg' I' (pc + 3) L st) : V X Z sg I pc L (v :: rf g q :: st) := by
  intro a b H locs ls h1 h2 h3
  obtain ⟨cell, q1, q2, q3, q4⟩ := hob h1 hk hc
  obtain ⟨hS, hfc, kC0, hkC, hkind⟩ := (cx_K X).1 c _ (kcl_at c hc)
  obtain ⟨cf, kf, fi, f, hi, hsl⟩ := hS k hkn
  have hlay := cx_hts X _ (u_gw c hc _ (u_in_lay hkn))
  unfold u_lay at hlay
  rw [if_neg (by rw [hfin]; decide)] at hlay
  have hst := (u_facts hfc hkC (u_lays (cx_hts X) (u_gw c hc) hkn) hi).1
  have h6 := u_store (v := v) hfc hkC hkind hlay hi (by rw [kTy_ok c hc k hkn, hd0]) hnr hfit
  refine W.putK (cx_exec X) (cx_bytes X) (f := f) ⟨cx_own X, cx_hts X _ hw, ⟨_, _, _, (show _ = some (cf, kf, fi, f) from by rw [← kdecl c hc k hkn]; exact hi)⟩, hst⟩ (by rw [q2]; exact h6) q1 q3 (by rw [hsl]; exact k2_hasslot (q4 k hkn)) rfl rfl hd fun H' e1 e2 e3 => ?_
  rw [hsl] at e1
  have h4 := kk (by rw [hn]; exact a) (by rw [hu]; exact b) H' (locs ++ [⟨g.2.2.2 + q, f.slot⟩]) ls (Hp_field X h1 hk hc hkn q1 q2 q3 q4 hn hk' hself hoth e1 e2 e3) (h2.put e2 e3 (Nat.le_add_right _ _)) h3
  rw [hn, hu] at h4
  exact h4
theorem V_putnv {q idx : Nat} (c k : Nat) (host : String) (ty : FieldType) {v : Value} {sg' : SG} {I' : IM} (hk : (sg.2.2.1 q).1 = c) (hc : c < 7) (hkn : k < kN c) (hw : Cond.fieldLinkNest mi.1.cls idx (kC c) (kT c k).2.1 (kT c k).2.2.1 host ∈ nw) (hfin : (kT c k).2.2.2 = false) (hd0 : kTy c k = ty) (hnr : narrow ty v = v) (hfit : fits ty v = true)
    (hn : sg'.1 = sg.1) (hu : sg'.2.1 = sg.2.1) (hk' : sg'.2.2.1 = sg.2.2.1) (hself : hv g sg' I' q k = v) (hoth : ∀ a j, a ≠ q ∨ j ≠ k → hv g sg' I' a j = hv g sg I a j) (hd : decode mi.2.1 pc = .ok (.putfield idx, 3))
    (kk : V X Z sg' I' (pc + 3) L st) : V X Z sg I pc L (v :: rf g q :: st) := by
  intro a b H locs ls h1 h2 h3
  obtain ⟨cell, q1, q2, q3, q4⟩ := hob h1 hk hc
  obtain ⟨hS, hfc, kC0, hkC, hkind⟩ := (cx_K X).1 c _ (kcl_at c hc)
  obtain ⟨cf, kf, fi, f, hi, hsl⟩ := hS k hkn
  have hlay := cx_hts X _ (u_gw c hc _ (u_in_lay hkn))
  unfold u_lay at hlay
  rw [if_neg (by rw [hfin]; decide)] at hlay
  have hst := (u_facts hfc hkC (u_lays (cx_hts X) (u_gw c hc) hkn) hi).1
  have h6 := u_store (v := v) hfc hkC hkind hlay hi (by rw [kTy_ok c hc k hkn, hd0]) hnr hfit
  refine va_WputK (cx_exec X) (cx_bytes X) (f := f) (cx_own X) (NW_use (cx_NW X) hw) (show _ = some (cf, kf, fi, f) from by rw [← kdecl c hc k hkn]; exact hi) hst (by rw [q2]; exact h6) q1 q3 (by rw [hsl]; exact k2_hasslot (q4 k hkn)) rfl rfl hd fun H' e1 e2 e3 => ?_
  rw [hsl] at e1
  have h4 := kk (by rw [hn]; exact a) (by rw [hu]; exact b) H' (locs ++ [⟨g.2.2.2 + q, f.slot⟩]) ls (Hp_field X h1 hk hc hkn q1 q2 q3 q4 hn hk' hself hoth e1 e2 e3) (h2.put e2 e3 (Nat.le_add_right _ _)) h3
  rw [hn, hu] at h4
  exact h4
/-- a final field, in its own class's constructor -/
theorem V_putFv {q idx : Nat} (c k : Nat) (ty : FieldType) {v : Value} {sg' : SG} {I' : IM} (hk : (sg.2.2.1 q).1 = c) (hc : c < 7) (hkn : k < kN c) (hw : Cond.fieldLink mi.1.cls idx (kC c) (kT c k).2.1 (kT c k).2.2.1 ∈ gw) (hfin : (kT c k).2.2.2 = true) (hin : mi.1.name = "<init>") (hcl : mi.1.cls = kC c) (hd0 : kTy c k = ty) (hnr : narrow ty v = v) (hfit : fits ty v = true)
    (hn : sg'.1 = sg.1) (hu : sg'.2.1 = sg.2.1) (hk' : sg'.2.2.1 = sg.2.2.1) (hself : hv g sg' I' q k = v) (hoth : ∀ a j, a ≠ q ∨ j ≠ k → hv g sg' I' a j = hv g sg I a j) (hd : decode mi.2.1 pc = .ok (.putfield idx, 3))
    (kk : V X Z sg' I' (pc + 3) L st) : V X Z sg I pc L (v :: rf g q :: st) := by
  intro a b H locs ls h1 h2 h3
  obtain ⟨cell, q1, q2, q3, q4⟩ := hob h1 hk hc
  obtain ⟨hS, hfc, kC0, hkC, hkind⟩ := (cx_K X).1 c _ (kcl_at c hc)
  obtain ⟨cf, kf, fi, f, hi, hsl⟩ := hS k hkn
  have hlay := cx_hts X _ (u_gw c hc _ (u_in_lay hkn))
  unfold u_lay at hlay
  rw [if_pos hfin] at hlay
  have hst := (u_facts hfc hkC (u_lays (cx_hts X) (u_gw c hc) hkn) hi).1
  have hcf : X.1.2.2.2.1.cls = cf := by
    obtain ⟨_, _, c', _, _, _, -, -, hf', -, -, -, hown2, -⟩ := Cond.laysFinal_spec hlay
    have e1 : c' = cf := by have := hi.symm.trans hf'; simp at this; exact this.1.symm
    rw [kdecl c hc k hkn, ← hcl] at hown2
    rw [← e1]; exact Option.some.inj ((cx_own X).symm.trans hown2)
  have h6 := u_fits (v := v) hfc hkC hkind (Or.inr hlay) hi (by rw [kTy_ok c hc k hkn, hd0]) hnr hfit
  refine W.putFinK (cx_exec X) (cx_bytes X) (f := f) (cx_own X) (cx_hts X _ hw) (show _ = some (cf, kf, fi, f) from by rw [← kdecl c hc k hkn]; exact hi) hst hcf ((cx_name X).trans hin) (by rw [q2]; exact h6) q1 q3 (by rw [hsl]; exact k2_hasslot (q4 k hkn)) rfl rfl hd fun H' e1 e2 e3 => ?_
  rw [hsl] at e1
  have h4 := kk (by rw [hn]; exact a) (by rw [hu]; exact b) H' (locs ++ [⟨g.2.2.2 + q, f.slot⟩]) ls (Hp_field X h1 hk hc hkn q1 q2 q3 q4 hn hk' hself hoth e1 e2 e3) (h2.put e2 e3 (Nat.le_add_right _ _)) h3
  rw [hn, hu] at h4
  exact h4
theorem hArr (X : Cx mi g sg0) (c : Nat) : ArrOfT X.1.2.2.1 (kA g c) (kATy c) := by
  have hK := (cx_K X).2
  unfold kA kATy
  split
  · exact (hK 0 _ rfl).1
  · split
    · exact (hK 1 _ rfl).1
    · split
      · exact (hK 2 _ rfl).1
      · exact (hK 3 _ rfl).1
theorem arr_in {i : Int32} {j n : Nat} (hi : i = nI j) (hj : j < n) (hn : n < 2 ^ 31) : ¬ (i < 0 ∨ n ≤ i.toNatClampNeg) ∧ i.toNatClampNeg = j := by
  have h2 : j < 2 ^ 31 := by omega
  subst hi
  refine ⟨?_, nI_clamp h2⟩
  rw [nI_clamp h2]
  rintro (h | h)
  · exact nI_pos h2 h
  · omega
theorem V_iald {q n : Nat} {i : Int32} (j : Nat) (hk : sg.2.2.1 q = (7, n)) (hi : i = nI j) (hj : j < n) (hn : n < 2 ^ 31) (hd : decode mi.2.1 pc = .ok (.iaload, 1)) (kk : V X Z sg I (pc + 1) L (.int (I q j) :: st)) : V X Z sg I pc L (.int i :: rf g q :: st) := by
  intro a b H locs ls h1 h2 h3
  obtain ⟨e1, e2⟩ := arr_in hi hj hn
  refine W.iald (v := .int (I q j)) (cx_exec X) (cx_bytes X) (har h1 hk (by decide) (by decide)) (hArr X 7 n _) (fun z => by cases z) (by rw [arrV_size]; exact e1) ?_ rfl rfl hd (kk a b H locs ls h1 h2 h3)
  rw [e2, arrV_read _ _ hj, hv_int (by rw [hk]; rfl)]
theorem V_bald {q n : Nat} {i : Int32} (j : Nat) (hk : sg.2.2.1 q = (8, n)) (hi : i = nI j) (hj : j < n) (hn : n < 2 ^ 31) (hd : decode mi.2.1 pc = .ok (.baload, 1)) (kk : V X Z sg I (pc + 1) L (.int (I q j) :: st)) : V X Z sg I pc L (.int i :: rf g q :: st) := by
  intro a b H locs ls h1 h2 h3
  obtain ⟨e1, e2⟩ := arr_in hi hj hn
  refine W.bald (v := .int (I q j)) (cx_exec X) (cx_bytes X) (har h1 hk (by decide) (by decide)) (hArr X 8 n _) (fun z => by cases z) (by rw [arrV_size]; exact e1) ?_ rfl rfl hd (kk a b H locs ls h1 h2 h3)
  rw [e2, arrV_read _ _ hj, hv_int (by rw [hk]; rfl)]
theorem V_zald {q n : Nat} {i : Int32} (j : Nat) (hk : sg.2.2.1 q = (9, n)) (hi : i = nI j) (hj : j < n) (hn : n < 2 ^ 31) (hd : decode mi.2.1 pc = .ok (.baload, 1)) (kk : V X Z sg I (pc + 1) L (.int (I q j) :: st)) : V X Z sg I pc L (.int i :: rf g q :: st) := by
  intro a b H locs ls h1 h2 h3
  obtain ⟨e1, e2⟩ := arr_in hi hj hn
  refine W.zald (v := .int (I q j)) (cx_exec X) (cx_bytes X) (har h1 hk (by decide) (by decide)) (hArr X 9 n _) (fun z => by cases z) (by rw [arrV_size]; exact e1) ?_ rfl rfl hd (kk a b H locs ls h1 h2 h3)
  rw [e2, arrV_read _ _ hj, hv_int (by rw [hk]; rfl)]
theorem V_aald {q n x : Nat} {i : Int32} (j : Nat) (hk : sg.2.2.1 q = (10, n)) (hi : i = nI j) (hj : j < n) (hn : n < 2 ^ 31) (hx : sg.2.2.2 q j = some x) (hd : decode mi.2.1 pc = .ok (.aaload, 1)) (kk : V X Z sg I (pc + 1) L (rf g x :: st)) : V X Z sg I pc L (.int i :: rf g q :: st) := by
  intro a b H locs ls h1 h2 h3
  obtain ⟨e1, e2⟩ := arr_in hi hj hn
  refine W.aald (v := rf g x) (ty := .object RX4) (cx_exec X) (cx_bytes X) (har h1 hk (by decide) (by decide)) (hArr X 10 n _) rfl (fun z => by cases z) (by rw [arrV_size]; exact e1) ?_ rfl rfl hd (kk a b H locs ls h1 h2 h3)
  rw [e2, arrV_read _ _ hj, hv_ref (by rw [hk]; rfl), rv_some hx]
theorem V_alen {q c n : Nat} (v : Int32) (hk : sg.2.2.1 q = (c, n)) (hc : ¬ c < 7) (h9 : c ≠ 99) (hv' : nI n = v) (hd : decode mi.2.1 pc = .ok (.arraylength, 1)) (kk : V X Z sg I (pc + 1) L (.int v :: st)) : V X Z sg I pc L (rf g q :: st) := by
  intro a b H locs ls h1 h2 h3
  exact W.alen (n := v) (cx_exec X) (cx_bytes X) (har h1 hk hc h9) (hArr X c n _) (by rw [arrV_size, ← hv'] <;> rfl) rfl rfl hd (kk a b H locs ls h1 h2 h3)
/-- the heap behind a store into an array -/
theorem Hp_arr {sg' : SG} {I' : IM} {H H' : Heap} {q c n j : Nat} {v : Value} (h1 : Hp g sg I H) (hk : sg.2.2.1 q = (c, n)) (hc : ¬ c < 7) (hn : sg'.1 = sg.1) (hk' : sg'.2.2.1 = sg.2.2.1) (hself : hv g sg' I' q j = v) (hoth : ∀ a k, a ≠ q ∨ k ≠ j → hv g sg' I' a k = hv g sg I a k)
    (e1 : H'[g.2.2.2 + q]? = some ((arrV (kA g c) n (hv g sg I q)).setSlot j v)) (e2 : H'.size = H.size) (e3 : ∀ a, a ≠ g.2.2.2 + q → H'[a]? = H[a]?) : Hp g sg' I' H' := by
  refine Hp_put (q := q) h1 hn hk' e2 e3 (fun a k h => hoth a k (Or.inl h)) (fun h9 => ?_)
  unfold hat
  rw [hk', hk, if_neg hc, e1, arrV_store]
  congr 2
  funext k
  unfold updV
  by_cases hkj : k = j
  · subst hkj; rw [if_pos rfl, hself]
  · rw [if_neg hkj, hoth q k (Or.inr hkj)]
theorem V_iast {q n : Nat} {i x : Int32} (j : Nat) (hk : sg.2.2.1 q = (7, n)) (hi : i = nI j) (hj : j < n) (hn : n < 2 ^ 31) (hd : decode mi.2.1 pc = .ok (.iastore, 1)) (kk : V X Z sg (upI I q j x) (pc + 1) L st) : V X Z sg I pc L (.int x :: .int i :: rf g q :: st) := by
  intro a b H locs ls h1 h2 h3
  obtain ⟨e1, e2⟩ := arr_in hi hj hn
  refine W.iast (cx_exec X) (cx_bytes X) (har h1 hk (by decide) (by decide)) (hArr X 7 n _) (fun z => by cases z) (by rw [arrV_size]; exact e1) rfl rfl hd fun H' f1 f2 f3 => ?_
  rw [e2] at f1
  exact kk a b H' _ ls (Hp_arr h1 hk (by decide) rfl rfl (hv_upI_self (by rw [hk]; rfl)) (fun a k h => hv_upI a k h) f1 f2 f3) (h2.put f2 f3 (Nat.le_add_right _ _)) h3
theorem V_bast {q n : Nat} {i x : Int32} (j : Nat) (hk : sg.2.2.1 q = (8, n)) (hi : i = nI j) (hj : j < n) (hn : n < 2 ^ 31) (hx : narrow .byte (.int x) = .int x) (hd : decode mi.2.1 pc = .ok (.bastore, 1)) (kk : V X Z sg (upI I q j x) (pc + 1) L st) : V X Z sg I pc L (.int x :: .int i :: rf g q :: st) := by
  intro a b H locs ls h1 h2 h3
  obtain ⟨e1, e2⟩ := arr_in hi hj hn
  refine W.bast (cx_exec X) (cx_bytes X) (har h1 hk (by decide) (by decide)) (hArr X 8 n _) (fun z => by cases z) (by rw [arrV_size]; exact e1) rfl rfl hd fun H' f1 f2 f3 => ?_
  rw [e2, hx] at f1
  exact kk a b H' _ ls (Hp_arr h1 hk (by decide) rfl rfl (hv_upI_self (by rw [hk]; rfl)) (fun a k h => hv_upI a k h) f1 f2 f3) (h2.put f2 f3 (Nat.le_add_right _ _)) h3
theorem V_zast {q n : Nat} {i x : Int32} (j : Nat) (hk : sg.2.2.1 q = (9, n)) (hi : i = nI j) (hj : j < n) (hn : n < 2 ^ 31) (hx : narrow .boolean (.int x) = .int x) (hd : decode mi.2.1 pc = .ok (.bastore, 1)) (kk : V X Z sg (upI I q j x) (pc + 1) L st) : V X Z sg I pc L (.int x :: .int i :: rf g q :: st) := by
  intro a b H locs ls h1 h2 h3
  obtain ⟨e1, e2⟩ := arr_in hi hj hn
  refine W.zast (cx_exec X) (cx_bytes X) (har h1 hk (by decide) (by decide)) (hArr X 9 n _) (fun z => by cases z) (by rw [arrV_size]; exact e1) rfl rfl hd fun H' f1 f2 f3 => ?_
  rw [e2, hx] at f1
  exact kk a b H' _ ls (Hp_arr h1 hk (by decide) rfl rfl (hv_upI_self (by rw [hk]; rfl)) (fun a k h => hv_upI a k h) f1 f2 f3) (h2.put f2 f3 (Nat.le_add_right _ _)) h3
theorem V_aast {q n x : Nat} {i : Int32} (j : Nat) (hk : sg.2.2.1 q = (10, n)) (hi : i = nI j) (hj : j < n) (hn : n < 2 ^ 31) (hx : (sg.2.2.1 x).1 = 4) (hd : decode mi.2.1 pc = .ok (.aastore, 1)) (kk : V X Z (sgR sg (upR sg.2.2.2 q j (some x))) I (pc + 1) L st) : V X Z sg I pc L (rf g x :: .int i :: rf g q :: st) := by
  intro a b H locs ls h1 h2 h3
  obtain ⟨e1, e2⟩ := arr_in hi hj hn
  obtain ⟨cellV, g1, g2, g3, -⟩ := hob h1 hx (by decide)
  have hcls := ((cx_K X).1 4 _ (kcl_at 4 (by decide))).2
  obtain ⟨kA0, comp, k1, k2, k3, -⟩ := ((cx_K X).2 3 _ rfl).2
  have hcomp : comp = g.2.1.1 4 := Option.some.inj (k3.symm.trans hcls.1)
  subst hcomp
  obtain ⟨kC0, hkC, -⟩ := hcls.2
  refine W.aast (cx_exec X) (cx_bytes X) (har h1 hk (by decide) (by decide)) (fun q h => by cases h) (fun h => by cases h) k1 k2 rfl hkC ⟨fun z => e1 (Or.inl z), by show _ < (arrV _ _ _).slots.size; rw [arrV_size, e2]; exact hj⟩ g1 (fun q h => by rw [g3] at h; cases h) (by rw [g2]; exact hkC) (by rw [g2]; exact va_assign hcls) rfl rfl hd fun H' f1 f2 f3 => ?_
  rw [e2] at f1
  exact kk a b H' _ ls (Hp_arr (sg' := sgR sg (upR sg.2.2.2 q j (some x))) h1 hk (by decide) rfl rfl (by rw [hv_upR_self (by rw [hk]; rfl)]; rfl) (fun a k h => hv_upR a k h) f1 f2 f3) (h2.put f2 f3 (Nat.le_add_right _ _)) h3
end HROWS
