/-! the start -/
section STKP
variable {S S2 : SG} {J J2 : IM} {lo hi : Nat}
theorem CWeek.kp {w np : Nat} {W : WV} (h : CWeek S J w W np) (k : Keep S S2 J J2 lo hi) (h1 : lo ≤ w) (h2 : w + 5 ≤ hi) : CWeek S2 J2 w W np := by
  obtain ⟨a, b, c, ⟨d1, d2⟩, e1, e2⟩ := h
  have k0 := (k w h1 (by omega)).2.2
  have k2 := (k (w + 2) (by omega) (by omega)).2.2
  have k4 := (k (w + 4) (by omega) (by omega)).2.2
  refine ⟨a.kp k h1 (by omega), by rw [k0]; exact b, by rw [k0]; exact c, ⟨d1.kp k (by omega) (by omega) (by omega) (by omega), ?_⟩, e1.kp k (by omega) (by omega) (by omega) (by omega), fun i hi => by rw [k4]; exact e2 i hi⟩
  unfold Cel; rw [k2]; exact d2
theorem CTown.kp {T : Nat} {tv : TV} (h : CTown S J T tv) (k : Keep S S2 J J2 lo hi) (h1 : lo ≤ T) (h2 : T + 11 ≤ hi) : CTown S2 J2 T tv := by
  obtain ⟨a, b, c, ⟨d1, d2⟩, ⟨e1, e2⟩, ⟨f1, f2⟩, g1, g2⟩ := h
  have k0 := (k T h1 (by omega)).2.2
  have k2 := (k (T + 2) (by omega) (by omega)).2.2
  have k4 := (k (T + 4) (by omega) (by omega)).2.2
  have k6 := (k (T + 6) (by omega) (by omega)).2.2
  have k8 := (k (T + 8) (by omega) (by omega)).2.2
  refine ⟨a.kp k h1 (by omega), by rw [k0]; exact b, by rw [k0]; exact c, ⟨d1.kp k (by omega) (by omega) (by omega) (by omega), ?_⟩, ⟨e1.kp k (by omega) (by omega) (by omega) (by omega), ?_⟩, ⟨f1.kp k (by omega) (by omega) (by omega) (by omega), ?_⟩, g1.kp k (by omega) (by omega) (by omega) (by omega), ?_⟩
  · unfold Cel; rw [k2]; exact d2
  · unfold Cel; rw [k4]; exact e2
  · unfold Cel; rw [k6]; exact f2
  · unfold Cel; rw [k8]; exact g2
theorem CWlds.kp {T : Nat} {tv : TV} (h : CWlds S J T tv) (k : Keep S S2 J J2 lo hi) (h1 : lo ≤ T) (h2 : T + 11 ≤ hi) : CWlds S2 J2 T tv :=
  ⟨h.1.kp k (by omega) (by omega) (by omega) (by omega), by rw [(k (T + 10) (by omega) (by omega)).2.2]; exact h.2⟩
theorem CShelf.kp {s M np : Nat} {v : SV} (h : CShelf S J s M np v) (k : Keep S S2 J J2 lo hi) (h1 : lo ≤ s) (h2 : s + 2 + 5 * M ≤ hi) : CShelf S2 J2 s M np v := by
  obtain ⟨a, b, c, d, bb, e1, e2, e3⟩ := h
  have hM := a.2.2.2.2.1
  have k0 := (k s h1 (by omega)).2.2
  refine ⟨a.kp k h1 (by omega), fun i hi => (b i hi).kp k (by omega) (by omega), c, by rw [k0]; exact d, bb, e1, by rw [k0]; exact e2, fun i hi => ?_⟩
  have hs : sx M bb i < M := by unfold sx; split <;> omega
  exact (e3 i hi).kp k (by omega) (by omega)
theorem CSt.kp {A B : Nat} {x : XV} {tv : TV} {W : WV} {P K : SV} (h : CSt S J A B x tv W P K) (k : Keep S S2 J J2 0 92) : CSt S2 J2 A B x tv W P K := by
  obtain ⟨a, ⟨b1, b2⟩, ⟨m, c⟩, d, f, w, l, ⟨n1, n2⟩, p⟩ := h
  have hAB := a.2.2.2.2.2.2.2.2.1
  have k0 := k 0 (by omega) (by omega)
  have k1 := k 1 (by omega) (by omega)
  have k3 := (k 3 (by omega) (by omega)).2.2
  refine ⟨?_, ⟨b1.kp k (by omega) (by omega) (by omega) (by omega), by rw [k3]; exact b2⟩, ⟨m, c.kp k (by omega) (by omega) (by omega) (by omega)⟩, d.kp k (by omega) (by omega), f.kp k (by omega) (by omega), w.kp k (by omega) (by omega), l.kp k (by omega) (by omega), ⟨n1.kp k (by omega) (by omega), n2.kp k (by omega) (by omega)⟩, p.kp k (by omega) (by omega)⟩
  unfold ClsK at a ⊢
  rw [k0.1, k0.2.1, k1.1, k1.2.1]; exact a
end STKP
theorem wk_i_all : ∀ c, c < 7 → Cond.instantiable (kC c) (kN c) ∈ gw := by
  intro c hc
  rcases (show c = 0 ∨ c = 1 ∨ c = 2 ∨ c = 3 ∨ c = 4 ∨ c = 5 ∨ c = 6 by omega) with rfl | rfl | rfl | rfl | rfl | rfl | rfl
  · exact wk_i_X0
  · exact wk_i_X1
  · exact wk_i_X2
  · exact wk_i_X3
  · exact wk_i_X4
  · exact wk_i_X5
  · exact wk_i_X6
def byT : List Int32 := fsT.map nI
theorem byT_at (j : Nat) : byT.getD j 0 = nI (fsT.getD j 0) := by
  unfold byT
  rw [List.getD_eq_getElem?_getD, List.getD_eq_getElem?_getD, List.getElem?_map]
  cases fsT[j]? <;> rfl
def tmF : Term := Term.string RX5 48
theorem st_words : (Cond.exactly tmF RJ0 ∈ flatC (Jvm.Cond.and given_1 narrow_1) ∧ Cond.eq (.field tmF RJ0 "coder" "B") (.int 0) ∈ flatC (Jvm.Cond.and given_1 narrow_1)) ∧ (Cond.arrayOf (.field tmF RJ0 "value" "[B") .byte ∈ flatC (Jvm.Cond.and given_1 narrow_1) ∧ Cond.eq (.length (.field tmF RJ0 "value" "[B")) (.int (Int32.ofNat 44)) ∈ flatC (Jvm.Cond.and given_1 narrow_1)) := by decide +kernel
theorem st_words2 : Cond.eq (.static RJ0 "COMPACT_STRINGS" "Z") (.int 1) ∈ flatC (Jvm.Cond.and given_1 narrow_1) ∧ Cond.isRef (.static "jdk/internal/util/Preconditions" "SIOOBE_FORMATTER" "Ljava/util/function/BiFunction;") ∈ flatC (Jvm.Cond.and given_1 narrow_1) := by decide +kernel
theorem st_cells : ∀ j, j < 44 → Cond.eq (.elem (.field tmF RJ0 "value" "[B") (.int (Int32.ofNat j))) (.int (byT.getD j 0)) ∈ flatC (Jvm.Cond.and given_1 narrow_1) := by decide +kernel
/-- what the law finds at its entry -/
theorem law_ctx {p : Program} {e : Env} {s : State} {m : MethodId} {below : List Frame} {meth : Method} {c : Code} (l : Launch) {b L : Nat} {xs : Nat → Int32} (hL : L ≤ 320) (C0 : lw_At p s m meth c b L xs) : ∃ (g : GC) (ak av : Nat), g.1 = l ∧ LOK g L xs ak av (p, e, s, m, below, meth, c, b) := by
  obtain ⟨hx, hb, hr, hml, hown, hts, hX, hbl, hlocks, hgv⟩ := id C0
  have hs := flat_of_before _ hgv
  have hgw : ∀ w ∈ gw, w.before #[Value.ref b] s = true := fun w hw => hts w (List.mem_filter.mp hw).1
  have hcls : ∀ c, ∃ D : ClassId × (Nat → Nat), c < 7 → u_Kn s (kC c) (kT c) (kN c) D.1 D.2 := by
    intro c
    by_cases hc : c < 7
    · obtain ⟨cC, iS, h⟩ := u_known (C := kC c) (T := kT c) (N := kN c) (n := kN c) hgw (u_gw c hc) (hgw _ (wk_i_all c hc))
      exact ⟨(cC, iS), fun _ => h⟩
    · exact ⟨(0, fun _ => 0), fun h => absurd h hc⟩
  obtain ⟨D, hD⟩ := Classical.axiomOfChoice hcls
  obtain ⟨a1, k1, p1, i1, i2, i3⟩ := Cond.arrayClass_spec (hgw _ wk_a_int)
  obtain ⟨a2, k2, p2, y1, y2, y3⟩ := Cond.arrayClass_spec (hgw _ wk_a_byte)
  obtain ⟨a3, k3, p3, z1, z2, z3⟩ := Cond.arrayClass_spec (hgw _ wk_a_boolean)
  have hAO : va_AO RX4 s := va_AO.of (hts (.arrayOver (.object RX4)) (List.mem_of_getElem? (i := 114) (by decide +kernel)))
  obtain ⟨p4, a4, k4, w1, w2, w3, w4, w5⟩ := Cond.arrayOver_spec hAO
  obtain ⟨g, hg⟩ : ∃ g : GC, g = (l, (fun c => (D c).1, fun c => (D c).2), (a1, a2, a3, a4), s.heap.size) := ⟨_, rfl⟩
  have hbase : g.2.2.2 = s.heap.size := by rw [hg]
  have hA : ∀ a : Nat, a < s.heap.size → ¬ frA g a := fun a ha h => by
    have h2 : g.2.2.2 ≤ a := h
    omega
  obtain ⟨adK, adV, ⟨hvS, -⟩, hev⟩ := vk_Sof (args := #[Value.ref b]) (s := s) (N := 1) (tm := fun _ => tmF) (len := [44]) (byt := [byT]) (A := frA g)
    (fun i hi => by have : i = 0 := by omega
                    subst this; decide)
    (fun i hi => hs _ st_words.1.1) (fun i hi => hs _ st_words.1.2) (fun i hi => hs _ st_words.2.1)
    (fun i hi => by have : i = 0 := by omega
                    subst this; exact hs _ st_words.2.2)
    (fun i hi j hj => by have : i = 0 := by omega
                         subst this; exact hs _ (st_cells j hj))
    (fun i j hi hj hne => by omega) hA
  obtain ⟨v1, v2, v3, v4⟩ := hvS 0 (by decide)
  refine ⟨g, adK 0, adV 0, by rw [hg], C0, hbase.symm, ⟨fun c q hq => ?_, fun k q hq => ?_⟩, ⟨fun w hw => ?_, hAO⟩, ?_, hL⟩
  · have hc : c < 7 := by
      rcases Nat.lt_or_ge c 7 with h | h
      · exact h
      · rw [List.getElem?_eq_none (show kcl.length ≤ c from h)] at hq; cases hq
    rw [kcl_at c hc] at hq
    cases hq
    rw [hg]; exact hD c hc
  · rw [hg] at hq
    match k, hq with
    | 0, hq => cases hq; exact ⟨fun n z => ⟨fun k h => (by cases h), k1, i2, p1, i3⟩, i1⟩
    | 1, hq => cases hq; exact ⟨fun n z => ⟨fun k h => (by cases h), k2, y2, p2, y3⟩, y1⟩
    | 2, hq => cases hq; exact ⟨fun n z => ⟨fun k h => (by cases h), k3, z2, p3, z3⟩, z1⟩
    | 3, hq => cases hq; exact ⟨fun n z => ⟨fun k h => (by cases h), k4, w3, p4, w4⟩, k4, p4, w3, w4, w1, w5⟩
    | k + 4, hq => cases hq
  · have h2 := List.mem_filter.mp hw
    exact va_Nw.of (isNest_tab h2.2) (hts w h2.1)
  · refine ⟨vk_R.of (hts _ (List.mem_of_getElem? (i := 203) (by decide +kernel))) (hev 0 (by decide)), v1, v2, v3, ?_, va_Zof (hts (.laysStatic RJ0 "COMPACT_STRINGS" "Z") (List.mem_of_getElem? (i := 213) (by decide +kernel))) (hgw _ wi_J0) (va_eqt (hs _ st_words2.1)) hA, va_Zqof (hts (.laysStatic "jdk/internal/util/Preconditions" "SIOOBE_FORMATTER" "Ljava/util/function/BiFunction;") (List.mem_of_getElem? (i := 229) (by decide +kernel))) (hgw _ wi_J3) (hs _ st_words2.2) hA⟩
    have e : (fun j => Value.int (([byT].getD 0 []).getD j 0)) = fun j => Value.int (nI (fsT.getD j 0)) := funext fun j => congrArg Value.int (byT_at j)
    rw [← e]; exact v4
theorem law_walk0 {g : GC} {Ln : Nat} {xs : Nat → Int32} {ak av : Nat} (X : LCx g Ln xs ak av) : U X (0, 0, fun _ => (99, 0), fun _ _ => none) (fun _ _ => 0) 0 [some (.ref (lxb X)), none, none, none] [] := by
  have h320 := lx_320 X
  refine U_new 5 (by decide) wk_c_L_7 wk_i_X5 wi_X5 hdf5 ⟨by decide, by decide⟩ dL_law_0 ?_
  refine U_dup rfl dL_law_3 ?_
  refine U_callIs (mi' := m_X5i 7 91 2216) (As := []) (q := 0) (N_weeks freshk rfl) rfl rfl wl_L_9 ws_X5_init wi_X5 wc_X5_init wn_X5_init rfl ⟨by decide, by decide⟩ (Nat.le_of_ble_eq_true rfl) dL_law_4 rfl (fun r S J hq => ?_)
  obtain ⟨rfl, n1, n2, hC⟩ := hq
  have n2 : S.2.1 = 7 + 2216 := n2
  show U X S J 7 [some (.ref (lxb X)), none, none, none] [rf g 0]
  refine U_ast (k := 1) (by decide) (fun w h0 h => by cases h; rfl) dL_law_7 ?_
  show U X S J 8 [some (.ref (lxb X)), some (rf g 0), none, none] []
  refine U_new 6 (by decide) wk_c_L_10 wk_i_X6 wi_X6 hdf6 ⟨by omega, by show S.2.1 + 19 ≤ _; omega⟩ dL_law_8 ?_
  obtain ⟨S1, hS1⟩ : ∃ S1, S1 = sgN S (kN 6) (6, 0) := ⟨_, rfl⟩
  obtain ⟨J1, hJ1⟩ : ∃ J1, J1 = imN S J := ⟨_, rfl⟩
  have m1 : S1.1 = 93 := by rw [hS1]; show S.1 + 1 = _; omega
  have m2 : S1.2.1 = 7 + 2216 + 19 := by rw [hS1]; show S.2.1 + 19 = _; omega
  have k92 : (S1.2.2.1 92).1 = 6 := by rw [hS1, ← n1]; exact freshk
  have j92 : J1 92 0 = 0 := by rw [hJ1, ← n1]; exact if_pos rfl
  have hK1 : Keep S S1 J J1 0 92 := by rw [hS1, hJ1, ← n1]; exact keepN
  rw [← hS1, ← hJ1, n1]
  refine U_dup rfl dL_law_11 ?_
  refine U_callI (mi' := m_X6i 4 10 1277) (As := []) (q := 92) (N_model k92 m1 j92) rfl rfl wl_L_12 ws_X6_init wi_X6 wc_X6_init wn_X6_init rfl ⟨by show S1.1 + 10 ≤ _; omega, by show S1.2.1 + 1277 ≤ _; omega⟩ (Nat.le_of_ble_eq_true rfl) dL_law_12 rfl (fun r S2 J2 hq => ?_)
  obtain ⟨rfl, r1, r2, hM, hK2⟩ := hq
  show U X S2 J2 15 [some (.ref (lxb X)), some (rf g 0), none, none] [rf g 92]
  refine U_ast (k := 2) (by decide) (fun w h0 h => by cases h; rfl) dL_law_15 ?_
  refine U_iconst (nI 0) (by decide) dL_law_16 ?_
  refine U_ist (k := 3) (by decide) (fun w h0 h => by cases h; rfl) dL_law_17 ?_
  exact law_loop X 66 0 S2 J2 70 81 xs0 tv0 w0V st0S st0S (by omega) (by decide) (hC.kp (hK1.trans hK2)) hM ok0 r1 (by omega)
/-- YOUR PART: from the entry, for every script of at most 320 ints, the law comes to its end with true ('hflags': the launch's flags, for a law that throws: no stack traces) -/
theorem whole_start {p : Program} {e : Env} {s : State} {m : MethodId} {below : List Frame} {meth : Method} {c : Code} (l : Launch) (hflags : l.flags = flags0) {b L : Nat} {xs : Nat → Int32} (hL : L ≤ 320) (C0 : lw_At p s m meth c b L xs) : W p l e room_1 s m #[Value.ref b] below meth c s.heap [] 0 0 (lw_Z below #[Value.ref b] s) (entryFrame m ([Value.ref b] : List Value).toArray 4) := by
  obtain ⟨g, ak, av, rfl, hok⟩ := law_ctx (e := e) (below := below) l hL C0
  have hl := lv_entry ([.ref b]) (n := 4) (Nat.le_of_ble_eq_true rfl)
  rw [lg_entry_eq]
  refine law_walk0 (⟨(p, e, s, m, below, meth, c, b), hok⟩ : LCx g L xs ak av) s.heap [] _ ⟨hok.2.1, fun q hq => absurd rfl hq⟩ va_S.rf (LH_of (L := [some (.ref b), none, none, none]) hl fun i v hi => ?_)
  match i, hi with
  | 0, hi => cases hi; exact List.mem_cons_self
  | 1, hi => cases hi
  | 2, hi => cases hi
  | 3, hi => cases hi
  | i + 4, hi => cases hi
