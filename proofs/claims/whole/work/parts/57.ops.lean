/-! each call, on both sides: one answer, one picture behind it -/
theorem Ct.imp {mi : MI} {g : GC} {av : List Value} {sg : SG} {I : IM} {Q Q' : Option Value → SG → IM → Prop} (h : Ct mi g av sg I Q) (hQ : ∀ r s J, Q r s J → Q' r s J) : Ct mi g av sg I Q' :=
  by
  unfold Ct Met at h ⊢
  refine MetFree.mono h (fun _ _ h => h) (fun _ _ _ _ _ h => h) (fun a s o s' _ h => ?_)
  obtain ⟨⟨⟨r, sg', I', e1, ⟨e2, e3⟩, e4⟩, e5⟩, e6⟩ := h
  exact ⟨⟨⟨r, sg', I', e1, ⟨hQ _ _ _ e2, e3⟩, e4⟩, e5⟩, e6⟩
def cQ (sg : SG) (I : IM) (v : Value) (tv : TV) (r : RS) : Option Value → SG → IM → Prop := fun r0 s0 J => r0 = some v ∧ SGe sg s0 ∧ s0.1 = sg.1 ∧ s0.2.1 = sg.2.1 ∧ (∀ q, 92 ≤ q → J q = I q) ∧ ∃ A B, CSt s0 J A B r.1 tv r.2.1 r.2.2.1 r.2.2.2.1
def mQ (sg : SG) (I : IM) (v : Value) (tv : TV) (r : RS) : Option Value → SG → IM → Prop := fun r0 s0 J => r0 = some v ∧ s0 = sg ∧ MSt sg J r.1 tv r.2.1 r.2.2.1 r.2.2.2.1 ∧ ∀ q, q < 92 → J q = I q
theorem MK.sge {sg s0 : SG} (h : MK sg) (e : SGe sg s0) : MK s0 := by
  unfold MK at h ⊢
  rw [e.1, e.2 92 (by decide)]; exact h
theorem MSt.hi {sg s0 : SG} {I J : IM} {x : XV} {tv : TV} {W : WV} {P K : SV} (h : MSt sg I x tv W P K) (e : SGe sg s0) (e2 : ∀ q, 92 ≤ q → J q = I q) : MSt s0 J x tv W P K := by
  obtain ⟨a, b, c, d, f, k, l, m⟩ := h
  refine ⟨a.sge e, ?_⟩
  unfold MTn SlW at *
  rw [e2 92 (by decide), e2 93 (by decide), e2 94 (by decide), e2 95 (by decide), e2 96 (by decide), e2 97 (by decide), e2 98 (by decide), e2 99 (by decide), e2 100 (by decide)]
  exact ⟨b, c, d, f, k, l, m⟩
theorem CSt.lo {sg : SG} {I J : IM} {A B : Nat} {x : XV} {tv : TV} {W : WV} {P K : SV} (h : CSt sg I A B x tv W P K) (e : ∀ q, q < 92 → J q = I q) : CSt sg J A B x tv W P K := by
  obtain ⟨a, b, ⟨m, c⟩, d, f, k, l, ⟨n1, n2⟩, p⟩ := h
  have hAB := a.2.2.2.2.2.2.2.2.1
  exact ⟨a, b.other (e _ (by omega)) (e _ (by omega)), ⟨m, c.other (e _ (by omega))⟩, d.other (fun q _ _ => e q (by omega)), f.other (fun q _ _ => e q (by omega)), k.other (fun q _ _ => e q (by omega)), l.other (fun q _ _ => e q (by omega)), ⟨n1.other (fun q _ _ => e q (by omega)), n2.other (fun q _ _ => e q (by omega))⟩, p.other (fun q _ _ => e q (by omega))⟩
section OPS
variable {g : GC} {sg s0 : SG} {I J : IM} {A B : Nat} {x : XV} {tv : TV} {W : WV} {P K : SV} {r0 : Option Value}
theorem c_read {v : Value} (hC : CSt sg I A B x tv W P K) (h : r0 = some v ∧ s0 = sg ∧ J = I) : cQ sg I v tv (x, W, P, K, 0) r0 s0 J := by
  obtain ⟨rfl, rfl, rfl⟩ := h
  exact ⟨rfl, SGe.refl, rfl, rfl, fun _ _ => rfl, A, B, hC⟩
theorem c_st {r : RS} (h : stQ sg I A B tv r r0 s0 J) : cQ sg I (.int r.2.2.2.2) tv r r0 s0 J := by
  obtain ⟨rfl, rfl, h1, h2⟩ := h
  exact ⟨rfl, SGe.refl, rfl, rfl, h2, A, B, h1⟩
theorem c_ly {r : RS} (h : lyQ sg I tv r r0 s0 J) : cQ sg I (.int r.2.2.2.2) tv r r0 s0 J := by
  obtain ⟨rfl, h1, h2, h3, h4, h5⟩ := h
  exact ⟨rfl, h1, h2, h3, h4, h5⟩
theorem c_year {a : Int32} (h : r0 = some (.int a) ∧ s0 = sg ∧ CSt sg J A B x tv W P K ∧ outW 65 I J) : cQ sg I (.int a) tv (x, W, P, K, 0) r0 s0 J := by
  obtain ⟨rfl, rfl, h1, h2⟩ := h
  exact ⟨rfl, SGe.refl, rfl, rfl, fun q hq => h2 q (by omega), A, B, h1⟩
theorem m_read {v : Value} (hM : MSt sg I x tv W P K) (h : r0 = some v ∧ s0 = sg ∧ J = I) : mQ sg I v tv (x, W, P, K, 0) r0 s0 J := by
  obtain ⟨rfl, rfl, rfl⟩ := h
  exact ⟨rfl, rfl, hM, fun _ _ => rfl⟩
theorem m_kn {a : Int32} (hM : MSt sg I x tv W P K) (h : knQ sg I a r0 s0 J) : mQ sg I (.int a) tv (x, W, P, K, 0) r0 s0 J := by
  obtain ⟨rfl, rfl, h1⟩ := h
  exact ⟨rfl, rfl, hM.kn h1, fun q hq => h1.1 q (by omega)⟩
theorem m_st {r : RS} (h : mstQ sg I tv r r0 s0 J) : mQ sg I (.int r.2.2.2.2) tv r r0 s0 J := by
  obtain ⟨rfl, rfl, h1, h2⟩ := h
  exact ⟨rfl, rfl, h1, h2⟩
theorem m_sale {a : Int32} (hM : MSt sg I x tv W P K) (h : r0 = some (.int a) ∧ s0 = sg ∧ ∀ q, q ≠ 102 → J q = I q) : mQ sg I (.int a) tv (x, W, P, K, 0) r0 s0 J := by
  obtain ⟨rfl, rfl, h1⟩ := h
  refine ⟨rfl, rfl, ?_, fun q hq => h1 q (by omega)⟩
  obtain ⟨a, b, c, d, f, k, l, m⟩ := hM
  refine ⟨a, ?_⟩
  unfold MTn SlW at *
  rw [h1 92 (by decide), h1 93 (by decide), h1 94 (by decide), h1 95 (by decide), h1 96 (by decide), h1 97 (by decide), h1 98 (by decide), h1 99 (by decide), h1 100 (by decide)]
  exact ⟨b, c, d, f, k, l, m⟩
theorem m_year {a : Int32} (hM : MSt sg I x tv W P K) (hS : STok x tv W P K) (h : r0 = some (.int a) ∧ s0 = sg ∧ yF I J) : mQ sg I (.int a) tv (x, W, P, K, 0) r0 s0 J := by
  obtain ⟨rfl, rfl, h1⟩ := h
  exact ⟨rfl, rfl, hM.y hS h1, fun q hq => h1.2.1 q (by omega) (by omega)⟩
theorem m_fault (hM : MSt sg I x tv W P K) (hok : TVok tv) (h : ftQ sg I x r0 s0 J) : mQ sg I (.int (fFault x)) tv (x, W, P, K, fFault x) r0 s0 J := by
  obtain ⟨rfl, rfl, h1, -⟩ := h
  exact ⟨rfl, rfl, hM.ff hok h1, fun q hq => h1.1 q (Or.inl hq)⟩
def OPok (g : GC) (mx md : MI) (as : List Value) (v : Value) (tv' : TV) (r : RS) (x : XV) (tv : TV) (W : WV) (P K : SV) : Prop := (∀ sg I A B, CSt sg I A B x tv W P K → Ct mx g (rf g 0 :: as) sg I (cQ sg I v tv' r)) ∧ (∀ sg I, MSt sg I x tv W P K → Ct md g (rf g 92 :: as) sg I (mQ sg I v tv' r)) ∧ RSok tv' r
theorem op_write {l : Int32} (hS : STok x tv W P K) : OPok g m_X5_write m_X6_write [.int l] (.int (gWrite x W P K l).2.2.2.2) tv (gWrite x W P K l) x tv W P K := ⟨fun sg I A B hC => (X_write hC hS).imp (fun r s J h => c_st h), fun sg I hM => (D_write hM hS).imp (fun r s J h => m_st h), ok_write hS⟩
theorem op_wipe (hS : STok x tv W P K) : OPok g m_X5_wipe m_X6_wipe [] (.int (gWipe x W P K).2.2.2.2) tv (gWipe x W P K) x tv W P K := ⟨fun sg I A B hC => (X_wipe hC hS).imp (fun r s J h => c_st h), fun sg I hM => (D_wipe hM hS).imp (fun r s J h => m_st h), ok_wipe hS⟩
theorem op_fault (hS : STok x tv W P K) : OPok g m_X5_fault m_X6_fault [] (.int (fFault x)) tv (x, W, P, K, fFault x) x tv W P K := ⟨fun sg I A B hC => (X_fault hC hS).imp (fun r s J h => c_st h), fun sg I hM => (D_fault0 hM.1 hM.2.1.1 hM.2.1.2 hS.1).imp (fun r s J h => m_fault hM hS.2.1 h), hS⟩
theorem op_lay (hS : STok x tv W P K) : OPok g m_X5_lay m_X6_lay [] (.int (gLay x W P K).2.2.2.2) (lTv x tv) (gLay x W P K) x tv W P K := ⟨fun sg I A B hC => (X_lay hC hS).imp (fun r s J h => c_ly h), fun sg I hM => (D_lay hM hS).imp (fun r s J h => m_st h), ok_lay hS⟩
theorem op_law {k w : Int32} (hS : STok x tv W P K) : OPok g m_X5_law m_X6_law [.int k, .int w] (.int (fLaw tv k w)) tv (x, W, P, K, 0) x tv W P K := ⟨fun sg I A B hC => (X_law hC hS).imp (fun r s J h => c_read hC h), fun sg I hM => (D_law hM hS).imp (fun r s J h => m_read hM h), hS⟩
theorem op_person {k w : Int32} (hS : STok x tv W P K) : OPok g m_X5_person m_X6_person [.int k, .int w] (.int (fPerson tv W k w)) tv (x, W, P, K, 0) x tv W P K := ⟨fun sg I A B hC => (X_person hC hS).imp (fun r s J h => c_read hC h), fun sg I hM => (D_person hM hS).imp (fun r s J h => m_read hM h), hS⟩
theorem op_stone {k w : Int32} (hS : STok x tv W P K) : OPok g m_X5_stone m_X6_stone [.int k, .int w] (.int (fStone tv W k w)) tv (x, W, P, K, 0) x tv W P K := ⟨fun sg I A B hC => (X_stone hC hS).imp (fun r s J h => c_read hC h), fun sg I hM => (D_stone hM hS).imp (fun r s J h => m_read hM h), hS⟩
theorem op_mark {k w : Int32} (hS : STok x tv W P K) : OPok g m_X5_mark m_X6_mark [.int k, .int w] (.int (fMark W k w)) tv (x, W, P, K, 0) x tv W P K := ⟨fun sg I A B hC => (X_mark hC hS).imp (fun r s J h => c_read hC h), fun sg I hM => (D_mark hM hS).imp (fun r s J h => m_read hM h), hS⟩
theorem op_world {k : Int32} (hS : STok x tv W P K) : OPok g m_X5_world m_X6_world [.int k] (.int (fWorld tv k)) tv (x, W, P, K, 0) x tv W P K := ⟨fun sg I A B hC => (X_world hC hS).imp (fun r s J h => c_read hC h), fun sg I hM => (D_world hM hS).imp (fun r s J h => m_read hM h), hS⟩
theorem op_deed {s : Int32} (hS : STok x tv W P K) : OPok g m_X5_deed m_X6_deed [.int s] (.int (gDeed x tv W P K s).2.2.2.2) tv (gDeed x tv W P K s) x tv W P K := ⟨fun sg I A B hC => (X_deed hC hS).imp (fun r s J h => c_st h), fun sg I hM => (D_deed hM hS).imp (fun r s J h => m_st h), ok_deed hS⟩
theorem op_carve {i s f t : Int32} (hS : STok x tv W P K) : OPok g m_X5_carve m_X6_carve [.int i, .int s, .int f, .int t] (.int (gCarve x tv W P K i s f t).2.2.2.2) tv (gCarve x tv W P K i s f t) x tv W P K := ⟨fun sg I A B hC => (X_carve hC hS).imp (fun r s J h => c_st h), fun sg I hM => (D_carve hM hS).imp (fun r s J h => m_st h), ok_carve hS⟩
theorem op_chisel {i m : Int32} (hS : STok x tv W P K) : OPok g m_X5_chisel m_X6_chisel [.int i, .int m] (.int (gChisel x tv W P K i m).2.2.2.2) tv (gChisel x tv W P K i m) x tv W P K := ⟨fun sg I A B hC => (X_chisel hC hS).imp (fun r s J h => c_st h), fun sg I hM => (D_chisel hM hS).imp (fun r s J h => m_st h), ok_chisel hS⟩
theorem op_bell (hS : STok x tv W P K) : OPok g m_X5_bell m_X6_bell [] (.int (gBell x tv W P K).2.2.2.2) tv (gBell x tv W P K) x tv W P K := ⟨fun sg I A B hC => (X_bell hC hS).imp (fun r s J h => c_st h), fun sg I hM => (D_bell hM hS).imp (fun r s J h => m_st h), ok_bell hS⟩
theorem op_undo (hS : STok x tv W P K) : OPok g m_X5_undo m_X6_undo [] (.int (gUndo x W P K).2.2.2.2) tv (gUndo x W P K) x tv W P K := ⟨fun sg I A B hC => (X_undo hC hS).imp (fun r s J h => c_st h), fun sg I hM => (D_undo hM hS).imp (fun r s J h => m_st h), ok_undo hS⟩
theorem op_known {h w : Int32} (hS : STok x tv W P K) : OPok g m_X5_known m_X6_known_ [.int h, .int w] (.int (fKnown tv W h w)) tv (x, W, P, K, 0) x tv W P K := ⟨fun sg I A B hC => (X_known hC hS).imp (fun r s J h => c_read hC h), fun sg I hM => (D_known hM hS).imp (fun r s J h => m_kn hM h), hS⟩
theorem op_hands {k : Int32} (hS : STok x tv W P K) : OPok g m_X5_hands m_X6_hands [.int k] (.int (fHands tv W k)) tv (x, W, P, K, 0) x tv W P K := ⟨fun sg I A B hC => (X_hands hC hS).imp (fun r s J h => c_read hC h), fun sg I hM => (D_hands hM hS).imp (fun r s J h => m_read hM h), hS⟩
theorem op_belief {f p : Int32} (hS : STok x tv W P K) : OPok g m_X5_belief m_X6_belief [.int f, .int p] (.long (fBelief tv W f p)) tv (x, W, P, K, 0) x tv W P K := ⟨fun sg I A B hC => (X_belief hC hS).imp (fun r s J h => c_read hC h), fun sg I hM => (D_belief hM hS).imp (fun r s J h => m_read hM h), hS⟩
theorem op_least {s : Int32} (hS : STok x tv W P K) : OPok g m_X5_least m_X6_least [.int s] (.int (fLeast tv W s)) tv (x, W, P, K, 0) x tv W P K := ⟨fun sg I A B hC => (X_least hC hS).imp (fun r s J h => c_read hC h), fun sg I hM => (D_least hM hS).imp (fun r s J h => m_kn hM h), hS⟩
theorem op_soonest {s : Int32} (hS : STok x tv W P K) : OPok g m_X5_soonest m_X6_soonest [.int s] (.int (fSoonest tv W s)) tv (x, W, P, K, 0) x tv W P K := ⟨fun sg I A B hC => (X_soonest hC hS).imp (fun r s J h => c_read hC h), fun sg I hM => (D_soonest hM hS).imp (fun r s J h => m_kn hM h), hS⟩
theorem op_lie {i h w : Int32} (hS : STok x tv W P K) : OPok g m_X5_lie m_X6_lie [.int i, .int h, .int w] (.int (fLie tv W i h w)) tv (x, W, P, K, 0) x tv W P K := ⟨fun sg I A B hC => (X_lie hC hS).imp (fun r s J h => c_read hC h), fun sg I hM => (D_lie hM hS).imp (fun r s J h => m_kn hM h), hS⟩
theorem op_safe {h : Int32} (hS : STok x tv W P K) : OPok g m_X5_safe m_X6_safe [.int h] (.int (fSafe tv W h)) tv (x, W, P, K, 0) x tv W P K := ⟨fun sg I A B hC => (X_safe hC hS).imp (fun r s J h => c_read hC h), fun sg I hM => (D_safe hM hS).imp (fun r s J h => m_kn hM h), hS⟩
theorem op_clash (hS : STok x tv W P K) : OPok g m_X5_clash m_X6_clash [] (.int (fClash tv W)) tv (x, W, P, K, 0) x tv W P K := ⟨fun sg I A B hC => (X_clash hC hS).imp (fun r s J h => c_read hC h), fun sg I hM => (D_clash hM hS).imp (fun r s J h => m_kn hM h), hS⟩
theorem op_stand {w : Int32} (hS : STok x tv W P K) : OPok g m_X5_stand m_X6_stand [.int w] (.int (fStand tv W w)) tv (x, W, P, K, 0) x tv W P K := ⟨fun sg I A B hC => (X_stand hC hS).imp (fun r s J h => c_read hC h), fun sg I hM => (D_stand hM hS).imp (fun r s J h => m_kn hM h), hS⟩
theorem op_was {v : Int32} (hS : STok x tv W P K) : OPok g m_X5_was m_X6_was [.int v] (.int (fWas tv W v)) tv (x, W, P, K, 0) x tv W P K := ⟨fun sg I A B hC => (X_was hC hS).imp (fun r s J h => c_read hC h), fun sg I hM => (D_was hM hS).imp (fun r s J h => m_kn hM h), hS⟩
theorem op_missed (hS : STok x tv W P K) : OPok g m_X5_missed m_X6_missed [] (.int (fMissed tv W)) tv (x, W, P, K, 0) x tv W P K := ⟨fun sg I A B hC => (X_missed hC hS).imp (fun r s J h => c_read hC h), fun sg I hM => (D_missed hM hS).imp (fun r s J h => m_kn hM h), hS⟩
theorem op_sale {n b : Int32} (hS : STok x tv W P K) : OPok g m_X5_sale m_X6_sale [.int n, .int b] (.int (fSale tv n b)) tv (x, W, P, K, 0) x tv W P K := ⟨fun sg I A B hC => (X_sale hC hS).imp (fun r s J h => c_read hC h), fun sg I hM => (D_sale hM hS).imp (fun r s J h => m_sale hM h), hS⟩
theorem op_worth (hS : STok x tv W P K) : OPok g m_X5_worth m_X6_worth [] (.int (fWorth tv W)) tv (x, W, P, K, 0) x tv W P K := ⟨fun sg I A B hC => (X_worth hC hS).imp (fun r s J h => c_read hC h), fun sg I hM => (D_worth hM hS).imp (fun r s J h => m_kn hM h), hS⟩
theorem op_two {a b : Int32} (hS : STok x tv W P K) : OPok g m_X5_two m_X6_two [.int a, .int b] (.int (fTwo tv W a b)) tv (x, W, P, K, 0) x tv W P K := ⟨fun sg I A B hC => (X_two hC hS).imp (fun r s J h => c_read hC h), fun sg I hM => (D_two hM hS).imp (fun r s J h => m_kn hM h), hS⟩
theorem op_year {z n w : Int32} (hS : STok x tv W P K) : OPok g m_X5_year m_X6_year [.int z, .int n, .int w] (.int (fYear tv W z n w)) tv (x, W, P, K, 0) x tv W P K := ⟨fun sg I A B hC => (X_year0 hC hS).imp (fun r s J h => c_year h), fun sg I hM => (D_year hM hS).imp (fun r s J h => m_year hM hS h), hS⟩
theorem op_keep (hS : STok x tv W P K) : OPok g m_X5_keep m_X6_keep [] (.int (gKeep x W P K).2.2.2.2) tv (gKeep x W P K) x tv W P K := ⟨fun sg I A B hC => (X_keep hC hS).imp (fun r s J h => c_st h), fun sg I hM => (D_keep hM hS).imp (fun r s J h => m_st h), ok_keep hS⟩
theorem op_back (hS : STok x tv W P K) : OPok g m_X5_back m_X6_back [] (.int (gBack x W P K).2.2.2.2) tv (gBack x W P K) x tv W P K := ⟨fun sg I A B hC => (X_back hC hS).imp (fun r s J h => c_st h), fun sg I hM => (D_back hM hS).imp (fun r s J h => m_st h), ok_back hS⟩
theorem op_count {k : Int32} (hS : STok x tv W P K) : OPok g m_X5_count m_X6_count [.int k] (.int (fCount x tv W P K k)) tv (x, W, P, K, 0) x tv W P K := ⟨fun sg I A B hC => (X_count hC hS).imp (fun r s J h => c_read hC h), fun sg I hM => (D_count hM hS).imp (fun r s J h => m_read hM h), hS⟩
end OPS
