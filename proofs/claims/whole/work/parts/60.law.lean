/-! the law's loop -/
theorem and31 (v : Int32) : ∃ k, k < 32 ∧ v &&& nI 31 = nI k := by
  refine ⟨(v &&& nI 31).toBitVec.toNat, ?_, ?_⟩
  · have h : (v &&& nI 31).toBitVec.toNat = v.toBitVec.toNat &&& 31 := by
      rw [show (v &&& nI 31).toBitVec = v.toBitVec &&& (nI 31).toBitVec from rfl, BitVec.toNat_and]
      rfl
    rw [h]
    exact Nat.lt_of_le_of_lt Nat.and_le_right (by decide)
  · apply Int32.toBitVec_inj.mp
    show _ = BitVec.ofNat 32 _
    rw [BitVec.ofNat_toNat]; simp
theorem lg_self (v : Int64) : lg_cmp v v = 0 := by
  unfold lg_cmp
  rw [if_neg Int64.lt_irrefl, if_pos rfl]
theorem past_end {n i : Nat} (hn : n ≤ 320) (hi : i ≤ 400) : nI n - nI 5 < nI i ↔ n < i + 5 := by
  rcases Nat.lt_or_ge n 5 with h | h
  · have h1 : nI n - nI 5 < 0 := by
      rcases (show n = 0 ∨ n = 1 ∨ n = 2 ∨ n = 3 ∨ n = 4 by omega) with rfl | rfl | rfl | rfl | rfl <;> decide
    exact ⟨fun _ => by omega, fun _ => Int32.lt_of_lt_of_le h1 (nI_ge0 (by omega))⟩
  · rw [nI_subN h, nI_ltI (by omega) (by omega)]; omega
section LAW
variable {g : GC} {Ln : Nat} {xs : Nat → Int32} {ak av : Nat}
theorem U_iaddN {X : LCx g Ln xs ak av} {sg : SG} {I : IM} {pc : Nat} {L : List (Option Value)} {st : List Value} {a b : Nat} (hd : decode code pc = .ok (.iadd, 1)) (kk : U X sg I (pc + 1) L (.int (nI (a + b)) :: st)) : U X sg I pc L (.int (nI b) :: .int (nI a) :: st) := U_iadd hd (by rw [nI_add]; exact kk)
def lwN (X : LCx g Ln xs ak av) (i : Nat) : Prop := ∀ (sg : SG) (I : IM) (A B : Nat) (tv : TV) (r : RS), CSt sg I A B r.1 tv r.2.1 r.2.2.1 r.2.2.2.1 → MSt sg I r.1 tv r.2.1 r.2.2.1 r.2.2.2.1 → RSok tv r → sg.1 = 103 → sg.2.1 = 3519 → U X sg I 989 [some (.ref (lxb X)), some (rf g 0), some (rf g 92), some (.int (nI i))] []
theorem law_write (X : LCx g Ln xs ak av) {i : Nat} {sg : SG} {I : IM} {A B : Nat} {x : XV} {tv : TV} {W : WV} {P K : SV} (hi : i + 5 ≤ Ln) (hC : CSt sg I A B x tv W P K) (hM : MSt sg I x tv W P K) (hS : STok x tv W P K) (n1 : sg.1 = 103) (n2 : sg.2.1 = 3519) (hnext : lwN X i) : U X sg I 176 [some (.ref (lxb X)), some (rf g 0), some (rf g 92), some (.int (nI i))] [] := by
  obtain ⟨hx, hd, hk⟩ := op_write (g := g) (l := xs (i + 1)) hS
  refine U_aload_n rfl dL_law_176 ?_
  refine U_aload_n rfl dL_law_177 ?_
  refine U_iload_n rfl dL_law_178 ?_
  refine U_iconst (nI 1) (by decide) dL_law_179 ?_
  refine U_iaddN dL_law_180 ?_
  refine U_sld (by omega) dL_law_181 ?_
  refine U_callV 5 (hx sg I A B hC) hC.1.1 (by decide) rfl wl_L_13 ws_X5_write we_X5_write wi_X5 wc_X5_write wn_X5_write rfl ⟨by show sg.1 + 0 ≤ 600000; omega, by show sg.2.1 + 0 ≤ 7302250; omega⟩ (Nat.le_of_ble_eq_true rfl) dL_law_182 rfl (fun r s1 I1 hq => ?_)
  obtain ⟨rfl, e1, e2, e3, e4, A1, B1, hC1⟩ := hq
  have hM1 := hM.hi e1 e4
  show U X s1 I1 185 [some (.ref (lxb X)), some (rf g 0), some (rf g 92), some (.int (nI i))] [.int (gWrite x W P K (xs (i + 1))).2.2.2.2]
  refine U_aload_n rfl dL_law_185 ?_
  refine U_aload_n rfl dL_law_186 ?_
  refine U_iload_n rfl dL_law_187 ?_
  refine U_iconst (nI 1) (by decide) dL_law_188 ?_
  refine U_iaddN dL_law_189 ?_
  refine U_sld (by omega) dL_law_190 ?_
  refine U_callV 6 (hd s1 I1 hM1) hM1.1.1 (by decide) rfl wl_L_17 ws_X6_write we_X6_write wi_X6 wc_X6_write wn_X6_write rfl ⟨by show s1.1 + 0 ≤ 600000; omega, by show s1.2.1 + 0 ≤ 7302250; omega⟩ (Nat.le_of_ble_eq_true rfl) dL_law_191 rfl (fun r s2 I2 hq => ?_)
  obtain ⟨rfl, hs2, hM2, e5⟩ := hq
  have hs2 := hs2.symm
  subst hs2
  show U X s1 I2 194 [some (.ref (lxb X)), some (rf g 0), some (rf g 92), some (.int (nI i))] [.int (gWrite x W P K (xs (i + 1))).2.2.2.2, .int (gWrite x W P K (xs (i + 1))).2.2.2.2]
  refine U_icmp_eq 989 dL_law_194 (by decide) (fun _ => ?_) (fun h => absurd rfl h)
  exact hnext s1 I2 A1 B1 _ _ (hC1.lo e5) hM2 hk (by omega) (by omega)
theorem law_wipe (X : LCx g Ln xs ak av) {i : Nat} {sg : SG} {I : IM} {A B : Nat} {x : XV} {tv : TV} {W : WV} {P K : SV} (hi : i + 5 ≤ Ln) (hC : CSt sg I A B x tv W P K) (hM : MSt sg I x tv W P K) (hS : STok x tv W P K) (n1 : sg.1 = 103) (n2 : sg.2.1 = 3519) (hnext : lwN X i) : U X sg I 199 [some (.ref (lxb X)), some (rf g 0), some (rf g 92), some (.int (nI i))] [] := by
  obtain ⟨hx, hd, hk⟩ := op_wipe (g := g)  hS
  refine U_aload_n rfl dL_law_199 ?_
  refine U_callV 5 (hx sg I A B hC) hC.1.1 (by decide) rfl wl_L_18 ws_X5_wipe we_X5_wipe wi_X5 wc_X5_wipe wn_X5_wipe rfl ⟨by show sg.1 + 0 ≤ 600000; omega, by show sg.2.1 + 0 ≤ 7302250; omega⟩ (Nat.le_of_ble_eq_true rfl) dL_law_200 rfl (fun r s1 I1 hq => ?_)
  obtain ⟨rfl, e1, e2, e3, e4, A1, B1, hC1⟩ := hq
  have hM1 := hM.hi e1 e4
  show U X s1 I1 203 [some (.ref (lxb X)), some (rf g 0), some (rf g 92), some (.int (nI i))] [.int (gWipe x W P K).2.2.2.2]
  refine U_aload_n rfl dL_law_203 ?_
  refine U_callV 6 (hd s1 I1 hM1) hM1.1.1 (by decide) rfl wl_L_22 ws_X6_wipe we_X6_wipe wi_X6 wc_X6_wipe wn_X6_wipe rfl ⟨by show s1.1 + 0 ≤ 600000; omega, by show s1.2.1 + 0 ≤ 7302250; omega⟩ (Nat.le_of_ble_eq_true rfl) dL_law_204 rfl (fun r s2 I2 hq => ?_)
  obtain ⟨rfl, hs2, hM2, e5⟩ := hq
  have hs2 := hs2.symm
  subst hs2
  show U X s1 I2 207 [some (.ref (lxb X)), some (rf g 0), some (rf g 92), some (.int (nI i))] [.int (gWipe x W P K).2.2.2.2, .int (gWipe x W P K).2.2.2.2]
  refine U_icmp_eq 989 dL_law_207 (by decide) (fun _ => ?_) (fun h => absurd rfl h)
  exact hnext s1 I2 A1 B1 _ _ (hC1.lo e5) hM2 hk (by omega) (by omega)
theorem law_fault (X : LCx g Ln xs ak av) {i : Nat} {sg : SG} {I : IM} {A B : Nat} {x : XV} {tv : TV} {W : WV} {P K : SV} (hi : i + 5 ≤ Ln) (hC : CSt sg I A B x tv W P K) (hM : MSt sg I x tv W P K) (hS : STok x tv W P K) (n1 : sg.1 = 103) (n2 : sg.2.1 = 3519) (hnext : lwN X i) : U X sg I 212 [some (.ref (lxb X)), some (rf g 0), some (rf g 92), some (.int (nI i))] [] := by
  obtain ⟨hx, hd, hk⟩ := op_fault (g := g)  hS
  refine U_aload_n rfl dL_law_212 ?_
  refine U_callV 5 (hx sg I A B hC) hC.1.1 (by decide) rfl wl_L_23 ws_X5_fault we_X5_fault wi_X5 wc_X5_fault wn_X5_fault rfl ⟨by show sg.1 + 0 ≤ 600000; omega, by show sg.2.1 + 0 ≤ 7302250; omega⟩ (Nat.le_of_ble_eq_true rfl) dL_law_213 rfl (fun r s1 I1 hq => ?_)
  obtain ⟨rfl, e1, e2, e3, e4, A1, B1, hC1⟩ := hq
  have hM1 := hM.hi e1 e4
  show U X s1 I1 216 [some (.ref (lxb X)), some (rf g 0), some (rf g 92), some (.int (nI i))] [.int (fFault x)]
  refine U_aload_n rfl dL_law_216 ?_
  refine U_callV 6 (hd s1 I1 hM1) hM1.1.1 (by decide) rfl wl_L_26 ws_X6_fault we_X6_fault wi_X6 wc_X6_fault wn_X6_fault rfl ⟨by show s1.1 + 0 ≤ 600000; omega, by show s1.2.1 + 0 ≤ 7302250; omega⟩ (Nat.le_of_ble_eq_true rfl) dL_law_217 rfl (fun r s2 I2 hq => ?_)
  obtain ⟨rfl, hs2, hM2, e5⟩ := hq
  have hs2 := hs2.symm
  subst hs2
  show U X s1 I2 220 [some (.ref (lxb X)), some (rf g 0), some (rf g 92), some (.int (nI i))] [.int (fFault x), .int (fFault x)]
  refine U_icmp_eq 989 dL_law_220 (by decide) (fun _ => ?_) (fun h => absurd rfl h)
  exact hnext s1 I2 A1 B1 _ _ (hC1.lo e5) hM2 hk (by omega) (by omega)
theorem law_lay (X : LCx g Ln xs ak av) {i : Nat} {sg : SG} {I : IM} {A B : Nat} {x : XV} {tv : TV} {W : WV} {P K : SV} (hi : i + 5 ≤ Ln) (hC : CSt sg I A B x tv W P K) (hM : MSt sg I x tv W P K) (hS : STok x tv W P K) (n1 : sg.1 = 103) (n2 : sg.2.1 = 3519) (hnext : lwN X i) : U X sg I 225 [some (.ref (lxb X)), some (rf g 0), some (rf g 92), some (.int (nI i))] [] := by
  obtain ⟨hx, hd, hk⟩ := op_lay (g := g)  hS
  refine U_aload_n rfl dL_law_225 ?_
  refine U_callV 5 (hx sg I A B hC) hC.1.1 (by decide) rfl wl_L_27 ws_X5_lay we_X5_lay wi_X5 wc_X5_lay wn_X5_lay rfl ⟨by show sg.1 + 0 ≤ 600000; omega, by show sg.2.1 + 0 ≤ 7302250; omega⟩ (Nat.le_of_ble_eq_true rfl) dL_law_226 rfl (fun r s1 I1 hq => ?_)
  obtain ⟨rfl, e1, e2, e3, e4, A1, B1, hC1⟩ := hq
  have hM1 := hM.hi e1 e4
  show U X s1 I1 229 [some (.ref (lxb X)), some (rf g 0), some (rf g 92), some (.int (nI i))] [.int (gLay x W P K).2.2.2.2]
  refine U_aload_n rfl dL_law_229 ?_
  refine U_callV 6 (hd s1 I1 hM1) hM1.1.1 (by decide) rfl wl_L_30 ws_X6_lay we_X6_lay wi_X6 wc_X6_lay wn_X6_lay rfl ⟨by show s1.1 + 0 ≤ 600000; omega, by show s1.2.1 + 0 ≤ 7302250; omega⟩ (Nat.le_of_ble_eq_true rfl) dL_law_230 rfl (fun r s2 I2 hq => ?_)
  obtain ⟨rfl, hs2, hM2, e5⟩ := hq
  have hs2 := hs2.symm
  subst hs2
  show U X s1 I2 233 [some (.ref (lxb X)), some (rf g 0), some (rf g 92), some (.int (nI i))] [.int (gLay x W P K).2.2.2.2, .int (gLay x W P K).2.2.2.2]
  refine U_icmp_eq 989 dL_law_233 (by decide) (fun _ => ?_) (fun h => absurd rfl h)
  exact hnext s1 I2 A1 B1 _ _ (hC1.lo e5) hM2 hk (by omega) (by omega)
theorem law_law (X : LCx g Ln xs ak av) {i : Nat} {sg : SG} {I : IM} {A B : Nat} {x : XV} {tv : TV} {W : WV} {P K : SV} (hi : i + 5 ≤ Ln) (hC : CSt sg I A B x tv W P K) (hM : MSt sg I x tv W P K) (hS : STok x tv W P K) (n1 : sg.1 = 103) (n2 : sg.2.1 = 3519) (hnext : lwN X i) : U X sg I 238 [some (.ref (lxb X)), some (rf g 0), some (rf g 92), some (.int (nI i))] [] := by
  obtain ⟨hx, hd, hk⟩ := op_law (g := g) (k := xs (i + 1)) (w := xs (i + 2)) hS
  refine U_aload_n rfl dL_law_238 ?_
  refine U_aload_n rfl dL_law_239 ?_
  refine U_iload_n rfl dL_law_240 ?_
  refine U_iconst (nI 1) (by decide) dL_law_241 ?_
  refine U_iaddN dL_law_242 ?_
  refine U_sld (by omega) dL_law_243 ?_
  refine U_aload_n rfl dL_law_244 ?_
  refine U_iload_n rfl dL_law_245 ?_
  refine U_iconst (nI 2) (by decide) dL_law_246 ?_
  refine U_iaddN dL_law_247 ?_
  refine U_sld (by omega) dL_law_248 ?_
  refine U_callV 5 (hx sg I A B hC) hC.1.1 (by decide) rfl wl_L_31 ws_X5_law we_X5_law wi_X5 wc_X5_law wn_X5_law rfl ⟨by show sg.1 + 0 ≤ 600000; omega, by show sg.2.1 + 0 ≤ 7302250; omega⟩ (Nat.le_of_ble_eq_true rfl) dL_law_249 rfl (fun r s1 I1 hq => ?_)
  obtain ⟨rfl, e1, e2, e3, e4, A1, B1, hC1⟩ := hq
  have hM1 := hM.hi e1 e4
  show U X s1 I1 252 [some (.ref (lxb X)), some (rf g 0), some (rf g 92), some (.int (nI i))] [.int (fLaw tv (xs (i + 1)) (xs (i + 2)))]
  refine U_aload_n rfl dL_law_252 ?_
  refine U_aload_n rfl dL_law_253 ?_
  refine U_iload_n rfl dL_law_254 ?_
  refine U_iconst (nI 1) (by decide) dL_law_255 ?_
  refine U_iaddN dL_law_256 ?_
  refine U_sld (by omega) dL_law_257 ?_
  refine U_aload_n rfl dL_law_258 ?_
  refine U_iload_n rfl dL_law_259 ?_
  refine U_iconst (nI 2) (by decide) dL_law_260 ?_
  refine U_iaddN dL_law_261 ?_
  refine U_sld (by omega) dL_law_262 ?_
  refine U_callV 6 (hd s1 I1 hM1) hM1.1.1 (by decide) rfl wl_L_35 ws_X6_law we_X6_law wi_X6 wc_X6_law wn_X6_law rfl ⟨by show s1.1 + 0 ≤ 600000; omega, by show s1.2.1 + 0 ≤ 7302250; omega⟩ (Nat.le_of_ble_eq_true rfl) dL_law_263 rfl (fun r s2 I2 hq => ?_)
  obtain ⟨rfl, hs2, hM2, e5⟩ := hq
  have hs2 := hs2.symm
  subst hs2
  show U X s1 I2 266 [some (.ref (lxb X)), some (rf g 0), some (rf g 92), some (.int (nI i))] [.int (fLaw tv (xs (i + 1)) (xs (i + 2))), .int (fLaw tv (xs (i + 1)) (xs (i + 2)))]
  refine U_icmp_eq 989 dL_law_266 (by decide) (fun _ => ?_) (fun h => absurd rfl h)
  exact hnext s1 I2 A1 B1 _ _ (hC1.lo e5) hM2 hk (by omega) (by omega)
theorem law_person (X : LCx g Ln xs ak av) {i : Nat} {sg : SG} {I : IM} {A B : Nat} {x : XV} {tv : TV} {W : WV} {P K : SV} (hi : i + 5 ≤ Ln) (hC : CSt sg I A B x tv W P K) (hM : MSt sg I x tv W P K) (hS : STok x tv W P K) (n1 : sg.1 = 103) (n2 : sg.2.1 = 3519) (hnext : lwN X i) : U X sg I 271 [some (.ref (lxb X)), some (rf g 0), some (rf g 92), some (.int (nI i))] [] := by
  obtain ⟨hx, hd, hk⟩ := op_person (g := g) (k := xs (i + 1)) (w := xs (i + 2)) hS
  refine U_aload_n rfl dL_law_271 ?_
  refine U_aload_n rfl dL_law_272 ?_
  refine U_iload_n rfl dL_law_273 ?_
  refine U_iconst (nI 1) (by decide) dL_law_274 ?_
  refine U_iaddN dL_law_275 ?_
  refine U_sld (by omega) dL_law_276 ?_
  refine U_aload_n rfl dL_law_277 ?_
  refine U_iload_n rfl dL_law_278 ?_
  refine U_iconst (nI 2) (by decide) dL_law_279 ?_
  refine U_iaddN dL_law_280 ?_
  refine U_sld (by omega) dL_law_281 ?_
  refine U_callV 5 (hx sg I A B hC) hC.1.1 (by decide) rfl wl_L_36 ws_X5_person we_X5_person wi_X5 wc_X5_person wn_X5_person rfl ⟨by show sg.1 + 0 ≤ 600000; omega, by show sg.2.1 + 0 ≤ 7302250; omega⟩ (Nat.le_of_ble_eq_true rfl) dL_law_282 rfl (fun r s1 I1 hq => ?_)
  obtain ⟨rfl, e1, e2, e3, e4, A1, B1, hC1⟩ := hq
  have hM1 := hM.hi e1 e4
  show U X s1 I1 285 [some (.ref (lxb X)), some (rf g 0), some (rf g 92), some (.int (nI i))] [.int (fPerson tv W (xs (i + 1)) (xs (i + 2)))]
  refine U_aload_n rfl dL_law_285 ?_
  refine U_aload_n rfl dL_law_286 ?_
  refine U_iload_n rfl dL_law_287 ?_
  refine U_iconst (nI 1) (by decide) dL_law_288 ?_
  refine U_iaddN dL_law_289 ?_
  refine U_sld (by omega) dL_law_290 ?_
  refine U_aload_n rfl dL_law_291 ?_
  refine U_iload_n rfl dL_law_292 ?_
  refine U_iconst (nI 2) (by decide) dL_law_293 ?_
  refine U_iaddN dL_law_294 ?_
  refine U_sld (by omega) dL_law_295 ?_
  refine U_callV 6 (hd s1 I1 hM1) hM1.1.1 (by decide) rfl wl_L_39 ws_X6_person we_X6_person wi_X6 wc_X6_person wn_X6_person rfl ⟨by show s1.1 + 0 ≤ 600000; omega, by show s1.2.1 + 0 ≤ 7302250; omega⟩ (Nat.le_of_ble_eq_true rfl) dL_law_296 rfl (fun r s2 I2 hq => ?_)
  obtain ⟨rfl, hs2, hM2, e5⟩ := hq
  have hs2 := hs2.symm
  subst hs2
  show U X s1 I2 299 [some (.ref (lxb X)), some (rf g 0), some (rf g 92), some (.int (nI i))] [.int (fPerson tv W (xs (i + 1)) (xs (i + 2))), .int (fPerson tv W (xs (i + 1)) (xs (i + 2)))]
  refine U_icmp_eq 989 dL_law_299 (by decide) (fun _ => ?_) (fun h => absurd rfl h)
  exact hnext s1 I2 A1 B1 _ _ (hC1.lo e5) hM2 hk (by omega) (by omega)
theorem law_stone (X : LCx g Ln xs ak av) {i : Nat} {sg : SG} {I : IM} {A B : Nat} {x : XV} {tv : TV} {W : WV} {P K : SV} (hi : i + 5 ≤ Ln) (hC : CSt sg I A B x tv W P K) (hM : MSt sg I x tv W P K) (hS : STok x tv W P K) (n1 : sg.1 = 103) (n2 : sg.2.1 = 3519) (hnext : lwN X i) : U X sg I 304 [some (.ref (lxb X)), some (rf g 0), some (rf g 92), some (.int (nI i))] [] := by
  obtain ⟨hx, hd, hk⟩ := op_stone (g := g) (k := xs (i + 1)) (w := xs (i + 2)) hS
  refine U_aload_n rfl dL_law_304 ?_
  refine U_aload_n rfl dL_law_305 ?_
  refine U_iload_n rfl dL_law_306 ?_
  refine U_iconst (nI 1) (by decide) dL_law_307 ?_
  refine U_iaddN dL_law_308 ?_
  refine U_sld (by omega) dL_law_309 ?_
  refine U_aload_n rfl dL_law_310 ?_
  refine U_iload_n rfl dL_law_311 ?_
  refine U_iconst (nI 2) (by decide) dL_law_312 ?_
  refine U_iaddN dL_law_313 ?_
  refine U_sld (by omega) dL_law_314 ?_
  refine U_callV 5 (hx sg I A B hC) hC.1.1 (by decide) rfl wl_L_40 ws_X5_stone we_X5_stone wi_X5 wc_X5_stone wn_X5_stone rfl ⟨by show sg.1 + 0 ≤ 600000; omega, by show sg.2.1 + 0 ≤ 7302250; omega⟩ (Nat.le_of_ble_eq_true rfl) dL_law_315 rfl (fun r s1 I1 hq => ?_)
  obtain ⟨rfl, e1, e2, e3, e4, A1, B1, hC1⟩ := hq
  have hM1 := hM.hi e1 e4
  show U X s1 I1 318 [some (.ref (lxb X)), some (rf g 0), some (rf g 92), some (.int (nI i))] [.int (fStone tv W (xs (i + 1)) (xs (i + 2)))]
  refine U_aload_n rfl dL_law_318 ?_
  refine U_aload_n rfl dL_law_319 ?_
  refine U_iload_n rfl dL_law_320 ?_
  refine U_iconst (nI 1) (by decide) dL_law_321 ?_
  refine U_iaddN dL_law_322 ?_
  refine U_sld (by omega) dL_law_323 ?_
  refine U_aload_n rfl dL_law_324 ?_
  refine U_iload_n rfl dL_law_325 ?_
  refine U_iconst (nI 2) (by decide) dL_law_326 ?_
  refine U_iaddN dL_law_327 ?_
  refine U_sld (by omega) dL_law_328 ?_
  refine U_callV 6 (hd s1 I1 hM1) hM1.1.1 (by decide) rfl wl_L_43 ws_X6_stone we_X6_stone wi_X6 wc_X6_stone wn_X6_stone rfl ⟨by show s1.1 + 0 ≤ 600000; omega, by show s1.2.1 + 0 ≤ 7302250; omega⟩ (Nat.le_of_ble_eq_true rfl) dL_law_329 rfl (fun r s2 I2 hq => ?_)
  obtain ⟨rfl, hs2, hM2, e5⟩ := hq
  have hs2 := hs2.symm
  subst hs2
  show U X s1 I2 332 [some (.ref (lxb X)), some (rf g 0), some (rf g 92), some (.int (nI i))] [.int (fStone tv W (xs (i + 1)) (xs (i + 2))), .int (fStone tv W (xs (i + 1)) (xs (i + 2)))]
  refine U_icmp_eq 989 dL_law_332 (by decide) (fun _ => ?_) (fun h => absurd rfl h)
  exact hnext s1 I2 A1 B1 _ _ (hC1.lo e5) hM2 hk (by omega) (by omega)
theorem law_mark (X : LCx g Ln xs ak av) {i : Nat} {sg : SG} {I : IM} {A B : Nat} {x : XV} {tv : TV} {W : WV} {P K : SV} (hi : i + 5 ≤ Ln) (hC : CSt sg I A B x tv W P K) (hM : MSt sg I x tv W P K) (hS : STok x tv W P K) (n1 : sg.1 = 103) (n2 : sg.2.1 = 3519) (hnext : lwN X i) : U X sg I 337 [some (.ref (lxb X)), some (rf g 0), some (rf g 92), some (.int (nI i))] [] := by
  obtain ⟨hx, hd, hk⟩ := op_mark (g := g) (k := xs (i + 1)) (w := xs (i + 2)) hS
  refine U_aload_n rfl dL_law_337 ?_
  refine U_aload_n rfl dL_law_338 ?_
  refine U_iload_n rfl dL_law_339 ?_
  refine U_iconst (nI 1) (by decide) dL_law_340 ?_
  refine U_iaddN dL_law_341 ?_
  refine U_sld (by omega) dL_law_342 ?_
  refine U_aload_n rfl dL_law_343 ?_
  refine U_iload_n rfl dL_law_344 ?_
  refine U_iconst (nI 2) (by decide) dL_law_345 ?_
  refine U_iaddN dL_law_346 ?_
  refine U_sld (by omega) dL_law_347 ?_
  refine U_callV 5 (hx sg I A B hC) hC.1.1 (by decide) rfl wl_L_44 ws_X5_mark we_X5_mark wi_X5 wc_X5_mark wn_X5_mark rfl ⟨by show sg.1 + 0 ≤ 600000; omega, by show sg.2.1 + 0 ≤ 7302250; omega⟩ (Nat.le_of_ble_eq_true rfl) dL_law_348 rfl (fun r s1 I1 hq => ?_)
  obtain ⟨rfl, e1, e2, e3, e4, A1, B1, hC1⟩ := hq
  have hM1 := hM.hi e1 e4
  show U X s1 I1 351 [some (.ref (lxb X)), some (rf g 0), some (rf g 92), some (.int (nI i))] [.int (fMark W (xs (i + 1)) (xs (i + 2)))]
  refine U_aload_n rfl dL_law_351 ?_
  refine U_aload_n rfl dL_law_352 ?_
  refine U_iload_n rfl dL_law_353 ?_
  refine U_iconst (nI 1) (by decide) dL_law_354 ?_
  refine U_iaddN dL_law_355 ?_
  refine U_sld (by omega) dL_law_356 ?_
  refine U_aload_n rfl dL_law_357 ?_
  refine U_iload_n rfl dL_law_358 ?_
  refine U_iconst (nI 2) (by decide) dL_law_359 ?_
  refine U_iaddN dL_law_360 ?_
  refine U_sld (by omega) dL_law_361 ?_
  refine U_callV 6 (hd s1 I1 hM1) hM1.1.1 (by decide) rfl wl_L_47 ws_X6_mark we_X6_mark wi_X6 wc_X6_mark wn_X6_mark rfl ⟨by show s1.1 + 0 ≤ 600000; omega, by show s1.2.1 + 0 ≤ 7302250; omega⟩ (Nat.le_of_ble_eq_true rfl) dL_law_362 rfl (fun r s2 I2 hq => ?_)
  obtain ⟨rfl, hs2, hM2, e5⟩ := hq
  have hs2 := hs2.symm
  subst hs2
  show U X s1 I2 365 [some (.ref (lxb X)), some (rf g 0), some (rf g 92), some (.int (nI i))] [.int (fMark W (xs (i + 1)) (xs (i + 2))), .int (fMark W (xs (i + 1)) (xs (i + 2)))]
  refine U_icmp_eq 989 dL_law_365 (by decide) (fun _ => ?_) (fun h => absurd rfl h)
  exact hnext s1 I2 A1 B1 _ _ (hC1.lo e5) hM2 hk (by omega) (by omega)
theorem law_world (X : LCx g Ln xs ak av) {i : Nat} {sg : SG} {I : IM} {A B : Nat} {x : XV} {tv : TV} {W : WV} {P K : SV} (hi : i + 5 ≤ Ln) (hC : CSt sg I A B x tv W P K) (hM : MSt sg I x tv W P K) (hS : STok x tv W P K) (n1 : sg.1 = 103) (n2 : sg.2.1 = 3519) (hnext : lwN X i) : U X sg I 370 [some (.ref (lxb X)), some (rf g 0), some (rf g 92), some (.int (nI i))] [] := by
  obtain ⟨hx, hd, hk⟩ := op_world (g := g) (k := xs (i + 1)) hS
  refine U_aload_n rfl dL_law_370 ?_
  refine U_aload_n rfl dL_law_371 ?_
  refine U_iload_n rfl dL_law_372 ?_
  refine U_iconst (nI 1) (by decide) dL_law_373 ?_
  refine U_iaddN dL_law_374 ?_
  refine U_sld (by omega) dL_law_375 ?_
  refine U_callV 5 (hx sg I A B hC) hC.1.1 (by decide) rfl wl_L_48 ws_X5_world we_X5_world wi_X5 wc_X5_world wn_X5_world rfl ⟨by show sg.1 + 0 ≤ 600000; omega, by show sg.2.1 + 0 ≤ 7302250; omega⟩ (Nat.le_of_ble_eq_true rfl) dL_law_376 rfl (fun r s1 I1 hq => ?_)
  obtain ⟨rfl, e1, e2, e3, e4, A1, B1, hC1⟩ := hq
  have hM1 := hM.hi e1 e4
  show U X s1 I1 379 [some (.ref (lxb X)), some (rf g 0), some (rf g 92), some (.int (nI i))] [.int (fWorld tv (xs (i + 1)))]
  refine U_aload_n rfl dL_law_379 ?_
  refine U_aload_n rfl dL_law_380 ?_
  refine U_iload_n rfl dL_law_381 ?_
  refine U_iconst (nI 1) (by decide) dL_law_382 ?_
  refine U_iaddN dL_law_383 ?_
  refine U_sld (by omega) dL_law_384 ?_
  refine U_callV 6 (hd s1 I1 hM1) hM1.1.1 (by decide) rfl wl_L_51 ws_X6_world we_X6_world wi_X6 wc_X6_world wn_X6_world rfl ⟨by show s1.1 + 0 ≤ 600000; omega, by show s1.2.1 + 0 ≤ 7302250; omega⟩ (Nat.le_of_ble_eq_true rfl) dL_law_385 rfl (fun r s2 I2 hq => ?_)
  obtain ⟨rfl, hs2, hM2, e5⟩ := hq
  have hs2 := hs2.symm
  subst hs2
  show U X s1 I2 388 [some (.ref (lxb X)), some (rf g 0), some (rf g 92), some (.int (nI i))] [.int (fWorld tv (xs (i + 1))), .int (fWorld tv (xs (i + 1)))]
  refine U_icmp_eq 989 dL_law_388 (by decide) (fun _ => ?_) (fun h => absurd rfl h)
  exact hnext s1 I2 A1 B1 _ _ (hC1.lo e5) hM2 hk (by omega) (by omega)
theorem law_deed (X : LCx g Ln xs ak av) {i : Nat} {sg : SG} {I : IM} {A B : Nat} {x : XV} {tv : TV} {W : WV} {P K : SV} (hi : i + 5 ≤ Ln) (hC : CSt sg I A B x tv W P K) (hM : MSt sg I x tv W P K) (hS : STok x tv W P K) (n1 : sg.1 = 103) (n2 : sg.2.1 = 3519) (hnext : lwN X i) : U X sg I 393 [some (.ref (lxb X)), some (rf g 0), some (rf g 92), some (.int (nI i))] [] := by
  obtain ⟨hx, hd, hk⟩ := op_deed (g := g) (s := xs (i + 1)) hS
  refine U_aload_n rfl dL_law_393 ?_
  refine U_aload_n rfl dL_law_394 ?_
  refine U_iload_n rfl dL_law_395 ?_
  refine U_iconst (nI 1) (by decide) dL_law_396 ?_
  refine U_iaddN dL_law_397 ?_
  refine U_sld (by omega) dL_law_398 ?_
  refine U_callV 5 (hx sg I A B hC) hC.1.1 (by decide) rfl wl_L_52 ws_X5_deed we_X5_deed wi_X5 wc_X5_deed wn_X5_deed rfl ⟨by show sg.1 + 0 ≤ 600000; omega, by show sg.2.1 + 0 ≤ 7302250; omega⟩ (Nat.le_of_ble_eq_true rfl) dL_law_399 rfl (fun r s1 I1 hq => ?_)
  obtain ⟨rfl, e1, e2, e3, e4, A1, B1, hC1⟩ := hq
  have hM1 := hM.hi e1 e4
  show U X s1 I1 402 [some (.ref (lxb X)), some (rf g 0), some (rf g 92), some (.int (nI i))] [.int (gDeed x tv W P K (xs (i + 1))).2.2.2.2]
  refine U_aload_n rfl dL_law_402 ?_
  refine U_aload_n rfl dL_law_403 ?_
  refine U_iload_n rfl dL_law_404 ?_
  refine U_iconst (nI 1) (by decide) dL_law_405 ?_
  refine U_iaddN dL_law_406 ?_
  refine U_sld (by omega) dL_law_407 ?_
  refine U_callV 6 (hd s1 I1 hM1) hM1.1.1 (by decide) rfl wl_L_55 ws_X6_deed we_X6_deed wi_X6 wc_X6_deed wn_X6_deed rfl ⟨by show s1.1 + 0 ≤ 600000; omega, by show s1.2.1 + 0 ≤ 7302250; omega⟩ (Nat.le_of_ble_eq_true rfl) dL_law_408 rfl (fun r s2 I2 hq => ?_)
  obtain ⟨rfl, hs2, hM2, e5⟩ := hq
  have hs2 := hs2.symm
  subst hs2
  show U X s1 I2 411 [some (.ref (lxb X)), some (rf g 0), some (rf g 92), some (.int (nI i))] [.int (gDeed x tv W P K (xs (i + 1))).2.2.2.2, .int (gDeed x tv W P K (xs (i + 1))).2.2.2.2]
  refine U_icmp_eq 989 dL_law_411 (by decide) (fun _ => ?_) (fun h => absurd rfl h)
  exact hnext s1 I2 A1 B1 _ _ (hC1.lo e5) hM2 hk (by omega) (by omega)
theorem law_carve (X : LCx g Ln xs ak av) {i : Nat} {sg : SG} {I : IM} {A B : Nat} {x : XV} {tv : TV} {W : WV} {P K : SV} (hi : i + 5 ≤ Ln) (hC : CSt sg I A B x tv W P K) (hM : MSt sg I x tv W P K) (hS : STok x tv W P K) (n1 : sg.1 = 103) (n2 : sg.2.1 = 3519) (hnext : lwN X i) : U X sg I 416 [some (.ref (lxb X)), some (rf g 0), some (rf g 92), some (.int (nI i))] [] := by
  refine U_aload_n rfl dL_law_416 ?_
  refine U_aload_n rfl dL_law_417 ?_
  refine U_iload_n rfl dL_law_418 ?_
  refine U_iconst (nI 1) (by decide) dL_law_419 ?_
  refine U_iaddN dL_law_420 ?_
  refine U_sld (by omega) dL_law_421 ?_
  refine U_aload_n rfl dL_law_422 ?_
  refine U_iload_n rfl dL_law_423 ?_
  refine U_iconst (nI 2) (by decide) dL_law_424 ?_
  refine U_iaddN dL_law_425 ?_
  refine U_sld (by omega) dL_law_426 ?_
  refine U_aload_n rfl dL_law_427 ?_
  refine U_iload_n rfl dL_law_428 ?_
  refine U_iconst (nI 3) (by decide) dL_law_429 ?_
  refine U_iaddN dL_law_430 ?_
  refine U_sld (by omega) dL_law_431 ?_
  refine U_aload_n rfl dL_law_432 ?_
  refine U_iload_n rfl dL_law_433 ?_
  refine U_iconst (nI 4) (by decide) dL_law_434 ?_
  refine U_iaddN dL_law_435 ?_
  refine U_sld (by omega) dL_law_436 ?_
  obtain hz | hz := Classical.em (xs (i + 4) = 0)
  · skip
    obtain ⟨hx, hd, hk⟩ := op_carve (g := g) (i := xs (i + 1)) (s := xs (i + 2)) (f := xs (i + 3)) (t := (nI 0)) hS
    refine U_if_eq 444 dL_law_437 (by decide) (fun _ => ?_) (fun h => absurd hz h)
    refine U_iconst (nI 0) (by decide) dL_law_444 ?_
    refine U_callV 5 (hx sg I A B hC) hC.1.1 (by decide) rfl wl_L_56 ws_X5_carve we_X5_carve wi_X5 wc_X5_carve wn_X5_carve rfl ⟨by show sg.1 + 0 ≤ 600000; omega, by show sg.2.1 + 0 ≤ 7302250; omega⟩ (Nat.le_of_ble_eq_true rfl) dL_law_445 rfl (fun r s1 I1 hq => ?_)
    obtain ⟨rfl, e1, e2, e3, e4, A1, B1, hC1⟩ := hq
    have hM1 := hM.hi e1 e4
    show U X s1 I1 448 [some (.ref (lxb X)), some (rf g 0), some (rf g 92), some (.int (nI i))] [.int (gCarve x tv W P K (xs (i + 1)) (xs (i + 2)) (xs (i + 3)) (nI 0)).2.2.2.2]
    refine U_aload_n rfl dL_law_448 ?_
    refine U_aload_n rfl dL_law_449 ?_
    refine U_iload_n rfl dL_law_450 ?_
    refine U_iconst (nI 1) (by decide) dL_law_451 ?_
    refine U_iaddN dL_law_452 ?_
    refine U_sld (by omega) dL_law_453 ?_
    refine U_aload_n rfl dL_law_454 ?_
    refine U_iload_n rfl dL_law_455 ?_
    refine U_iconst (nI 2) (by decide) dL_law_456 ?_
    refine U_iaddN dL_law_457 ?_
    refine U_sld (by omega) dL_law_458 ?_
    refine U_aload_n rfl dL_law_459 ?_
    refine U_iload_n rfl dL_law_460 ?_
    refine U_iconst (nI 3) (by decide) dL_law_461 ?_
    refine U_iaddN dL_law_462 ?_
    refine U_sld (by omega) dL_law_463 ?_
    refine U_aload_n rfl dL_law_464 ?_
    refine U_iload_n rfl dL_law_465 ?_
    refine U_iconst (nI 4) (by decide) dL_law_466 ?_
    refine U_iaddN dL_law_467 ?_
    refine U_sld (by omega) dL_law_468 ?_
    refine U_if_eq 476 dL_law_469 (by decide) (fun _ => ?_) (fun h => absurd hz h)
    refine U_iconst (nI 0) (by decide) dL_law_476 ?_
    refine U_callV 6 (hd s1 I1 hM1) hM1.1.1 (by decide) rfl wl_L_60 ws_X6_carve we_X6_carve wi_X6 wc_X6_carve wn_X6_carve rfl ⟨by show s1.1 + 0 ≤ 600000; omega, by show s1.2.1 + 0 ≤ 7302250; omega⟩ (Nat.le_of_ble_eq_true rfl) dL_law_477 rfl (fun r s2 I2 hq => ?_)
    obtain ⟨rfl, hs2, hM2, e5⟩ := hq
    have hs2 := hs2.symm
    subst hs2
    show U X s1 I2 480 [some (.ref (lxb X)), some (rf g 0), some (rf g 92), some (.int (nI i))] [.int (gCarve x tv W P K (xs (i + 1)) (xs (i + 2)) (xs (i + 3)) (nI 0)).2.2.2.2, .int (gCarve x tv W P K (xs (i + 1)) (xs (i + 2)) (xs (i + 3)) (nI 0)).2.2.2.2]
    refine U_icmp_eq 989 dL_law_480 (by decide) (fun _ => ?_) (fun h => absurd rfl h)
    exact hnext s1 I2 A1 B1 _ _ (hC1.lo e5) hM2 hk (by omega) (by omega)
  · skip
    obtain ⟨hx, hd, hk⟩ := op_carve (g := g) (i := xs (i + 1)) (s := xs (i + 2)) (f := xs (i + 3)) (t := (nI 1)) hS
    refine U_if_eq 444 dL_law_437 (by decide) (fun h => absurd h hz) (fun _ => ?_)
    refine U_iconst (nI 1) (by decide) dL_law_440 ?_
    refine U_goto 445 dL_law_441 (by decide) ?_
    refine U_callV 5 (hx sg I A B hC) hC.1.1 (by decide) rfl wl_L_56 ws_X5_carve we_X5_carve wi_X5 wc_X5_carve wn_X5_carve rfl ⟨by show sg.1 + 0 ≤ 600000; omega, by show sg.2.1 + 0 ≤ 7302250; omega⟩ (Nat.le_of_ble_eq_true rfl) dL_law_445 rfl (fun r s1 I1 hq => ?_)
    obtain ⟨rfl, e1, e2, e3, e4, A1, B1, hC1⟩ := hq
    have hM1 := hM.hi e1 e4
    show U X s1 I1 448 [some (.ref (lxb X)), some (rf g 0), some (rf g 92), some (.int (nI i))] [.int (gCarve x tv W P K (xs (i + 1)) (xs (i + 2)) (xs (i + 3)) (nI 1)).2.2.2.2]
    refine U_aload_n rfl dL_law_448 ?_
    refine U_aload_n rfl dL_law_449 ?_
    refine U_iload_n rfl dL_law_450 ?_
    refine U_iconst (nI 1) (by decide) dL_law_451 ?_
    refine U_iaddN dL_law_452 ?_
    refine U_sld (by omega) dL_law_453 ?_
    refine U_aload_n rfl dL_law_454 ?_
    refine U_iload_n rfl dL_law_455 ?_
    refine U_iconst (nI 2) (by decide) dL_law_456 ?_
    refine U_iaddN dL_law_457 ?_
    refine U_sld (by omega) dL_law_458 ?_
    refine U_aload_n rfl dL_law_459 ?_
    refine U_iload_n rfl dL_law_460 ?_
    refine U_iconst (nI 3) (by decide) dL_law_461 ?_
    refine U_iaddN dL_law_462 ?_
    refine U_sld (by omega) dL_law_463 ?_
    refine U_aload_n rfl dL_law_464 ?_
    refine U_iload_n rfl dL_law_465 ?_
    refine U_iconst (nI 4) (by decide) dL_law_466 ?_
    refine U_iaddN dL_law_467 ?_
    refine U_sld (by omega) dL_law_468 ?_
    refine U_if_eq 476 dL_law_469 (by decide) (fun h => absurd h hz) (fun _ => ?_)
    refine U_iconst (nI 1) (by decide) dL_law_472 ?_
    refine U_goto 477 dL_law_473 (by decide) ?_
    refine U_callV 6 (hd s1 I1 hM1) hM1.1.1 (by decide) rfl wl_L_60 ws_X6_carve we_X6_carve wi_X6 wc_X6_carve wn_X6_carve rfl ⟨by show s1.1 + 0 ≤ 600000; omega, by show s1.2.1 + 0 ≤ 7302250; omega⟩ (Nat.le_of_ble_eq_true rfl) dL_law_477 rfl (fun r s2 I2 hq => ?_)
    obtain ⟨rfl, hs2, hM2, e5⟩ := hq
    have hs2 := hs2.symm
    subst hs2
    show U X s1 I2 480 [some (.ref (lxb X)), some (rf g 0), some (rf g 92), some (.int (nI i))] [.int (gCarve x tv W P K (xs (i + 1)) (xs (i + 2)) (xs (i + 3)) (nI 1)).2.2.2.2, .int (gCarve x tv W P K (xs (i + 1)) (xs (i + 2)) (xs (i + 3)) (nI 1)).2.2.2.2]
    refine U_icmp_eq 989 dL_law_480 (by decide) (fun _ => ?_) (fun h => absurd rfl h)
    exact hnext s1 I2 A1 B1 _ _ (hC1.lo e5) hM2 hk (by omega) (by omega)
theorem law_chisel (X : LCx g Ln xs ak av) {i : Nat} {sg : SG} {I : IM} {A B : Nat} {x : XV} {tv : TV} {W : WV} {P K : SV} (hi : i + 5 ≤ Ln) (hC : CSt sg I A B x tv W P K) (hM : MSt sg I x tv W P K) (hS : STok x tv W P K) (n1 : sg.1 = 103) (n2 : sg.2.1 = 3519) (hnext : lwN X i) : U X sg I 485 [some (.ref (lxb X)), some (rf g 0), some (rf g 92), some (.int (nI i))] [] := by
  obtain ⟨hx, hd, hk⟩ := op_chisel (g := g) (i := xs (i + 1)) (m := xs (i + 2)) hS
  refine U_aload_n rfl dL_law_485 ?_
  refine U_aload_n rfl dL_law_486 ?_
  refine U_iload_n rfl dL_law_487 ?_
  refine U_iconst (nI 1) (by decide) dL_law_488 ?_
  refine U_iaddN dL_law_489 ?_
  refine U_sld (by omega) dL_law_490 ?_
  refine U_aload_n rfl dL_law_491 ?_
  refine U_iload_n rfl dL_law_492 ?_
  refine U_iconst (nI 2) (by decide) dL_law_493 ?_
  refine U_iaddN dL_law_494 ?_
  refine U_sld (by omega) dL_law_495 ?_
  refine U_callV 5 (hx sg I A B hC) hC.1.1 (by decide) rfl wl_L_61 ws_X5_chisel we_X5_chisel wi_X5 wc_X5_chisel wn_X5_chisel rfl ⟨by show sg.1 + 0 ≤ 600000; omega, by show sg.2.1 + 0 ≤ 7302250; omega⟩ (Nat.le_of_ble_eq_true rfl) dL_law_496 rfl (fun r s1 I1 hq => ?_)
  obtain ⟨rfl, e1, e2, e3, e4, A1, B1, hC1⟩ := hq
  have hM1 := hM.hi e1 e4
  show U X s1 I1 499 [some (.ref (lxb X)), some (rf g 0), some (rf g 92), some (.int (nI i))] [.int (gChisel x tv W P K (xs (i + 1)) (xs (i + 2))).2.2.2.2]
  refine U_aload_n rfl dL_law_499 ?_
  refine U_aload_n rfl dL_law_500 ?_
  refine U_iload_n rfl dL_law_501 ?_
  refine U_iconst (nI 1) (by decide) dL_law_502 ?_
  refine U_iaddN dL_law_503 ?_
  refine U_sld (by omega) dL_law_504 ?_
  refine U_aload_n rfl dL_law_505 ?_
  refine U_iload_n rfl dL_law_506 ?_
  refine U_iconst (nI 2) (by decide) dL_law_507 ?_
  refine U_iaddN dL_law_508 ?_
  refine U_sld (by omega) dL_law_509 ?_
  refine U_callV 6 (hd s1 I1 hM1) hM1.1.1 (by decide) rfl wl_L_64 ws_X6_chisel we_X6_chisel wi_X6 wc_X6_chisel wn_X6_chisel rfl ⟨by show s1.1 + 0 ≤ 600000; omega, by show s1.2.1 + 0 ≤ 7302250; omega⟩ (Nat.le_of_ble_eq_true rfl) dL_law_510 rfl (fun r s2 I2 hq => ?_)
  obtain ⟨rfl, hs2, hM2, e5⟩ := hq
  have hs2 := hs2.symm
  subst hs2
  show U X s1 I2 513 [some (.ref (lxb X)), some (rf g 0), some (rf g 92), some (.int (nI i))] [.int (gChisel x tv W P K (xs (i + 1)) (xs (i + 2))).2.2.2.2, .int (gChisel x tv W P K (xs (i + 1)) (xs (i + 2))).2.2.2.2]
  refine U_icmp_eq 989 dL_law_513 (by decide) (fun _ => ?_) (fun h => absurd rfl h)
  exact hnext s1 I2 A1 B1 _ _ (hC1.lo e5) hM2 hk (by omega) (by omega)
theorem law_bell (X : LCx g Ln xs ak av) {i : Nat} {sg : SG} {I : IM} {A B : Nat} {x : XV} {tv : TV} {W : WV} {P K : SV} (hi : i + 5 ≤ Ln) (hC : CSt sg I A B x tv W P K) (hM : MSt sg I x tv W P K) (hS : STok x tv W P K) (n1 : sg.1 = 103) (n2 : sg.2.1 = 3519) (hnext : lwN X i) : U X sg I 518 [some (.ref (lxb X)), some (rf g 0), some (rf g 92), some (.int (nI i))] [] := by
  obtain ⟨hx, hd, hk⟩ := op_bell (g := g)  hS
  refine U_aload_n rfl dL_law_518 ?_
  refine U_callV 5 (hx sg I A B hC) hC.1.1 (by decide) rfl wl_L_65 ws_X5_bell we_X5_bell wi_X5 wc_X5_bell wn_X5_bell rfl ⟨by show sg.1 + 0 ≤ 600000; omega, by show sg.2.1 + 0 ≤ 7302250; omega⟩ (Nat.le_of_ble_eq_true rfl) dL_law_519 rfl (fun r s1 I1 hq => ?_)
  obtain ⟨rfl, e1, e2, e3, e4, A1, B1, hC1⟩ := hq
  have hM1 := hM.hi e1 e4
  show U X s1 I1 522 [some (.ref (lxb X)), some (rf g 0), some (rf g 92), some (.int (nI i))] [.int (gBell x tv W P K).2.2.2.2]
  refine U_aload_n rfl dL_law_522 ?_
  refine U_callV 6 (hd s1 I1 hM1) hM1.1.1 (by decide) rfl wl_L_68 ws_X6_bell we_X6_bell wi_X6 wc_X6_bell wn_X6_bell rfl ⟨by show s1.1 + 0 ≤ 600000; omega, by show s1.2.1 + 0 ≤ 7302250; omega⟩ (Nat.le_of_ble_eq_true rfl) dL_law_523 rfl (fun r s2 I2 hq => ?_)
  obtain ⟨rfl, hs2, hM2, e5⟩ := hq
  have hs2 := hs2.symm
  subst hs2
  show U X s1 I2 526 [some (.ref (lxb X)), some (rf g 0), some (rf g 92), some (.int (nI i))] [.int (gBell x tv W P K).2.2.2.2, .int (gBell x tv W P K).2.2.2.2]
  refine U_icmp_eq 989 dL_law_526 (by decide) (fun _ => ?_) (fun h => absurd rfl h)
  exact hnext s1 I2 A1 B1 _ _ (hC1.lo e5) hM2 hk (by omega) (by omega)
theorem law_undo (X : LCx g Ln xs ak av) {i : Nat} {sg : SG} {I : IM} {A B : Nat} {x : XV} {tv : TV} {W : WV} {P K : SV} (hi : i + 5 ≤ Ln) (hC : CSt sg I A B x tv W P K) (hM : MSt sg I x tv W P K) (hS : STok x tv W P K) (n1 : sg.1 = 103) (n2 : sg.2.1 = 3519) (hnext : lwN X i) : U X sg I 531 [some (.ref (lxb X)), some (rf g 0), some (rf g 92), some (.int (nI i))] [] := by
  obtain ⟨hx, hd, hk⟩ := op_undo (g := g)  hS
  refine U_aload_n rfl dL_law_531 ?_
  refine U_callV 5 (hx sg I A B hC) hC.1.1 (by decide) rfl wl_L_69 ws_X5_undo we_X5_undo wi_X5 wc_X5_undo wn_X5_undo rfl ⟨by show sg.1 + 0 ≤ 600000; omega, by show sg.2.1 + 0 ≤ 7302250; omega⟩ (Nat.le_of_ble_eq_true rfl) dL_law_532 rfl (fun r s1 I1 hq => ?_)
  obtain ⟨rfl, e1, e2, e3, e4, A1, B1, hC1⟩ := hq
  have hM1 := hM.hi e1 e4
  show U X s1 I1 535 [some (.ref (lxb X)), some (rf g 0), some (rf g 92), some (.int (nI i))] [.int (gUndo x W P K).2.2.2.2]
  refine U_aload_n rfl dL_law_535 ?_
  refine U_callV 6 (hd s1 I1 hM1) hM1.1.1 (by decide) rfl wl_L_72 ws_X6_undo we_X6_undo wi_X6 wc_X6_undo wn_X6_undo rfl ⟨by show s1.1 + 0 ≤ 600000; omega, by show s1.2.1 + 0 ≤ 7302250; omega⟩ (Nat.le_of_ble_eq_true rfl) dL_law_536 rfl (fun r s2 I2 hq => ?_)
  obtain ⟨rfl, hs2, hM2, e5⟩ := hq
  have hs2 := hs2.symm
  subst hs2
  show U X s1 I2 539 [some (.ref (lxb X)), some (rf g 0), some (rf g 92), some (.int (nI i))] [.int (gUndo x W P K).2.2.2.2, .int (gUndo x W P K).2.2.2.2]
  refine U_icmp_eq 989 dL_law_539 (by decide) (fun _ => ?_) (fun h => absurd rfl h)
  exact hnext s1 I2 A1 B1 _ _ (hC1.lo e5) hM2 hk (by omega) (by omega)
theorem law_known (X : LCx g Ln xs ak av) {i : Nat} {sg : SG} {I : IM} {A B : Nat} {x : XV} {tv : TV} {W : WV} {P K : SV} (hi : i + 5 ≤ Ln) (hC : CSt sg I A B x tv W P K) (hM : MSt sg I x tv W P K) (hS : STok x tv W P K) (n1 : sg.1 = 103) (n2 : sg.2.1 = 3519) (hnext : lwN X i) : U X sg I 544 [some (.ref (lxb X)), some (rf g 0), some (rf g 92), some (.int (nI i))] [] := by
  obtain ⟨hx, hd, hk⟩ := op_known (g := g) (h := xs (i + 1)) (w := xs (i + 2)) hS
  refine U_aload_n rfl dL_law_544 ?_
  refine U_aload_n rfl dL_law_545 ?_
  refine U_iload_n rfl dL_law_546 ?_
  refine U_iconst (nI 1) (by decide) dL_law_547 ?_
  refine U_iaddN dL_law_548 ?_
  refine U_sld (by omega) dL_law_549 ?_
  refine U_aload_n rfl dL_law_550 ?_
  refine U_iload_n rfl dL_law_551 ?_
  refine U_iconst (nI 2) (by decide) dL_law_552 ?_
  refine U_iaddN dL_law_553 ?_
  refine U_sld (by omega) dL_law_554 ?_
  refine U_callV 5 (hx sg I A B hC) hC.1.1 (by decide) rfl wl_L_73 ws_X5_known we_X5_known wi_X5 wc_X5_known wn_X5_known rfl ⟨by show sg.1 + 0 ≤ 600000; omega, by show sg.2.1 + 0 ≤ 7302250; omega⟩ (Nat.le_of_ble_eq_true rfl) dL_law_555 rfl (fun r s1 I1 hq => ?_)
  obtain ⟨rfl, e1, e2, e3, e4, A1, B1, hC1⟩ := hq
  have hM1 := hM.hi e1 e4
  show U X s1 I1 558 [some (.ref (lxb X)), some (rf g 0), some (rf g 92), some (.int (nI i))] [.int (fKnown tv W (xs (i + 1)) (xs (i + 2)))]
  refine U_aload_n rfl dL_law_558 ?_
  refine U_aload_n rfl dL_law_559 ?_
  refine U_iload_n rfl dL_law_560 ?_
  refine U_iconst (nI 1) (by decide) dL_law_561 ?_
  refine U_iaddN dL_law_562 ?_
  refine U_sld (by omega) dL_law_563 ?_
  refine U_aload_n rfl dL_law_564 ?_
  refine U_iload_n rfl dL_law_565 ?_
  refine U_iconst (nI 2) (by decide) dL_law_566 ?_
  refine U_iaddN dL_law_567 ?_
  refine U_sld (by omega) dL_law_568 ?_
  refine U_callV 6 (hd s1 I1 hM1) hM1.1.1 (by decide) rfl wl_L_76 ws_X6_known_ we_X6_known_ wi_X6 wc_X6_known_ wn_X6_known_ rfl ⟨by show s1.1 + 0 ≤ 600000; omega, by show s1.2.1 + 0 ≤ 7302250; omega⟩ (Nat.le_of_ble_eq_true rfl) dL_law_569 rfl (fun r s2 I2 hq => ?_)
  obtain ⟨rfl, hs2, hM2, e5⟩ := hq
  have hs2 := hs2.symm
  subst hs2
  show U X s1 I2 572 [some (.ref (lxb X)), some (rf g 0), some (rf g 92), some (.int (nI i))] [.int (fKnown tv W (xs (i + 1)) (xs (i + 2))), .int (fKnown tv W (xs (i + 1)) (xs (i + 2)))]
  refine U_icmp_eq 989 dL_law_572 (by decide) (fun _ => ?_) (fun h => absurd rfl h)
  exact hnext s1 I2 A1 B1 _ _ (hC1.lo e5) hM2 hk (by omega) (by omega)
theorem law_hands (X : LCx g Ln xs ak av) {i : Nat} {sg : SG} {I : IM} {A B : Nat} {x : XV} {tv : TV} {W : WV} {P K : SV} (hi : i + 5 ≤ Ln) (hC : CSt sg I A B x tv W P K) (hM : MSt sg I x tv W P K) (hS : STok x tv W P K) (n1 : sg.1 = 103) (n2 : sg.2.1 = 3519) (hnext : lwN X i) : U X sg I 577 [some (.ref (lxb X)), some (rf g 0), some (rf g 92), some (.int (nI i))] [] := by
  obtain ⟨hx, hd, hk⟩ := op_hands (g := g) (k := xs (i + 1)) hS
  refine U_aload_n rfl dL_law_577 ?_
  refine U_aload_n rfl dL_law_578 ?_
  refine U_iload_n rfl dL_law_579 ?_
  refine U_iconst (nI 1) (by decide) dL_law_580 ?_
  refine U_iaddN dL_law_581 ?_
  refine U_sld (by omega) dL_law_582 ?_
  refine U_callV 5 (hx sg I A B hC) hC.1.1 (by decide) rfl wl_L_77 ws_X5_hands we_X5_hands wi_X5 wc_X5_hands wn_X5_hands rfl ⟨by show sg.1 + 0 ≤ 600000; omega, by show sg.2.1 + 0 ≤ 7302250; omega⟩ (Nat.le_of_ble_eq_true rfl) dL_law_583 rfl (fun r s1 I1 hq => ?_)
  obtain ⟨rfl, e1, e2, e3, e4, A1, B1, hC1⟩ := hq
  have hM1 := hM.hi e1 e4
  show U X s1 I1 586 [some (.ref (lxb X)), some (rf g 0), some (rf g 92), some (.int (nI i))] [.int (fHands tv W (xs (i + 1)))]
  refine U_aload_n rfl dL_law_586 ?_
  refine U_aload_n rfl dL_law_587 ?_
  refine U_iload_n rfl dL_law_588 ?_
  refine U_iconst (nI 1) (by decide) dL_law_589 ?_
  refine U_iaddN dL_law_590 ?_
  refine U_sld (by omega) dL_law_591 ?_
  refine U_callV 6 (hd s1 I1 hM1) hM1.1.1 (by decide) rfl wl_L_80 ws_X6_hands we_X6_hands wi_X6 wc_X6_hands wn_X6_hands rfl ⟨by show s1.1 + 0 ≤ 600000; omega, by show s1.2.1 + 0 ≤ 7302250; omega⟩ (Nat.le_of_ble_eq_true rfl) dL_law_592 rfl (fun r s2 I2 hq => ?_)
  obtain ⟨rfl, hs2, hM2, e5⟩ := hq
  have hs2 := hs2.symm
  subst hs2
  show U X s1 I2 595 [some (.ref (lxb X)), some (rf g 0), some (rf g 92), some (.int (nI i))] [.int (fHands tv W (xs (i + 1))), .int (fHands tv W (xs (i + 1)))]
  refine U_icmp_eq 989 dL_law_595 (by decide) (fun _ => ?_) (fun h => absurd rfl h)
  exact hnext s1 I2 A1 B1 _ _ (hC1.lo e5) hM2 hk (by omega) (by omega)
theorem law_belief (X : LCx g Ln xs ak av) {i : Nat} {sg : SG} {I : IM} {A B : Nat} {x : XV} {tv : TV} {W : WV} {P K : SV} (hi : i + 5 ≤ Ln) (hC : CSt sg I A B x tv W P K) (hM : MSt sg I x tv W P K) (hS : STok x tv W P K) (n1 : sg.1 = 103) (n2 : sg.2.1 = 3519) (hnext : lwN X i) : U X sg I 600 [some (.ref (lxb X)), some (rf g 0), some (rf g 92), some (.int (nI i))] [] := by
  obtain ⟨hx, hd, hk⟩ := op_belief (g := g) (f := xs (i + 1)) (p := xs (i + 2)) hS
  refine U_aload_n rfl dL_law_600 ?_
  refine U_aload_n rfl dL_law_601 ?_
  refine U_iload_n rfl dL_law_602 ?_
  refine U_iconst (nI 1) (by decide) dL_law_603 ?_
  refine U_iaddN dL_law_604 ?_
  refine U_sld (by omega) dL_law_605 ?_
  refine U_aload_n rfl dL_law_606 ?_
  refine U_iload_n rfl dL_law_607 ?_
  refine U_iconst (nI 2) (by decide) dL_law_608 ?_
  refine U_iaddN dL_law_609 ?_
  refine U_sld (by omega) dL_law_610 ?_
  refine U_callV 5 (hx sg I A B hC) hC.1.1 (by decide) rfl wl_L_81 ws_X5_belief we_X5_belief wi_X5 wc_X5_belief wn_X5_belief rfl ⟨by show sg.1 + 0 ≤ 600000; omega, by show sg.2.1 + 0 ≤ 7302250; omega⟩ (Nat.le_of_ble_eq_true rfl) dL_law_611 rfl (fun r s1 I1 hq => ?_)
  obtain ⟨rfl, e1, e2, e3, e4, A1, B1, hC1⟩ := hq
  have hM1 := hM.hi e1 e4
  show U X s1 I1 614 [some (.ref (lxb X)), some (rf g 0), some (rf g 92), some (.int (nI i))] [.long (fBelief tv W (xs (i + 1)) (xs (i + 2)))]
  refine U_aload_n rfl dL_law_614 ?_
  refine U_aload_n rfl dL_law_615 ?_
  refine U_iload_n rfl dL_law_616 ?_
  refine U_iconst (nI 1) (by decide) dL_law_617 ?_
  refine U_iaddN dL_law_618 ?_
  refine U_sld (by omega) dL_law_619 ?_
  refine U_aload_n rfl dL_law_620 ?_
  refine U_iload_n rfl dL_law_621 ?_
  refine U_iconst (nI 2) (by decide) dL_law_622 ?_
  refine U_iaddN dL_law_623 ?_
  refine U_sld (by omega) dL_law_624 ?_
  refine U_callV 6 (hd s1 I1 hM1) hM1.1.1 (by decide) rfl wl_L_85 ws_X6_belief we_X6_belief wi_X6 wc_X6_belief wn_X6_belief rfl ⟨by show s1.1 + 0 ≤ 600000; omega, by show s1.2.1 + 0 ≤ 7302250; omega⟩ (Nat.le_of_ble_eq_true rfl) dL_law_625 rfl (fun r s2 I2 hq => ?_)
  obtain ⟨rfl, hs2, hM2, e5⟩ := hq
  have hs2 := hs2.symm
  subst hs2
  show U X s1 I2 628 [some (.ref (lxb X)), some (rf g 0), some (rf g 92), some (.int (nI i))] [.long (fBelief tv W (xs (i + 1)) (xs (i + 2))), .long (fBelief tv W (xs (i + 1)) (xs (i + 2)))]
  refine U_lcmp dL_law_628 ?_
  refine U_if_eq 989 dL_law_629 (by decide) (fun _ => ?_) (fun h => absurd (lg_self _) h)
  exact hnext s1 I2 A1 B1 _ _ (hC1.lo e5) hM2 hk (by omega) (by omega)
theorem law_least (X : LCx g Ln xs ak av) {i : Nat} {sg : SG} {I : IM} {A B : Nat} {x : XV} {tv : TV} {W : WV} {P K : SV} (hi : i + 5 ≤ Ln) (hC : CSt sg I A B x tv W P K) (hM : MSt sg I x tv W P K) (hS : STok x tv W P K) (n1 : sg.1 = 103) (n2 : sg.2.1 = 3519) (hnext : lwN X i) : U X sg I 634 [some (.ref (lxb X)), some (rf g 0), some (rf g 92), some (.int (nI i))] [] := by
  obtain ⟨hx, hd, hk⟩ := op_least (g := g) (s := xs (i + 1)) hS
  refine U_aload_n rfl dL_law_634 ?_
  refine U_aload_n rfl dL_law_635 ?_
  refine U_iload_n rfl dL_law_636 ?_
  refine U_iconst (nI 1) (by decide) dL_law_637 ?_
  refine U_iaddN dL_law_638 ?_
  refine U_sld (by omega) dL_law_639 ?_
  refine U_callV 5 (hx sg I A B hC) hC.1.1 (by decide) rfl wl_L_86 ws_X5_least we_X5_least wi_X5 wc_X5_least wn_X5_least rfl ⟨by show sg.1 + 0 ≤ 600000; omega, by show sg.2.1 + 0 ≤ 7302250; omega⟩ (Nat.le_of_ble_eq_true rfl) dL_law_640 rfl (fun r s1 I1 hq => ?_)
  obtain ⟨rfl, e1, e2, e3, e4, A1, B1, hC1⟩ := hq
  have hM1 := hM.hi e1 e4
  show U X s1 I1 643 [some (.ref (lxb X)), some (rf g 0), some (rf g 92), some (.int (nI i))] [.int (fLeast tv W (xs (i + 1)))]
  refine U_aload_n rfl dL_law_643 ?_
  refine U_aload_n rfl dL_law_644 ?_
  refine U_iload_n rfl dL_law_645 ?_
  refine U_iconst (nI 1) (by decide) dL_law_646 ?_
  refine U_iaddN dL_law_647 ?_
  refine U_sld (by omega) dL_law_648 ?_
  refine U_callV 6 (hd s1 I1 hM1) hM1.1.1 (by decide) rfl wl_L_89 ws_X6_least we_X6_least wi_X6 wc_X6_least wn_X6_least rfl ⟨by show s1.1 + 0 ≤ 600000; omega, by show s1.2.1 + 0 ≤ 7302250; omega⟩ (Nat.le_of_ble_eq_true rfl) dL_law_649 rfl (fun r s2 I2 hq => ?_)
  obtain ⟨rfl, hs2, hM2, e5⟩ := hq
  have hs2 := hs2.symm
  subst hs2
  show U X s1 I2 652 [some (.ref (lxb X)), some (rf g 0), some (rf g 92), some (.int (nI i))] [.int (fLeast tv W (xs (i + 1))), .int (fLeast tv W (xs (i + 1)))]
  refine U_icmp_eq 989 dL_law_652 (by decide) (fun _ => ?_) (fun h => absurd rfl h)
  exact hnext s1 I2 A1 B1 _ _ (hC1.lo e5) hM2 hk (by omega) (by omega)
theorem law_soonest (X : LCx g Ln xs ak av) {i : Nat} {sg : SG} {I : IM} {A B : Nat} {x : XV} {tv : TV} {W : WV} {P K : SV} (hi : i + 5 ≤ Ln) (hC : CSt sg I A B x tv W P K) (hM : MSt sg I x tv W P K) (hS : STok x tv W P K) (n1 : sg.1 = 103) (n2 : sg.2.1 = 3519) (hnext : lwN X i) : U X sg I 657 [some (.ref (lxb X)), some (rf g 0), some (rf g 92), some (.int (nI i))] [] := by
  obtain ⟨hx, hd, hk⟩ := op_soonest (g := g) (s := xs (i + 1)) hS
  refine U_aload_n rfl dL_law_657 ?_
  refine U_aload_n rfl dL_law_658 ?_
  refine U_iload_n rfl dL_law_659 ?_
  refine U_iconst (nI 1) (by decide) dL_law_660 ?_
  refine U_iaddN dL_law_661 ?_
  refine U_sld (by omega) dL_law_662 ?_
  refine U_callV 5 (hx sg I A B hC) hC.1.1 (by decide) rfl wl_L_90 ws_X5_soonest we_X5_soonest wi_X5 wc_X5_soonest wn_X5_soonest rfl ⟨by show sg.1 + 0 ≤ 600000; omega, by show sg.2.1 + 0 ≤ 7302250; omega⟩ (Nat.le_of_ble_eq_true rfl) dL_law_663 rfl (fun r s1 I1 hq => ?_)
  obtain ⟨rfl, e1, e2, e3, e4, A1, B1, hC1⟩ := hq
  have hM1 := hM.hi e1 e4
  show U X s1 I1 666 [some (.ref (lxb X)), some (rf g 0), some (rf g 92), some (.int (nI i))] [.int (fSoonest tv W (xs (i + 1)))]
  refine U_aload_n rfl dL_law_666 ?_
  refine U_aload_n rfl dL_law_667 ?_
  refine U_iload_n rfl dL_law_668 ?_
  refine U_iconst (nI 1) (by decide) dL_law_669 ?_
  refine U_iaddN dL_law_670 ?_
  refine U_sld (by omega) dL_law_671 ?_
  refine U_callV 6 (hd s1 I1 hM1) hM1.1.1 (by decide) rfl wl_L_93 ws_X6_soonest we_X6_soonest wi_X6 wc_X6_soonest wn_X6_soonest rfl ⟨by show s1.1 + 0 ≤ 600000; omega, by show s1.2.1 + 0 ≤ 7302250; omega⟩ (Nat.le_of_ble_eq_true rfl) dL_law_672 rfl (fun r s2 I2 hq => ?_)
  obtain ⟨rfl, hs2, hM2, e5⟩ := hq
  have hs2 := hs2.symm
  subst hs2
  show U X s1 I2 675 [some (.ref (lxb X)), some (rf g 0), some (rf g 92), some (.int (nI i))] [.int (fSoonest tv W (xs (i + 1))), .int (fSoonest tv W (xs (i + 1)))]
  refine U_icmp_eq 989 dL_law_675 (by decide) (fun _ => ?_) (fun h => absurd rfl h)
  exact hnext s1 I2 A1 B1 _ _ (hC1.lo e5) hM2 hk (by omega) (by omega)
theorem law_lie (X : LCx g Ln xs ak av) {i : Nat} {sg : SG} {I : IM} {A B : Nat} {x : XV} {tv : TV} {W : WV} {P K : SV} (hi : i + 5 ≤ Ln) (hC : CSt sg I A B x tv W P K) (hM : MSt sg I x tv W P K) (hS : STok x tv W P K) (n1 : sg.1 = 103) (n2 : sg.2.1 = 3519) (hnext : lwN X i) : U X sg I 680 [some (.ref (lxb X)), some (rf g 0), some (rf g 92), some (.int (nI i))] [] := by
  obtain ⟨hx, hd, hk⟩ := op_lie (g := g) (i := xs (i + 1)) (h := xs (i + 2)) (w := xs (i + 3)) hS
  refine U_aload_n rfl dL_law_680 ?_
  refine U_aload_n rfl dL_law_681 ?_
  refine U_iload_n rfl dL_law_682 ?_
  refine U_iconst (nI 1) (by decide) dL_law_683 ?_
  refine U_iaddN dL_law_684 ?_
  refine U_sld (by omega) dL_law_685 ?_
  refine U_aload_n rfl dL_law_686 ?_
  refine U_iload_n rfl dL_law_687 ?_
  refine U_iconst (nI 2) (by decide) dL_law_688 ?_
  refine U_iaddN dL_law_689 ?_
  refine U_sld (by omega) dL_law_690 ?_
  refine U_aload_n rfl dL_law_691 ?_
  refine U_iload_n rfl dL_law_692 ?_
  refine U_iconst (nI 3) (by decide) dL_law_693 ?_
  refine U_iaddN dL_law_694 ?_
  refine U_sld (by omega) dL_law_695 ?_
  refine U_callV 5 (hx sg I A B hC) hC.1.1 (by decide) rfl wl_L_94 ws_X5_lie we_X5_lie wi_X5 wc_X5_lie wn_X5_lie rfl ⟨by show sg.1 + 0 ≤ 600000; omega, by show sg.2.1 + 0 ≤ 7302250; omega⟩ (Nat.le_of_ble_eq_true rfl) dL_law_696 rfl (fun r s1 I1 hq => ?_)
  obtain ⟨rfl, e1, e2, e3, e4, A1, B1, hC1⟩ := hq
  have hM1 := hM.hi e1 e4
  show U X s1 I1 699 [some (.ref (lxb X)), some (rf g 0), some (rf g 92), some (.int (nI i))] [.int (fLie tv W (xs (i + 1)) (xs (i + 2)) (xs (i + 3)))]
  refine U_aload_n rfl dL_law_699 ?_
  refine U_aload_n rfl dL_law_700 ?_
  refine U_iload_n rfl dL_law_701 ?_
  refine U_iconst (nI 1) (by decide) dL_law_702 ?_
  refine U_iaddN dL_law_703 ?_
  refine U_sld (by omega) dL_law_704 ?_
  refine U_aload_n rfl dL_law_705 ?_
  refine U_iload_n rfl dL_law_706 ?_
  refine U_iconst (nI 2) (by decide) dL_law_707 ?_
  refine U_iaddN dL_law_708 ?_
  refine U_sld (by omega) dL_law_709 ?_
  refine U_aload_n rfl dL_law_710 ?_
  refine U_iload_n rfl dL_law_711 ?_
  refine U_iconst (nI 3) (by decide) dL_law_712 ?_
  refine U_iaddN dL_law_713 ?_
  refine U_sld (by omega) dL_law_714 ?_
  refine U_callV 6 (hd s1 I1 hM1) hM1.1.1 (by decide) rfl wl_L_98 ws_X6_lie we_X6_lie wi_X6 wc_X6_lie wn_X6_lie rfl ⟨by show s1.1 + 0 ≤ 600000; omega, by show s1.2.1 + 0 ≤ 7302250; omega⟩ (Nat.le_of_ble_eq_true rfl) dL_law_715 rfl (fun r s2 I2 hq => ?_)
  obtain ⟨rfl, hs2, hM2, e5⟩ := hq
  have hs2 := hs2.symm
  subst hs2
  show U X s1 I2 718 [some (.ref (lxb X)), some (rf g 0), some (rf g 92), some (.int (nI i))] [.int (fLie tv W (xs (i + 1)) (xs (i + 2)) (xs (i + 3))), .int (fLie tv W (xs (i + 1)) (xs (i + 2)) (xs (i + 3)))]
  refine U_icmp_eq 989 dL_law_718 (by decide) (fun _ => ?_) (fun h => absurd rfl h)
  exact hnext s1 I2 A1 B1 _ _ (hC1.lo e5) hM2 hk (by omega) (by omega)
theorem law_safe (X : LCx g Ln xs ak av) {i : Nat} {sg : SG} {I : IM} {A B : Nat} {x : XV} {tv : TV} {W : WV} {P K : SV} (hi : i + 5 ≤ Ln) (hC : CSt sg I A B x tv W P K) (hM : MSt sg I x tv W P K) (hS : STok x tv W P K) (n1 : sg.1 = 103) (n2 : sg.2.1 = 3519) (hnext : lwN X i) : U X sg I 723 [some (.ref (lxb X)), some (rf g 0), some (rf g 92), some (.int (nI i))] [] := by
  obtain ⟨hx, hd, hk⟩ := op_safe (g := g) (h := xs (i + 1)) hS
  refine U_aload_n rfl dL_law_723 ?_
  refine U_aload_n rfl dL_law_724 ?_
  refine U_iload_n rfl dL_law_725 ?_
  refine U_iconst (nI 1) (by decide) dL_law_726 ?_
  refine U_iaddN dL_law_727 ?_
  refine U_sld (by omega) dL_law_728 ?_
  refine U_callV 5 (hx sg I A B hC) hC.1.1 (by decide) rfl wl_L_99 ws_X5_safe we_X5_safe wi_X5 wc_X5_safe wn_X5_safe rfl ⟨by show sg.1 + 0 ≤ 600000; omega, by show sg.2.1 + 0 ≤ 7302250; omega⟩ (Nat.le_of_ble_eq_true rfl) dL_law_729 rfl (fun r s1 I1 hq => ?_)
  obtain ⟨rfl, e1, e2, e3, e4, A1, B1, hC1⟩ := hq
  have hM1 := hM.hi e1 e4
  show U X s1 I1 732 [some (.ref (lxb X)), some (rf g 0), some (rf g 92), some (.int (nI i))] [.int (fSafe tv W (xs (i + 1)))]
  refine U_aload_n rfl dL_law_732 ?_
  refine U_aload_n rfl dL_law_733 ?_
  refine U_iload_n rfl dL_law_734 ?_
  refine U_iconst (nI 1) (by decide) dL_law_735 ?_
  refine U_iaddN dL_law_736 ?_
  refine U_sld (by omega) dL_law_737 ?_
  refine U_callV 6 (hd s1 I1 hM1) hM1.1.1 (by decide) rfl wl_L_102 ws_X6_safe we_X6_safe wi_X6 wc_X6_safe wn_X6_safe rfl ⟨by show s1.1 + 0 ≤ 600000; omega, by show s1.2.1 + 0 ≤ 7302250; omega⟩ (Nat.le_of_ble_eq_true rfl) dL_law_738 rfl (fun r s2 I2 hq => ?_)
  obtain ⟨rfl, hs2, hM2, e5⟩ := hq
  have hs2 := hs2.symm
  subst hs2
  show U X s1 I2 741 [some (.ref (lxb X)), some (rf g 0), some (rf g 92), some (.int (nI i))] [.int (fSafe tv W (xs (i + 1))), .int (fSafe tv W (xs (i + 1)))]
  refine U_icmp_eq 989 dL_law_741 (by decide) (fun _ => ?_) (fun h => absurd rfl h)
  exact hnext s1 I2 A1 B1 _ _ (hC1.lo e5) hM2 hk (by omega) (by omega)
theorem law_clash (X : LCx g Ln xs ak av) {i : Nat} {sg : SG} {I : IM} {A B : Nat} {x : XV} {tv : TV} {W : WV} {P K : SV} (hi : i + 5 ≤ Ln) (hC : CSt sg I A B x tv W P K) (hM : MSt sg I x tv W P K) (hS : STok x tv W P K) (n1 : sg.1 = 103) (n2 : sg.2.1 = 3519) (hnext : lwN X i) : U X sg I 746 [some (.ref (lxb X)), some (rf g 0), some (rf g 92), some (.int (nI i))] [] := by
  obtain ⟨hx, hd, hk⟩ := op_clash (g := g)  hS
  refine U_aload_n rfl dL_law_746 ?_
  refine U_callV 5 (hx sg I A B hC) hC.1.1 (by decide) rfl wl_L_103 ws_X5_clash we_X5_clash wi_X5 wc_X5_clash wn_X5_clash rfl ⟨by show sg.1 + 0 ≤ 600000; omega, by show sg.2.1 + 0 ≤ 7302250; omega⟩ (Nat.le_of_ble_eq_true rfl) dL_law_747 rfl (fun r s1 I1 hq => ?_)
  obtain ⟨rfl, e1, e2, e3, e4, A1, B1, hC1⟩ := hq
  have hM1 := hM.hi e1 e4
  show U X s1 I1 750 [some (.ref (lxb X)), some (rf g 0), some (rf g 92), some (.int (nI i))] [.int (fClash tv W)]
  refine U_aload_n rfl dL_law_750 ?_
  refine U_callV 6 (hd s1 I1 hM1) hM1.1.1 (by decide) rfl wl_L_106 ws_X6_clash we_X6_clash wi_X6 wc_X6_clash wn_X6_clash rfl ⟨by show s1.1 + 0 ≤ 600000; omega, by show s1.2.1 + 0 ≤ 7302250; omega⟩ (Nat.le_of_ble_eq_true rfl) dL_law_751 rfl (fun r s2 I2 hq => ?_)
  obtain ⟨rfl, hs2, hM2, e5⟩ := hq
  have hs2 := hs2.symm
  subst hs2
  show U X s1 I2 754 [some (.ref (lxb X)), some (rf g 0), some (rf g 92), some (.int (nI i))] [.int (fClash tv W), .int (fClash tv W)]
  refine U_icmp_eq 989 dL_law_754 (by decide) (fun _ => ?_) (fun h => absurd rfl h)
  exact hnext s1 I2 A1 B1 _ _ (hC1.lo e5) hM2 hk (by omega) (by omega)
theorem law_stand (X : LCx g Ln xs ak av) {i : Nat} {sg : SG} {I : IM} {A B : Nat} {x : XV} {tv : TV} {W : WV} {P K : SV} (hi : i + 5 ≤ Ln) (hC : CSt sg I A B x tv W P K) (hM : MSt sg I x tv W P K) (hS : STok x tv W P K) (n1 : sg.1 = 103) (n2 : sg.2.1 = 3519) (hnext : lwN X i) : U X sg I 759 [some (.ref (lxb X)), some (rf g 0), some (rf g 92), some (.int (nI i))] [] := by
  obtain ⟨hx, hd, hk⟩ := op_stand (g := g) (w := xs (i + 1)) hS
  refine U_aload_n rfl dL_law_759 ?_
  refine U_aload_n rfl dL_law_760 ?_
  refine U_iload_n rfl dL_law_761 ?_
  refine U_iconst (nI 1) (by decide) dL_law_762 ?_
  refine U_iaddN dL_law_763 ?_
  refine U_sld (by omega) dL_law_764 ?_
  refine U_callV 5 (hx sg I A B hC) hC.1.1 (by decide) rfl wl_L_107 ws_X5_stand we_X5_stand wi_X5 wc_X5_stand wn_X5_stand rfl ⟨by show sg.1 + 0 ≤ 600000; omega, by show sg.2.1 + 0 ≤ 7302250; omega⟩ (Nat.le_of_ble_eq_true rfl) dL_law_765 rfl (fun r s1 I1 hq => ?_)
  obtain ⟨rfl, e1, e2, e3, e4, A1, B1, hC1⟩ := hq
  have hM1 := hM.hi e1 e4
  show U X s1 I1 768 [some (.ref (lxb X)), some (rf g 0), some (rf g 92), some (.int (nI i))] [.int (fStand tv W (xs (i + 1)))]
  refine U_aload_n rfl dL_law_768 ?_
  refine U_aload_n rfl dL_law_769 ?_
  refine U_iload_n rfl dL_law_770 ?_
  refine U_iconst (nI 1) (by decide) dL_law_771 ?_
  refine U_iaddN dL_law_772 ?_
  refine U_sld (by omega) dL_law_773 ?_
  refine U_callV 6 (hd s1 I1 hM1) hM1.1.1 (by decide) rfl wl_L_110 ws_X6_stand we_X6_stand wi_X6 wc_X6_stand wn_X6_stand rfl ⟨by show s1.1 + 0 ≤ 600000; omega, by show s1.2.1 + 0 ≤ 7302250; omega⟩ (Nat.le_of_ble_eq_true rfl) dL_law_774 rfl (fun r s2 I2 hq => ?_)
  obtain ⟨rfl, hs2, hM2, e5⟩ := hq
  have hs2 := hs2.symm
  subst hs2
  show U X s1 I2 777 [some (.ref (lxb X)), some (rf g 0), some (rf g 92), some (.int (nI i))] [.int (fStand tv W (xs (i + 1))), .int (fStand tv W (xs (i + 1)))]
  refine U_icmp_eq 989 dL_law_777 (by decide) (fun _ => ?_) (fun h => absurd rfl h)
  exact hnext s1 I2 A1 B1 _ _ (hC1.lo e5) hM2 hk (by omega) (by omega)
theorem law_was (X : LCx g Ln xs ak av) {i : Nat} {sg : SG} {I : IM} {A B : Nat} {x : XV} {tv : TV} {W : WV} {P K : SV} (hi : i + 5 ≤ Ln) (hC : CSt sg I A B x tv W P K) (hM : MSt sg I x tv W P K) (hS : STok x tv W P K) (n1 : sg.1 = 103) (n2 : sg.2.1 = 3519) (hnext : lwN X i) : U X sg I 782 [some (.ref (lxb X)), some (rf g 0), some (rf g 92), some (.int (nI i))] [] := by
  obtain ⟨hx, hd, hk⟩ := op_was (g := g) (v := xs (i + 1)) hS
  refine U_aload_n rfl dL_law_782 ?_
  refine U_aload_n rfl dL_law_783 ?_
  refine U_iload_n rfl dL_law_784 ?_
  refine U_iconst (nI 1) (by decide) dL_law_785 ?_
  refine U_iaddN dL_law_786 ?_
  refine U_sld (by omega) dL_law_787 ?_
  refine U_callV 5 (hx sg I A B hC) hC.1.1 (by decide) rfl wl_L_111 ws_X5_was we_X5_was wi_X5 wc_X5_was wn_X5_was rfl ⟨by show sg.1 + 0 ≤ 600000; omega, by show sg.2.1 + 0 ≤ 7302250; omega⟩ (Nat.le_of_ble_eq_true rfl) dL_law_788 rfl (fun r s1 I1 hq => ?_)
  obtain ⟨rfl, e1, e2, e3, e4, A1, B1, hC1⟩ := hq
  have hM1 := hM.hi e1 e4
  show U X s1 I1 791 [some (.ref (lxb X)), some (rf g 0), some (rf g 92), some (.int (nI i))] [.int (fWas tv W (xs (i + 1)))]
  refine U_aload_n rfl dL_law_791 ?_
  refine U_aload_n rfl dL_law_792 ?_
  refine U_iload_n rfl dL_law_793 ?_
  refine U_iconst (nI 1) (by decide) dL_law_794 ?_
  refine U_iaddN dL_law_795 ?_
  refine U_sld (by omega) dL_law_796 ?_
  refine U_callV 6 (hd s1 I1 hM1) hM1.1.1 (by decide) rfl wl_L_114 ws_X6_was we_X6_was wi_X6 wc_X6_was wn_X6_was rfl ⟨by show s1.1 + 0 ≤ 600000; omega, by show s1.2.1 + 0 ≤ 7302250; omega⟩ (Nat.le_of_ble_eq_true rfl) dL_law_797 rfl (fun r s2 I2 hq => ?_)
  obtain ⟨rfl, hs2, hM2, e5⟩ := hq
  have hs2 := hs2.symm
  subst hs2
  show U X s1 I2 800 [some (.ref (lxb X)), some (rf g 0), some (rf g 92), some (.int (nI i))] [.int (fWas tv W (xs (i + 1))), .int (fWas tv W (xs (i + 1)))]
  refine U_icmp_eq 989 dL_law_800 (by decide) (fun _ => ?_) (fun h => absurd rfl h)
  exact hnext s1 I2 A1 B1 _ _ (hC1.lo e5) hM2 hk (by omega) (by omega)
theorem law_missed (X : LCx g Ln xs ak av) {i : Nat} {sg : SG} {I : IM} {A B : Nat} {x : XV} {tv : TV} {W : WV} {P K : SV} (hi : i + 5 ≤ Ln) (hC : CSt sg I A B x tv W P K) (hM : MSt sg I x tv W P K) (hS : STok x tv W P K) (n1 : sg.1 = 103) (n2 : sg.2.1 = 3519) (hnext : lwN X i) : U X sg I 805 [some (.ref (lxb X)), some (rf g 0), some (rf g 92), some (.int (nI i))] [] := by
  obtain ⟨hx, hd, hk⟩ := op_missed (g := g)  hS
  refine U_aload_n rfl dL_law_805 ?_
  refine U_callV 5 (hx sg I A B hC) hC.1.1 (by decide) rfl wl_L_115 ws_X5_missed we_X5_missed wi_X5 wc_X5_missed wn_X5_missed rfl ⟨by show sg.1 + 0 ≤ 600000; omega, by show sg.2.1 + 0 ≤ 7302250; omega⟩ (Nat.le_of_ble_eq_true rfl) dL_law_806 rfl (fun r s1 I1 hq => ?_)
  obtain ⟨rfl, e1, e2, e3, e4, A1, B1, hC1⟩ := hq
  have hM1 := hM.hi e1 e4
  show U X s1 I1 809 [some (.ref (lxb X)), some (rf g 0), some (rf g 92), some (.int (nI i))] [.int (fMissed tv W)]
  refine U_aload_n rfl dL_law_809 ?_
  refine U_callV 6 (hd s1 I1 hM1) hM1.1.1 (by decide) rfl wl_L_118 ws_X6_missed we_X6_missed wi_X6 wc_X6_missed wn_X6_missed rfl ⟨by show s1.1 + 0 ≤ 600000; omega, by show s1.2.1 + 0 ≤ 7302250; omega⟩ (Nat.le_of_ble_eq_true rfl) dL_law_810 rfl (fun r s2 I2 hq => ?_)
  obtain ⟨rfl, hs2, hM2, e5⟩ := hq
  have hs2 := hs2.symm
  subst hs2
  show U X s1 I2 813 [some (.ref (lxb X)), some (rf g 0), some (rf g 92), some (.int (nI i))] [.int (fMissed tv W), .int (fMissed tv W)]
  refine U_icmp_eq 989 dL_law_813 (by decide) (fun _ => ?_) (fun h => absurd rfl h)
  exact hnext s1 I2 A1 B1 _ _ (hC1.lo e5) hM2 hk (by omega) (by omega)
theorem law_sale (X : LCx g Ln xs ak av) {i : Nat} {sg : SG} {I : IM} {A B : Nat} {x : XV} {tv : TV} {W : WV} {P K : SV} (hi : i + 5 ≤ Ln) (hC : CSt sg I A B x tv W P K) (hM : MSt sg I x tv W P K) (hS : STok x tv W P K) (n1 : sg.1 = 103) (n2 : sg.2.1 = 3519) (hnext : lwN X i) : U X sg I 818 [some (.ref (lxb X)), some (rf g 0), some (rf g 92), some (.int (nI i))] [] := by
  obtain ⟨hx, hd, hk⟩ := op_sale (g := g) (n := xs (i + 1)) (b := xs (i + 2)) hS
  refine U_aload_n rfl dL_law_818 ?_
  refine U_aload_n rfl dL_law_819 ?_
  refine U_iload_n rfl dL_law_820 ?_
  refine U_iconst (nI 1) (by decide) dL_law_821 ?_
  refine U_iaddN dL_law_822 ?_
  refine U_sld (by omega) dL_law_823 ?_
  refine U_aload_n rfl dL_law_824 ?_
  refine U_iload_n rfl dL_law_825 ?_
  refine U_iconst (nI 2) (by decide) dL_law_826 ?_
  refine U_iaddN dL_law_827 ?_
  refine U_sld (by omega) dL_law_828 ?_
  refine U_callV 5 (hx sg I A B hC) hC.1.1 (by decide) rfl wl_L_119 ws_X5_sale we_X5_sale wi_X5 wc_X5_sale wn_X5_sale rfl ⟨by show sg.1 + 0 ≤ 600000; omega, by show sg.2.1 + 0 ≤ 7302250; omega⟩ (Nat.le_of_ble_eq_true rfl) dL_law_829 rfl (fun r s1 I1 hq => ?_)
  obtain ⟨rfl, e1, e2, e3, e4, A1, B1, hC1⟩ := hq
  have hM1 := hM.hi e1 e4
  show U X s1 I1 832 [some (.ref (lxb X)), some (rf g 0), some (rf g 92), some (.int (nI i))] [.int (fSale tv (xs (i + 1)) (xs (i + 2)))]
  refine U_aload_n rfl dL_law_832 ?_
  refine U_aload_n rfl dL_law_833 ?_
  refine U_iload_n rfl dL_law_834 ?_
  refine U_iconst (nI 1) (by decide) dL_law_835 ?_
  refine U_iaddN dL_law_836 ?_
  refine U_sld (by omega) dL_law_837 ?_
  refine U_aload_n rfl dL_law_838 ?_
  refine U_iload_n rfl dL_law_839 ?_
  refine U_iconst (nI 2) (by decide) dL_law_840 ?_
  refine U_iaddN dL_law_841 ?_
  refine U_sld (by omega) dL_law_842 ?_
  refine U_callV 6 (hd s1 I1 hM1) hM1.1.1 (by decide) rfl wl_L_122 ws_X6_sale we_X6_sale wi_X6 wc_X6_sale wn_X6_sale rfl ⟨by show s1.1 + 0 ≤ 600000; omega, by show s1.2.1 + 0 ≤ 7302250; omega⟩ (Nat.le_of_ble_eq_true rfl) dL_law_843 rfl (fun r s2 I2 hq => ?_)
  obtain ⟨rfl, hs2, hM2, e5⟩ := hq
  have hs2 := hs2.symm
  subst hs2
  show U X s1 I2 846 [some (.ref (lxb X)), some (rf g 0), some (rf g 92), some (.int (nI i))] [.int (fSale tv (xs (i + 1)) (xs (i + 2))), .int (fSale tv (xs (i + 1)) (xs (i + 2)))]
  refine U_icmp_eq 989 dL_law_846 (by decide) (fun _ => ?_) (fun h => absurd rfl h)
  exact hnext s1 I2 A1 B1 _ _ (hC1.lo e5) hM2 hk (by omega) (by omega)
theorem law_worth (X : LCx g Ln xs ak av) {i : Nat} {sg : SG} {I : IM} {A B : Nat} {x : XV} {tv : TV} {W : WV} {P K : SV} (hi : i + 5 ≤ Ln) (hC : CSt sg I A B x tv W P K) (hM : MSt sg I x tv W P K) (hS : STok x tv W P K) (n1 : sg.1 = 103) (n2 : sg.2.1 = 3519) (hnext : lwN X i) : U X sg I 851 [some (.ref (lxb X)), some (rf g 0), some (rf g 92), some (.int (nI i))] [] := by
  obtain ⟨hx, hd, hk⟩ := op_worth (g := g)  hS
  refine U_aload_n rfl dL_law_851 ?_
  refine U_callV 5 (hx sg I A B hC) hC.1.1 (by decide) rfl wl_L_123 ws_X5_worth we_X5_worth wi_X5 wc_X5_worth wn_X5_worth rfl ⟨by show sg.1 + 0 ≤ 600000; omega, by show sg.2.1 + 0 ≤ 7302250; omega⟩ (Nat.le_of_ble_eq_true rfl) dL_law_852 rfl (fun r s1 I1 hq => ?_)
  obtain ⟨rfl, e1, e2, e3, e4, A1, B1, hC1⟩ := hq
  have hM1 := hM.hi e1 e4
  show U X s1 I1 855 [some (.ref (lxb X)), some (rf g 0), some (rf g 92), some (.int (nI i))] [.int (fWorth tv W)]
  refine U_aload_n rfl dL_law_855 ?_
  refine U_callV 6 (hd s1 I1 hM1) hM1.1.1 (by decide) rfl wl_L_126 ws_X6_worth we_X6_worth wi_X6 wc_X6_worth wn_X6_worth rfl ⟨by show s1.1 + 0 ≤ 600000; omega, by show s1.2.1 + 0 ≤ 7302250; omega⟩ (Nat.le_of_ble_eq_true rfl) dL_law_856 rfl (fun r s2 I2 hq => ?_)
  obtain ⟨rfl, hs2, hM2, e5⟩ := hq
  have hs2 := hs2.symm
  subst hs2
  show U X s1 I2 859 [some (.ref (lxb X)), some (rf g 0), some (rf g 92), some (.int (nI i))] [.int (fWorth tv W), .int (fWorth tv W)]
  refine U_icmp_eq 989 dL_law_859 (by decide) (fun _ => ?_) (fun h => absurd rfl h)
  exact hnext s1 I2 A1 B1 _ _ (hC1.lo e5) hM2 hk (by omega) (by omega)
theorem law_two (X : LCx g Ln xs ak av) {i : Nat} {sg : SG} {I : IM} {A B : Nat} {x : XV} {tv : TV} {W : WV} {P K : SV} (hi : i + 5 ≤ Ln) (hC : CSt sg I A B x tv W P K) (hM : MSt sg I x tv W P K) (hS : STok x tv W P K) (n1 : sg.1 = 103) (n2 : sg.2.1 = 3519) (hnext : lwN X i) : U X sg I 864 [some (.ref (lxb X)), some (rf g 0), some (rf g 92), some (.int (nI i))] [] := by
  obtain ⟨hx, hd, hk⟩ := op_two (g := g) (a := xs (i + 1)) (b := xs (i + 2)) hS
  refine U_aload_n rfl dL_law_864 ?_
  refine U_aload_n rfl dL_law_865 ?_
  refine U_iload_n rfl dL_law_866 ?_
  refine U_iconst (nI 1) (by decide) dL_law_867 ?_
  refine U_iaddN dL_law_868 ?_
  refine U_sld (by omega) dL_law_869 ?_
  refine U_aload_n rfl dL_law_870 ?_
  refine U_iload_n rfl dL_law_871 ?_
  refine U_iconst (nI 2) (by decide) dL_law_872 ?_
  refine U_iaddN dL_law_873 ?_
  refine U_sld (by omega) dL_law_874 ?_
  refine U_callV 5 (hx sg I A B hC) hC.1.1 (by decide) rfl wl_L_127 ws_X5_two we_X5_two wi_X5 wc_X5_two wn_X5_two rfl ⟨by show sg.1 + 0 ≤ 600000; omega, by show sg.2.1 + 0 ≤ 7302250; omega⟩ (Nat.le_of_ble_eq_true rfl) dL_law_875 rfl (fun r s1 I1 hq => ?_)
  obtain ⟨rfl, e1, e2, e3, e4, A1, B1, hC1⟩ := hq
  have hM1 := hM.hi e1 e4
  show U X s1 I1 878 [some (.ref (lxb X)), some (rf g 0), some (rf g 92), some (.int (nI i))] [.int (fTwo tv W (xs (i + 1)) (xs (i + 2)))]
  refine U_aload_n rfl dL_law_878 ?_
  refine U_aload_n rfl dL_law_879 ?_
  refine U_iload_n rfl dL_law_880 ?_
  refine U_iconst (nI 1) (by decide) dL_law_881 ?_
  refine U_iaddN dL_law_882 ?_
  refine U_sld (by omega) dL_law_883 ?_
  refine U_aload_n rfl dL_law_884 ?_
  refine U_iload_n rfl dL_law_885 ?_
  refine U_iconst (nI 2) (by decide) dL_law_886 ?_
  refine U_iaddN dL_law_887 ?_
  refine U_sld (by omega) dL_law_888 ?_
  refine U_callV 6 (hd s1 I1 hM1) hM1.1.1 (by decide) rfl wl_L_130 ws_X6_two we_X6_two wi_X6 wc_X6_two wn_X6_two rfl ⟨by show s1.1 + 0 ≤ 600000; omega, by show s1.2.1 + 0 ≤ 7302250; omega⟩ (Nat.le_of_ble_eq_true rfl) dL_law_889 rfl (fun r s2 I2 hq => ?_)
  obtain ⟨rfl, hs2, hM2, e5⟩ := hq
  have hs2 := hs2.symm
  subst hs2
  show U X s1 I2 892 [some (.ref (lxb X)), some (rf g 0), some (rf g 92), some (.int (nI i))] [.int (fTwo tv W (xs (i + 1)) (xs (i + 2))), .int (fTwo tv W (xs (i + 1)) (xs (i + 2)))]
  refine U_icmp_eq 989 dL_law_892 (by decide) (fun _ => ?_) (fun h => absurd rfl h)
  exact hnext s1 I2 A1 B1 _ _ (hC1.lo e5) hM2 hk (by omega) (by omega)
theorem law_year (X : LCx g Ln xs ak av) {i : Nat} {sg : SG} {I : IM} {A B : Nat} {x : XV} {tv : TV} {W : WV} {P K : SV} (hi : i + 5 ≤ Ln) (hC : CSt sg I A B x tv W P K) (hM : MSt sg I x tv W P K) (hS : STok x tv W P K) (n1 : sg.1 = 103) (n2 : sg.2.1 = 3519) (hnext : lwN X i) : U X sg I 897 [some (.ref (lxb X)), some (rf g 0), some (rf g 92), some (.int (nI i))] [] := by
  obtain ⟨hx, hd, hk⟩ := op_year (g := g) (z := xs (i + 1)) (n := xs (i + 2)) (w := xs (i + 3)) hS
  refine U_aload_n rfl dL_law_897 ?_
  refine U_aload_n rfl dL_law_898 ?_
  refine U_iload_n rfl dL_law_899 ?_
  refine U_iconst (nI 1) (by decide) dL_law_900 ?_
  refine U_iaddN dL_law_901 ?_
  refine U_sld (by omega) dL_law_902 ?_
  refine U_aload_n rfl dL_law_903 ?_
  refine U_iload_n rfl dL_law_904 ?_
  refine U_iconst (nI 2) (by decide) dL_law_905 ?_
  refine U_iaddN dL_law_906 ?_
  refine U_sld (by omega) dL_law_907 ?_
  refine U_aload_n rfl dL_law_908 ?_
  refine U_iload_n rfl dL_law_909 ?_
  refine U_iconst (nI 3) (by decide) dL_law_910 ?_
  refine U_iaddN dL_law_911 ?_
  refine U_sld (by omega) dL_law_912 ?_
  refine U_callV 5 (hx sg I A B hC) hC.1.1 (by decide) rfl wl_L_131 ws_X5_year we_X5_year wi_X5 wc_X5_year wn_X5_year rfl ⟨by show sg.1 + 0 ≤ 600000; omega, by show sg.2.1 + 0 ≤ 7302250; omega⟩ (Nat.le_of_ble_eq_true rfl) dL_law_913 rfl (fun r s1 I1 hq => ?_)
  obtain ⟨rfl, e1, e2, e3, e4, A1, B1, hC1⟩ := hq
  have hM1 := hM.hi e1 e4
  show U X s1 I1 916 [some (.ref (lxb X)), some (rf g 0), some (rf g 92), some (.int (nI i))] [.int (fYear tv W (xs (i + 1)) (xs (i + 2)) (xs (i + 3)))]
  refine U_aload_n rfl dL_law_916 ?_
  refine U_aload_n rfl dL_law_917 ?_
  refine U_iload_n rfl dL_law_918 ?_
  refine U_iconst (nI 1) (by decide) dL_law_919 ?_
  refine U_iaddN dL_law_920 ?_
  refine U_sld (by omega) dL_law_921 ?_
  refine U_aload_n rfl dL_law_922 ?_
  refine U_iload_n rfl dL_law_923 ?_
  refine U_iconst (nI 2) (by decide) dL_law_924 ?_
  refine U_iaddN dL_law_925 ?_
  refine U_sld (by omega) dL_law_926 ?_
  refine U_aload_n rfl dL_law_927 ?_
  refine U_iload_n rfl dL_law_928 ?_
  refine U_iconst (nI 3) (by decide) dL_law_929 ?_
  refine U_iaddN dL_law_930 ?_
  refine U_sld (by omega) dL_law_931 ?_
  refine U_callV 6 (hd s1 I1 hM1) hM1.1.1 (by decide) rfl wl_L_134 ws_X6_year we_X6_year wi_X6 wc_X6_year wn_X6_year rfl ⟨by show s1.1 + 0 ≤ 600000; omega, by show s1.2.1 + 0 ≤ 7302250; omega⟩ (Nat.le_of_ble_eq_true rfl) dL_law_932 rfl (fun r s2 I2 hq => ?_)
  obtain ⟨rfl, hs2, hM2, e5⟩ := hq
  have hs2 := hs2.symm
  subst hs2
  show U X s1 I2 935 [some (.ref (lxb X)), some (rf g 0), some (rf g 92), some (.int (nI i))] [.int (fYear tv W (xs (i + 1)) (xs (i + 2)) (xs (i + 3))), .int (fYear tv W (xs (i + 1)) (xs (i + 2)) (xs (i + 3)))]
  refine U_icmp_eq 989 dL_law_935 (by decide) (fun _ => ?_) (fun h => absurd rfl h)
  exact hnext s1 I2 A1 B1 _ _ (hC1.lo e5) hM2 hk (by omega) (by omega)
theorem law_keep (X : LCx g Ln xs ak av) {i : Nat} {sg : SG} {I : IM} {A B : Nat} {x : XV} {tv : TV} {W : WV} {P K : SV} (hi : i + 5 ≤ Ln) (hC : CSt sg I A B x tv W P K) (hM : MSt sg I x tv W P K) (hS : STok x tv W P K) (n1 : sg.1 = 103) (n2 : sg.2.1 = 3519) (hnext : lwN X i) : U X sg I 940 [some (.ref (lxb X)), some (rf g 0), some (rf g 92), some (.int (nI i))] [] := by
  obtain ⟨hx, hd, hk⟩ := op_keep (g := g)  hS
  refine U_aload_n rfl dL_law_940 ?_
  refine U_callV 5 (hx sg I A B hC) hC.1.1 (by decide) rfl wl_L_135 ws_X5_keep we_X5_keep wi_X5 wc_X5_keep wn_X5_keep rfl ⟨by show sg.1 + 0 ≤ 600000; omega, by show sg.2.1 + 0 ≤ 7302250; omega⟩ (Nat.le_of_ble_eq_true rfl) dL_law_941 rfl (fun r s1 I1 hq => ?_)
  obtain ⟨rfl, e1, e2, e3, e4, A1, B1, hC1⟩ := hq
  have hM1 := hM.hi e1 e4
  show U X s1 I1 944 [some (.ref (lxb X)), some (rf g 0), some (rf g 92), some (.int (nI i))] [.int (gKeep x W P K).2.2.2.2]
  refine U_aload_n rfl dL_law_944 ?_
  refine U_callV 6 (hd s1 I1 hM1) hM1.1.1 (by decide) rfl wl_L_138 ws_X6_keep we_X6_keep wi_X6 wc_X6_keep wn_X6_keep rfl ⟨by show s1.1 + 0 ≤ 600000; omega, by show s1.2.1 + 0 ≤ 7302250; omega⟩ (Nat.le_of_ble_eq_true rfl) dL_law_945 rfl (fun r s2 I2 hq => ?_)
  obtain ⟨rfl, hs2, hM2, e5⟩ := hq
  have hs2 := hs2.symm
  subst hs2
  show U X s1 I2 948 [some (.ref (lxb X)), some (rf g 0), some (rf g 92), some (.int (nI i))] [.int (gKeep x W P K).2.2.2.2, .int (gKeep x W P K).2.2.2.2]
  refine U_icmp_eq 989 dL_law_948 (by decide) (fun _ => ?_) (fun h => absurd rfl h)
  exact hnext s1 I2 A1 B1 _ _ (hC1.lo e5) hM2 hk (by omega) (by omega)
theorem law_back (X : LCx g Ln xs ak av) {i : Nat} {sg : SG} {I : IM} {A B : Nat} {x : XV} {tv : TV} {W : WV} {P K : SV} (hi : i + 5 ≤ Ln) (hC : CSt sg I A B x tv W P K) (hM : MSt sg I x tv W P K) (hS : STok x tv W P K) (n1 : sg.1 = 103) (n2 : sg.2.1 = 3519) (hnext : lwN X i) : U X sg I 953 [some (.ref (lxb X)), some (rf g 0), some (rf g 92), some (.int (nI i))] [] := by
  obtain ⟨hx, hd, hk⟩ := op_back (g := g)  hS
  refine U_aload_n rfl dL_law_953 ?_
  refine U_callV 5 (hx sg I A B hC) hC.1.1 (by decide) rfl wl_L_139 ws_X5_back we_X5_back wi_X5 wc_X5_back wn_X5_back rfl ⟨by show sg.1 + 0 ≤ 600000; omega, by show sg.2.1 + 0 ≤ 7302250; omega⟩ (Nat.le_of_ble_eq_true rfl) dL_law_954 rfl (fun r s1 I1 hq => ?_)
  obtain ⟨rfl, e1, e2, e3, e4, A1, B1, hC1⟩ := hq
  have hM1 := hM.hi e1 e4
  show U X s1 I1 957 [some (.ref (lxb X)), some (rf g 0), some (rf g 92), some (.int (nI i))] [.int (gBack x W P K).2.2.2.2]
  refine U_aload_n rfl dL_law_957 ?_
  refine U_callV 6 (hd s1 I1 hM1) hM1.1.1 (by decide) rfl wl_L_142 ws_X6_back we_X6_back wi_X6 wc_X6_back wn_X6_back rfl ⟨by show s1.1 + 0 ≤ 600000; omega, by show s1.2.1 + 0 ≤ 7302250; omega⟩ (Nat.le_of_ble_eq_true rfl) dL_law_958 rfl (fun r s2 I2 hq => ?_)
  obtain ⟨rfl, hs2, hM2, e5⟩ := hq
  have hs2 := hs2.symm
  subst hs2
  show U X s1 I2 961 [some (.ref (lxb X)), some (rf g 0), some (rf g 92), some (.int (nI i))] [.int (gBack x W P K).2.2.2.2, .int (gBack x W P K).2.2.2.2]
  refine U_icmp_eq 989 dL_law_961 (by decide) (fun _ => ?_) (fun h => absurd rfl h)
  exact hnext s1 I2 A1 B1 _ _ (hC1.lo e5) hM2 hk (by omega) (by omega)
theorem law_count (X : LCx g Ln xs ak av) {i : Nat} {sg : SG} {I : IM} {A B : Nat} {x : XV} {tv : TV} {W : WV} {P K : SV} (hi : i + 5 ≤ Ln) (hC : CSt sg I A B x tv W P K) (hM : MSt sg I x tv W P K) (hS : STok x tv W P K) (n1 : sg.1 = 103) (n2 : sg.2.1 = 3519) (hnext : lwN X i) : U X sg I 966 [some (.ref (lxb X)), some (rf g 0), some (rf g 92), some (.int (nI i))] [] := by
  obtain ⟨hx, hd, hk⟩ := op_count (g := g) (k := xs (i + 1)) hS
  refine U_aload_n rfl dL_law_966 ?_
  refine U_aload_n rfl dL_law_967 ?_
  refine U_iload_n rfl dL_law_968 ?_
  refine U_iconst (nI 1) (by decide) dL_law_969 ?_
  refine U_iaddN dL_law_970 ?_
  refine U_sld (by omega) dL_law_971 ?_
  refine U_callV 5 (hx sg I A B hC) hC.1.1 (by decide) rfl wl_L_143 ws_X5_count we_X5_count wi_X5 wc_X5_count wn_X5_count rfl ⟨by show sg.1 + 0 ≤ 600000; omega, by show sg.2.1 + 0 ≤ 7302250; omega⟩ (Nat.le_of_ble_eq_true rfl) dL_law_972 rfl (fun r s1 I1 hq => ?_)
  obtain ⟨rfl, e1, e2, e3, e4, A1, B1, hC1⟩ := hq
  have hM1 := hM.hi e1 e4
  show U X s1 I1 975 [some (.ref (lxb X)), some (rf g 0), some (rf g 92), some (.int (nI i))] [.int (fCount x tv W P K (xs (i + 1)))]
  refine U_aload_n rfl dL_law_975 ?_
  refine U_aload_n rfl dL_law_976 ?_
  refine U_iload_n rfl dL_law_977 ?_
  refine U_iconst (nI 1) (by decide) dL_law_978 ?_
  refine U_iaddN dL_law_979 ?_
  refine U_sld (by omega) dL_law_980 ?_
  refine U_callV 6 (hd s1 I1 hM1) hM1.1.1 (by decide) rfl wl_L_146 ws_X6_count we_X6_count wi_X6 wc_X6_count wn_X6_count rfl ⟨by show s1.1 + 0 ≤ 600000; omega, by show s1.2.1 + 0 ≤ 7302250; omega⟩ (Nat.le_of_ble_eq_true rfl) dL_law_981 rfl (fun r s2 I2 hq => ?_)
  obtain ⟨rfl, hs2, hM2, e5⟩ := hq
  have hs2 := hs2.symm
  subst hs2
  show U X s1 I2 984 [some (.ref (lxb X)), some (rf g 0), some (rf g 92), some (.int (nI i))] [.int (fCount x tv W P K (xs (i + 1))), .int (fCount x tv W P K (xs (i + 1)))]
  refine U_icmp_eq 989 dL_law_984 (by decide) (fun _ => ?_) (fun h => absurd rfl h)
  exact hnext s1 I2 A1 B1 _ _ (hC1.lo e5) hM2 hk (by omega) (by omega)
theorem law_loop (X : LCx g Ln xs ak av) : ∀ (d i : Nat) (sg : SG) (I : IM) (A B : Nat) (x : XV) (tv : TV) (W : WV) (P K : SV), Ln < i + 5 * d + 5 → i ≤ 325 → CSt sg I A B x tv W P K → MSt sg I x tv W P K → STok x tv W P K → sg.1 = 103 → sg.2.1 = 3519 → U X sg I 18 [some (.ref (lxb X)), some (rf g 0), some (rf g 92), some (.int (nI i))] [] := by
  have h320 := lx_320 X
  have hout : ∀ (i : Nat) (sg : SG) (I : IM), Ln < i + 5 → i ≤ 325 → sg.1 = 103 → sg.2.1 = 3519 → U X sg I 18 [some (.ref (lxb X)), some (rf g 0), some (rf g 92), some (.int (nI i))] [] := by
    intro i sg I h1 h2 n1 n2
    refine U_iload_n rfl dL_law_18 ?_
    refine U_aload_n rfl dL_law_19 ?_
    refine U_slen dL_law_20 ?_
    refine U_iconst (nI 5) (by decide) dL_law_21 ?_
    refine U_isub dL_law_22 ?_
    refine U_icmp_gt 995 dL_law_23 (by decide) (fun _ => ?_) (fun h => absurd ((past_end h320 (by omega)).mpr h1) h)
    refine U_iconst 1 (by decide) dL_law_995 ?_
    exact U_end (by omega) (by omega) dL_law_996
  intro d
  induction d with
  | zero =>
    intro i sg I A B x tv W P K hd hi hC hM hS n1 n2
    exact hout i sg I (by omega) hi n1 n2
  | succ d ih =>
    intro i sg I A B x tv W P K hd hi hC hM hS n1 n2
    by_cases hlt : Ln < i + 5
    · exact hout i sg I hlt hi n1 n2
    · have hnext : lwN X i := by
        intro sg I A B tv r hC hM hk n1 n2
        refine U_iinc (i := 3) (nI (i + 5)) (by rw [show Int32.ofInt 5 = nI 5 by decide, nI_add]) rfl (by decide) (fun w h0 h => by cases h; rfl) dL_law_989 ?_
        show U X sg I 992 [some (.ref (lxb X)), some (rf g 0), some (rf g 92), some (.int (nI (i + 5)))] []
        refine U_goto 18 dL_law_992 (by decide) ?_
        exact ih (i + 5) sg I A B _ tv _ _ _ (by omega) (by omega) hC hM hk n1 n2
      refine U_iload_n rfl dL_law_18 ?_
      refine U_aload_n rfl dL_law_19 ?_
      refine U_slen dL_law_20 ?_
      refine U_iconst (nI 5) (by decide) dL_law_21 ?_
      refine U_isub dL_law_22 ?_
      refine U_icmp_gt 995 dL_law_23 (by decide) (fun h => absurd ((past_end h320 (by omega)).mp h) hlt) (fun _ => ?_)
      refine U_aload_n rfl dL_law_26 ?_
      refine U_iload_n rfl dL_law_27 ?_
      refine U_sld (by omega) dL_law_28 ?_
      refine U_bipush (nI 31) (by decide) dL_law_29 ?_
      refine U_iand dL_law_31 ?_
      obtain ⟨k, hk, ek⟩ := and31 (xs i)
      rw [ek]
      have h5 : i + 5 ≤ Ln := by omega
      rcases (show k = 0 ∨ k = 1 ∨ k = 2 ∨ k = 3 ∨ k = 4 ∨ k = 5 ∨ k = 6 ∨ k = 7 ∨ k = 8 ∨ k = 9 ∨ k = 10 ∨ k = 11 ∨ k = 12 ∨ k = 13 ∨ k = 14 ∨ k = 15 ∨ k = 16 ∨ k = 17 ∨ k = 18 ∨ k = 19 ∨ k = 20 ∨ k = 21 ∨ k = 22 ∨ k = 23 ∨ k = 24 ∨ k = 25 ∨ k = 26 ∨ k = 27 ∨ k = 28 ∨ k = 29 ∨ k = 30 ∨ k = 31 by omega) with rfl | rfl | rfl | rfl | rfl | rfl | rfl | rfl | rfl | rfl | rfl | rfl | rfl | rfl | rfl | rfl | rfl | rfl | rfl | rfl | rfl | rfl | rfl | rfl | rfl | rfl | rfl | rfl | rfl | rfl | rfl | rfl
      · exact U_tableIn 144 176 dL_law_32 (by decide) (by decide) rfl (by decide) (law_write X h5 hC hM hS n1 n2 hnext)
      · exact U_tableIn 167 199 dL_law_32 (by decide) (by decide) rfl (by decide) (law_wipe X h5 hC hM hS n1 n2 hnext)
      · exact U_tableIn 180 212 dL_law_32 (by decide) (by decide) rfl (by decide) (law_fault X h5 hC hM hS n1 n2 hnext)
      · exact U_tableIn 193 225 dL_law_32 (by decide) (by decide) rfl (by decide) (law_lay X h5 hC hM hS n1 n2 hnext)
      · exact U_tableIn 206 238 dL_law_32 (by decide) (by decide) rfl (by decide) (law_law X h5 hC hM hS n1 n2 hnext)
      · exact U_tableIn 239 271 dL_law_32 (by decide) (by decide) rfl (by decide) (law_person X h5 hC hM hS n1 n2 hnext)
      · exact U_tableIn 272 304 dL_law_32 (by decide) (by decide) rfl (by decide) (law_stone X h5 hC hM hS n1 n2 hnext)
      · exact U_tableIn 305 337 dL_law_32 (by decide) (by decide) rfl (by decide) (law_mark X h5 hC hM hS n1 n2 hnext)
      · exact U_tableIn 338 370 dL_law_32 (by decide) (by decide) rfl (by decide) (law_world X h5 hC hM hS n1 n2 hnext)
      · exact U_tableIn 361 393 dL_law_32 (by decide) (by decide) rfl (by decide) (law_deed X h5 hC hM hS n1 n2 hnext)
      · exact U_tableIn 384 416 dL_law_32 (by decide) (by decide) rfl (by decide) (law_carve X h5 hC hM hS n1 n2 hnext)
      · exact U_tableIn 453 485 dL_law_32 (by decide) (by decide) rfl (by decide) (law_chisel X h5 hC hM hS n1 n2 hnext)
      · exact U_tableIn 486 518 dL_law_32 (by decide) (by decide) rfl (by decide) (law_bell X h5 hC hM hS n1 n2 hnext)
      · exact U_tableIn 499 531 dL_law_32 (by decide) (by decide) rfl (by decide) (law_undo X h5 hC hM hS n1 n2 hnext)
      · exact U_tableIn 512 544 dL_law_32 (by decide) (by decide) rfl (by decide) (law_known X h5 hC hM hS n1 n2 hnext)
      · exact U_tableIn 545 577 dL_law_32 (by decide) (by decide) rfl (by decide) (law_hands X h5 hC hM hS n1 n2 hnext)
      · exact U_tableIn 568 600 dL_law_32 (by decide) (by decide) rfl (by decide) (law_belief X h5 hC hM hS n1 n2 hnext)
      · exact U_tableIn 602 634 dL_law_32 (by decide) (by decide) rfl (by decide) (law_least X h5 hC hM hS n1 n2 hnext)
      · exact U_tableIn 625 657 dL_law_32 (by decide) (by decide) rfl (by decide) (law_soonest X h5 hC hM hS n1 n2 hnext)
      · exact U_tableIn 648 680 dL_law_32 (by decide) (by decide) rfl (by decide) (law_lie X h5 hC hM hS n1 n2 hnext)
      · exact U_tableIn 691 723 dL_law_32 (by decide) (by decide) rfl (by decide) (law_safe X h5 hC hM hS n1 n2 hnext)
      · exact U_tableIn 714 746 dL_law_32 (by decide) (by decide) rfl (by decide) (law_clash X h5 hC hM hS n1 n2 hnext)
      · exact U_tableIn 727 759 dL_law_32 (by decide) (by decide) rfl (by decide) (law_stand X h5 hC hM hS n1 n2 hnext)
      · exact U_tableIn 750 782 dL_law_32 (by decide) (by decide) rfl (by decide) (law_was X h5 hC hM hS n1 n2 hnext)
      · exact U_tableIn 773 805 dL_law_32 (by decide) (by decide) rfl (by decide) (law_missed X h5 hC hM hS n1 n2 hnext)
      · exact U_tableIn 786 818 dL_law_32 (by decide) (by decide) rfl (by decide) (law_sale X h5 hC hM hS n1 n2 hnext)
      · exact U_tableIn 819 851 dL_law_32 (by decide) (by decide) rfl (by decide) (law_worth X h5 hC hM hS n1 n2 hnext)
      · exact U_tableIn 832 864 dL_law_32 (by decide) (by decide) rfl (by decide) (law_two X h5 hC hM hS n1 n2 hnext)
      · exact U_tableIn 865 897 dL_law_32 (by decide) (by decide) rfl (by decide) (law_year X h5 hC hM hS n1 n2 hnext)
      · exact U_tableIn 908 940 dL_law_32 (by decide) (by decide) rfl (by decide) (law_keep X h5 hC hM hS n1 n2 hnext)
      · exact U_tableIn 921 953 dL_law_32 (by decide) (by decide) rfl (by decide) (law_back X h5 hC hM hS n1 n2 hnext)
      · exact U_tableIn 934 966 dL_law_32 (by decide) (by decide) rfl (by decide) (law_count X h5 hC hM hS n1 n2 hnext)
end LAW
