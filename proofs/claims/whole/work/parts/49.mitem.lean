/-! CarvedWeeksModel: an item -/
/-- what stands behind a number: its sign, and the rest -/
def sgL (x : XV) (r p : Nat) : Option (List Nat × Nat) := if chr x p = (if r = 0 then 59 else 44) then itL x r (p + 1) else none
def ppL (pre : List Nat) (y : Option (List Nat × Nat)) : Option (List Nat × Nat) := match y with
  | none => none
  | some y => some (pre ++ y.1, y.2)
theorem itL_n {x : XV} {r p : Nat} (h : nvP x p = none) : itL x (r + 1) p = none := by rw [itL, h]
theorem itL_s {x : XV} {r p v : Nat} (h : nvP x p = some v) : itL x (r + 1) p = ppL [v] (sgL x r (nqP x p)) := by
  rw [itL, h]
  show (if chr x (nqP x p) = (if r = 0 then 59 else 44) then _ else none) = _
  unfold sgL ppL
  by_cases c : chr x (nqP x p) = (if r = 0 then 59 else 44)
  · rw [if_pos c, if_pos c]; cases itL x r (nqP x p + 1) <;> rfl
  · rw [if_neg c, if_neg c]
theorem ppL_pp (a b : List Nat) (y : Option (List Nat × Nat)) : ppL a (ppL b y) = ppL (a ++ b) y := by
  cases y with
  | none => rfl
  | some y => show some (a ++ (b ++ y.1), y.2) = some ((a ++ b) ++ y.1, y.2); rw [List.append_assoc]
theorem sg_dg {x : XV} {r p : Nat} (h : dgB x p = true) : sgL x r p = none := by
  have := nv_t h
  unfold sgL
  rw [if_neg (by split <;> omega)]
def iiQ (sg : SG) (I : IM) (y : Option (PS × Nat)) : Option Value → SG → IM → Prop := fun r0 s0 J => s0 = sg ∧ fF I J ∧ match y with
  | some z => r0 = some (.int (nI 1)) ∧ J 92 2 = nI z.2 ∧ MDr J z.1
  | none => r0 = some (.int (nI 0))
theorem ii_no {sg : SG} {I J : IM} {y : Option (PS × Nat)} (h1 : fF I J) (hy : y = none) : iiQ sg I y (some (.int (nI 0))) sg J := by subst hy; exact ⟨rfl, h1, rfl⟩
theorem MDr.o {I J : IM} {s : PS} (h : MDr I s) (e : ∀ q, 94 ≤ q → q ≤ 98 → J q = I q) : MDr J s := by
  unfold MDr dT at h ⊢
  rw [e 94 (by decide) (by decide), e 95 (by decide) (by decide), e 96 (by decide) (by decide), e 97 (by decide) (by decide), e 98 (by decide) (by decide)]
  exact h
section MITEM
variable {g : GC} {sg : SG} {I : IM} {x : XV} {tv : TV} {W : WV} {P K : SV} {np : Nat}
theorem D_isItem {s : PS} {p : Nat} (hK : MK sg) (hl : I 92 0 = nI x.1) (ht : ∀ i, i < x.1 → I 93 i = nI (x.2 i)) (hx : XVok x) (hp : I 92 2 = nI p) (hpl : p < x.1) (hD : MDr I s) (hok : TVok s.1) : Ct m_X6_isItem g [rf g 92] sg I (iiQ sg I (itF x s p)) := by
  have hK0 := hK
  obtain ⟨m0, mR1, mR3, mR4, mR5, mR6, mR7, mR8, mR10, mR16, mR17, mA93, mA94, mA95, mA96, mA97, mA98, mA99, mA100, mA101, mA102⟩ := hK
  have hx2 := hx.1
  have hcp := hx.2 p hpl
  obtain ⟨w, hw⟩ : ∃ w, w = wN (chr x p) := ⟨_, rfl⟩
  have hw3 : w ≤ 3 := by rw [hw]; exact wN_le _
  obtain ⟨l, hlc⟩ : ∃ l, l = chr x p := ⟨_, rfl⟩
  have hl2 : l = x.2 p := by rw [hlc]; exact chr_in hpl
  have hll : l < 200 := by omega
  have hch : I 93 p = nI l := by rw [hl2]; exact ht p hpl
  have hwl : wN l = w := by rw [hw, hlc]
  refine Ct.of rfl (Nat.le_of_ble_eq_true rfl) fun X => ?_
  show V X _ sg I 0 [some (rf g 92), none, none, none, none] []
  have hfail : ∀ (J : IM) (z : Option Value), fF I J → itF x s p = none → V X (ZQ X (iiQ sg I (itF x s p))) sg J 144 [some (rf g 92), some (.int (nI l)), some (.int (nI w)), some (.int (nI 0)), z] [] := by
    intro J z hf hn
    refine V_iload_n rfl dX6_isItem_144 ?_
    refine V_if_eqN 177 dX6_isItem_145 (by decide) (by omega) (fun h145 => ?_) (fun h145 => absurd h145 (by decide))
    refine V_iconst (nI 0) (by decide) dX6_isItem_177 ?_
    refine V_ist3 rfl rfl dX6_isItem_178 ?_
    refine V_aload_n rfl dX6_isItem_179 ?_
    refine V_dup rfl dX6_isItem_180 ?_
    refine gf_X6_60 (by assumption) rfl dX6_isItem_181 ?_
    refine V_iconst (nI 1) (by decide) dX6_isItem_184 ?_
    refine V_iadd dX6_isItem_185 ?_
    refine pf_X6_60 (by assumption) rfl dX6_isItem_186 ?_
    refine V_iload_n rfl dX6_isItem_189 ?_
    refine V_if_eqN 205 dX6_isItem_190 (by decide) (by omega) (fun h190 => ?_) (fun h190 => absurd h190 (by decide))
    refine V_iconst (nI 0) (by decide) dX6_isItem_205 ?_
    refine V_zret rfl (rfl) rfl rfl ?_ dX6_isItem_206
    exact ii_no (hf.trans (fF.up (Or.inl ⟨rfl, rfl⟩))) hn
  by_cases hw0 : w = 0
  · have hn : itF x s p = none := by unfold itF; rw [if_pos (by rw [← hw]; exact hw0)]
    subst hw0
    refine V_aload_n rfl dX6_isItem_0 ?_
    refine gf_X6_7 (by assumption) (by assumption) rfl dX6_isItem_1 ?_
    refine V_aload_n rfl dX6_isItem_4 ?_
    refine gfe_X6_60 (by assumption) (by assumption) rfl dX6_isItem_5 ?_
    refine V_bald _ (by assumption) rfl (by omega) (by omega) dX6_isItem_8 ?_
    refine V_topi (hch) ?_
    refine V_ist1 rfl rfl dX6_isItem_9 ?_
    refine V_aload_n rfl dX6_isItem_10 ?_
    refine V_dup rfl dX6_isItem_11 ?_
    refine gfe_X6_60 (by assumption) (by assumption) rfl dX6_isItem_12 ?_
    refine V_iconst (nI 1) (by decide) dX6_isItem_15 ?_
    refine V_iaddN dX6_isItem_16 ?_
    refine pf_X6_60 (by assumption) rfl dX6_isItem_17 ?_
    refine V_iload_n rfl dX6_isItem_20 ?_
    refine cf_X6_69 (D_numbers hll) rfl rfl ft0 (Nat.le_of_ble_eq_true rfl) dX6_isItem_21 ?_
    rw [hwl]
    refine V_ist2 rfl rfl dX6_isItem_24 ?_
    refine V_iload_n rfl dX6_isItem_25 ?_
    refine V_if_le 33 dX6_isItem_26 (by decide) (fun _ => ?_) (fun h => absurd (show nI 0 ≤ 0 by decide) h)
    refine V_iconst (nI 0) (by decide) dX6_isItem_33 ?_
    refine V_ist3 rfl rfl dX6_isItem_34 ?_
    refine V_iconst (nI 0) (by decide) dX6_isItem_35 ?_
    refine V_ist4 rfl rfl dX6_isItem_36 ?_
    refine V_iload rfl dX6_isItem_38 ?_
    refine V_iload_n rfl dX6_isItem_40 ?_
    refine V_icmp_geN 144 dX6_isItem_41 (by decide) (by omega) (by omega) (fun h41 => ?_) (fun h41 => absurd h41 (by decide))
    exact hfail _ _ (fF.up (Or.inl ⟨rfl, rfl⟩)) hn
  · have hwn : ¬ wN (chr x p) = 0 := by rw [← hw]; exact hw0
    have hw1 : ¬ nI w ≤ 0 := by rcases (show w = 1 ∨ w = 2 ∨ w = 3 by omega) with rfl | rfl | rfl <;> decide
    have hlet : l = 102 ∨ l = 100 ∨ l = 105 ∨ l = 112 ∨ l = 115 ∨ l = 98 := by
      rw [← hlc] at hwn
      unfold wN at hwn
      split at hwn
      · omega
      · split at hwn
        · omega
        · split at hwn
          · omega
          · exact absurd rfl hwn
    have hitn : itL x w (p + 1) = none → itF x s p = none := fun h => by unfold itF; rw [if_neg hwn, ← hw, h]
    have hits : ∀ y, itL x w (p + 1) = some y → itF x s p = match tlF s l (y.1.getD 0 0) (y.1.getD 1 0) (y.1.getD 2 0) with
        | none => none
        | some s' => some (s', y.2) := fun y h => by unfold itF; rw [if_neg hwn, ← hw, h, ← hlc]; rfl
    have hbad : ∀ (J : IM) (k : Nat), k ≤ 3 → fF I J → itF x s p = none → V X (ZQ X (iiQ sg I (itF x s p))) sg J 38 [some (rf g 92), some (.int (nI l)), some (.int (nI w)), some (.int (nI 0)), some (.int (nI k))] [] := by
      intro J k hk hf hn
      refine V_iload rfl dX6_isItem_38 ?_
      refine V_iload_n rfl dX6_isItem_40 ?_
      refine V_icmp_geN 144 dX6_isItem_41 (by decide) (by omega) (by omega) (fun h41 => ?_) (fun h41 => ?_)
      · skip
        exact hfail J _ hf hn
      · skip
        refine V_iload_n rfl dX6_isItem_44 ?_
        refine V_if_eqN 144 dX6_isItem_45 (by decide) (by omega) (fun h45 => ?_) (fun h45 => absurd h45 (by decide))
        exact hfail J _ hf hn
    have hlast : ∀ (J : IM) (pre : List Nat) (pos : Nat), fF I J → (∀ q, q ≠ 92 → q ≠ 101 → J q = I q) → J 92 2 = nI pos → pos ≤ 230 → pre.length = w → (∀ i, i < w → J 101 i = nI (pre.getD i 0)) → (∀ i, pre.getD i 0 ≤ 99) → itL x w (p + 1) = ppL pre (sgL x 0 pos) → V X (ZQ X (iiQ sg I (itF x s p))) sg J 144 [some (rf g 92), some (.int (nI l)), some (.int (nI w)), some (.int (nI 1)), some (.int (nI w))] [] := by
      intro J pre pos hf hfo hj hpos hpre hgo hg9 hit
      have hlen : J 92 0 = nI x.1 := (hf.2.1 0 (by decide)).trans hl
      have hno : ¬ chr x pos = 59 → itF x s p = none := fun h => by
        refine hitn ?_
        rw [hit]; unfold sgL; rw [if_pos rfl, if_neg h]; rfl
      by_cases c : pos < x.1
      · have hcl := hx.2 pos c
        have hcj : J 93 pos = nI (x.2 pos) := by rw [hfo 93 (by decide) (by decide)]; exact ht pos c
        by_cases h59 : x.2 pos = 59
        · have hy : itL x w (p + 1) = some (pre, pos + 1) := by
            rw [hit]; unfold sgL
            rw [if_pos rfl, if_pos (by rw [chr_in c]; exact h59)]
            show some (pre ++ [], pos + 1) = _
            rw [List.append_nil]
          have hq1 := hits _ hy
          have hf1 : fF I (upI J 92 2 (nI (pos + 1))) := hf.trans (fF.up (Or.inl ⟨rfl, rfl⟩))
          have hd1 : MDr (upI J 92 2 (nI (pos + 1))) s := hD.o (fun q h1 h2 => (funext fun k => upI_ne (Or.inl (by omega))).trans (hfo q (by omega) (by omega)))
          have hgg : ∀ i, i < w → (upI J 92 2 (nI (pos + 1))) 101 i = nI (pre.getD i 0) := fun i hi => (upI_ne (Or.inl (by decide))).trans (hgo i hi)
          refine V_iload_n rfl dX6_isItem_144 ?_
          refine V_if_eqN 177 dX6_isItem_145 (by decide) (by omega) (fun h145 => absurd h145 (by decide)) (fun h145 => ?_)
          refine V_aload_n rfl dX6_isItem_148 ?_
          refine gfe_X6_60 (by assumption) (by assumption) rfl dX6_isItem_149 ?_
          refine V_aload_n rfl dX6_isItem_152 ?_
          refine gfe_X6_56 (by assumption) (by assumption) rfl dX6_isItem_153 ?_
          refine V_icmp_geN 177 dX6_isItem_156 (by decide) (by omega) (by omega) (fun h156 => absurd h156 (by omega)) (fun h156 => ?_)
          refine V_aload_n rfl dX6_isItem_159 ?_
          refine gf_X6_7 (by assumption) (by assumption) rfl dX6_isItem_160 ?_
          refine V_aload_n rfl dX6_isItem_163 ?_
          refine gfe_X6_60 (by assumption) (by assumption) rfl dX6_isItem_164 ?_
          refine V_bald _ (by assumption) rfl (by omega) (by omega) dX6_isItem_167 ?_
          refine V_topi (hcj) ?_
          refine V_bipush (nI 59) (by decide) dX6_isItem_168 ?_
          refine V_icmp_neN 177 dX6_isItem_170 (by decide) (by omega) (by omega) (fun h170 => absurd h170 (by omega)) (fun h170 => ?_)
          refine V_iconst (nI 1) (by decide) dX6_isItem_173 ?_
          refine V_goto 178 dX6_isItem_174 (by decide) ?_
          refine V_ist3 rfl rfl dX6_isItem_178 ?_
          refine V_aload_n rfl dX6_isItem_179 ?_
          refine V_dup rfl dX6_isItem_180 ?_
          refine gfe_X6_60 (by assumption) (by assumption) rfl dX6_isItem_181 ?_
          refine V_iconst (nI 1) (by decide) dX6_isItem_184 ?_
          refine V_iaddN dX6_isItem_185 ?_
          refine pf_X6_60 (by assumption) rfl dX6_isItem_186 ?_
          refine V_iload_n rfl dX6_isItem_189 ?_
          refine V_if_eqN 205 dX6_isItem_190 (by decide) (by omega) (fun h190 => absurd h190 (by decide)) (fun h190 => ?_)
          refine V_aload_n rfl dX6_isItem_193 ?_
          refine V_iload_n rfl dX6_isItem_194 ?_
          refine cl_X6_77 (D_isGood (a := pre.getD 0 0) (b := pre.getD 1 0) (c := pre.getD 2 0) hK0 hlet (hgg 0 (by omega)) (fun h => hgg 1 (by omega)) (fun h => hgg 2 (by omega)) (hg9 0) (hg9 1) (hg9 2) hd1 hok) (by assumption) rfl rfl ft0 (Nat.le_of_ble_eq_true rfl) dX6_isItem_195 (fun rr s9 J9 hq => ?_)
          obtain ⟨hs, hq2, hq3, hq4⟩ := hq
          have hs := hs.symm
          subst hs
          have j92 : J9 92 2 = nI (pos + 1) := (congrFun hq3 2).trans upI_eq
          cases ht9 : tlF s l (pre.getD 0 0) (pre.getD 1 0) (pre.getD 2 0) with
          | none =>
            rw [ht9] at hq4 hq1
            have hq4 : rr = some (.int (nI 0)) := hq4
            subst hq4
            show V X _ sg J9 198 _ [.int (nI 0)]
            refine V_if_eqN 205 dX6_isItem_198 (by decide) (by omega) (fun h198 => ?_) (fun h198 => absurd h198 (by decide))
            refine V_iconst (nI 0) (by decide) dX6_isItem_205 ?_
            refine V_zret rfl (rfl) rfl rfl ?_ dX6_isItem_206
            exact ii_no (hf1.trans hq2) hq1
          | some s2 =>
            rw [ht9] at hq4 hq1
            obtain ⟨hq4, hq5⟩ : rr = some (.int (nI 1)) ∧ MDr J9 s2 := hq4
            subst hq4
            show V X _ sg J9 198 _ [.int (nI 1)]
            refine V_if_eqN 205 dX6_isItem_198 (by decide) (by omega) (fun h198 => absurd h198 (by decide)) (fun h198 => ?_)
            refine V_iconst (nI 1) (by decide) dX6_isItem_201 ?_
            refine V_goto 206 dX6_isItem_202 (by decide) ?_
            refine V_zret rfl (rfl) rfl rfl ?_ dX6_isItem_206
            rw [hq1]
            exact ⟨rfl, hf1.trans hq2, rfl, j92, hq5⟩
        · have hn := hno (by rw [chr_in c]; exact h59)
          refine V_iload_n rfl dX6_isItem_144 ?_
          refine V_if_eqN 177 dX6_isItem_145 (by decide) (by omega) (fun h145 => absurd h145 (by decide)) (fun h145 => ?_)
          refine V_aload_n rfl dX6_isItem_148 ?_
          refine gfe_X6_60 (by assumption) (by assumption) rfl dX6_isItem_149 ?_
          refine V_aload_n rfl dX6_isItem_152 ?_
          refine gfe_X6_56 (by assumption) (by assumption) rfl dX6_isItem_153 ?_
          refine V_icmp_geN 177 dX6_isItem_156 (by decide) (by omega) (by omega) (fun h156 => absurd h156 (by omega)) (fun h156 => ?_)
          refine V_aload_n rfl dX6_isItem_159 ?_
          refine gf_X6_7 (by assumption) (by assumption) rfl dX6_isItem_160 ?_
          refine V_aload_n rfl dX6_isItem_163 ?_
          refine gfe_X6_60 (by assumption) (by assumption) rfl dX6_isItem_164 ?_
          refine V_bald _ (by assumption) rfl (by omega) (by omega) dX6_isItem_167 ?_
          refine V_topi (hcj) ?_
          refine V_bipush (nI 59) (by decide) dX6_isItem_168 ?_
          refine V_icmp_neN 177 dX6_isItem_170 (by decide) (by omega) (by omega) (fun h170 => ?_) (fun h170 => absurd h170 (by omega))
          refine V_iconst (nI 0) (by decide) dX6_isItem_177 ?_
          refine V_ist3 rfl rfl dX6_isItem_178 ?_
          refine V_aload_n rfl dX6_isItem_179 ?_
          refine V_dup rfl dX6_isItem_180 ?_
          refine gfe_X6_60 (by assumption) (by assumption) rfl dX6_isItem_181 ?_
          refine V_iconst (nI 1) (by decide) dX6_isItem_184 ?_
          refine V_iadd dX6_isItem_185 ?_
          refine pf_X6_60 (by assumption) rfl dX6_isItem_186 ?_
          refine V_iload_n rfl dX6_isItem_189 ?_
          refine V_if_eqN 205 dX6_isItem_190 (by decide) (by omega) (fun h190 => ?_) (fun h190 => absurd h190 (by decide))
          refine V_iconst (nI 0) (by decide) dX6_isItem_205 ?_
          refine V_zret rfl (rfl) rfl rfl ?_ dX6_isItem_206
          exact ii_no (hf.trans (fF.up (Or.inl ⟨rfl, rfl⟩))) hn
      · have hn := hno (by rw [chr_out c]; decide)
        refine V_iload_n rfl dX6_isItem_144 ?_
        refine V_if_eqN 177 dX6_isItem_145 (by decide) (by omega) (fun h145 => absurd h145 (by decide)) (fun h145 => ?_)
        refine V_aload_n rfl dX6_isItem_148 ?_
        refine gfe_X6_60 (by assumption) (by assumption) rfl dX6_isItem_149 ?_
        refine V_aload_n rfl dX6_isItem_152 ?_
        refine gfe_X6_56 (by assumption) (by assumption) rfl dX6_isItem_153 ?_
        refine V_icmp_geN 177 dX6_isItem_156 (by decide) (by omega) (by omega) (fun h156 => ?_) (fun h156 => absurd h156 (by omega))
        refine V_iconst (nI 0) (by decide) dX6_isItem_177 ?_
        refine V_ist3 rfl rfl dX6_isItem_178 ?_
        refine V_aload_n rfl dX6_isItem_179 ?_
        refine V_dup rfl dX6_isItem_180 ?_
        refine gfe_X6_60 (by assumption) (by assumption) rfl dX6_isItem_181 ?_
        refine V_iconst (nI 1) (by decide) dX6_isItem_184 ?_
        refine V_iadd dX6_isItem_185 ?_
        refine pf_X6_60 (by assumption) rfl dX6_isItem_186 ?_
        refine V_iload_n rfl dX6_isItem_189 ?_
        refine V_if_eqN 205 dX6_isItem_190 (by decide) (by omega) (fun h190 => ?_) (fun h190 => absurd h190 (by decide))
        refine V_iconst (nI 0) (by decide) dX6_isItem_205 ?_
        refine V_zret rfl (rfl) rfl rfl ?_ dX6_isItem_206
        exact ii_no (hf.trans (fF.up (Or.inl ⟨rfl, rfl⟩))) hn
    -- a number is read at pos; j numbers have been read
    have main : ∀ (r j pos : Nat) (J : IM) (pre : List Nat), j + (r + 1) = w → pos ≤ 1 + p + 3 * j → fF I J → (∀ q, q ≠ 92 → q ≠ 101 → J q = I q) → J 92 2 = nI pos → pre.length = j → (∀ i, i < j → J 101 i = nI (pre.getD i 0)) → (∀ i, pre.getD i 0 ≤ 99) → itL x w (p + 1) = ppL pre (itL x (r + 1) pos) → V X (ZQ X (iiQ sg I (itF x s p))) sg J 103 [some (rf g 92), some (.int (nI l)), some (.int (nI w)), some (.int (nI 1)), some (.int (nI j))] [] := by
      intro r
      induction r with
      | zero =>
        intro j pos J pre hjw hpos hf hfo hj hpre hgo hg9 hit
        have hlen : J 92 0 = nI x.1 := (hf.2.1 0 (by decide)).trans hl
        have htx : ∀ i, i < x.1 → J 93 i = nI (x.2 i) := fun i hi => by rw [hfo 93 (by decide) (by decide)]; exact ht i hi
        refine V_aload_n rfl dX6_isItem_103 ?_
        refine gf_X6_36 (by assumption) (by assumption) rfl dX6_isItem_104 ?_
        refine V_iload rfl dX6_isItem_107 ?_
        refine V_iload_n rfl dX6_isItem_109 ?_
        refine V_if_eqN 120 dX6_isItem_110 (by decide) (by omega) (fun h110 => absurd h110 (by decide)) (fun h110 => ?_)
        refine V_aload_n rfl dX6_isItem_113 ?_
        refine cl_X6_73 (D_number hK0 hlen htx hx hj (by omega)) (by assumption) rfl rfl ft0 (Nat.le_of_ble_eq_true rfl) dX6_isItem_114 (fun rr s9 J9 hq => ?_)
        obtain ⟨hs, hq2, hq3⟩ := hq
        have hs := hs.symm
        subst hs
        have hf9 := hf.trans hq2.f
        have hfo9 : ∀ q, q ≠ 92 → q ≠ 101 → J9 q = I q := fun q h1 h2 => (hq2.1 q h1).trans (hfo q h1 h2)
        rcases hq3 with ⟨v, v1, v2, v3, rfl, v5⟩ | ⟨v1, rfl⟩
        · have hu : (upI J9 101 j (nI v)) 101 j = nI v := upI_eq
          have hpv : (pre ++ [v]).length = j + 1 := by rw [List.length_append, hpre]; rfl
          show V X _ sg J9 117 _ [.int (nI v), .int (nI j), rf g 101]
          refine V_goto 121 dX6_isItem_117 (by decide) ?_
          refine V_iast _ (by assumption) rfl (by omega) (by omega) dX6_isItem_121 ?_
          refine V_aload_n rfl dX6_isItem_122 ?_
          refine gf_X6_36 (by assumption) (by assumption) rfl dX6_isItem_123 ?_
          refine V_iload rfl dX6_isItem_126 ?_
          refine V_iald _ (by assumption) rfl (by omega) (by omega) dX6_isItem_128 ?_
          refine V_topi (hu) ?_
          refine V_if_ltN 136 dX6_isItem_129 (by decide) (by omega) ?_
          refine V_iconst (nI 1) (by decide) dX6_isItem_132 ?_
          refine V_goto 137 dX6_isItem_133 (by decide) ?_
          refine V_ist3 rfl rfl dX6_isItem_137 ?_
          refine V_iinc4_ _ (nI_inc _) rfl rfl dX6_isItem_138 ?_
          refine V_goto 38 dX6_isItem_141 (by decide) ?_
          refine V_iload rfl dX6_isItem_38 ?_
          refine V_iload_n rfl dX6_isItem_40 ?_
          refine V_icmp_geN 144 dX6_isItem_41 (by decide) (by omega) (by omega) (fun h41 => ?_) (fun h41 => absurd h41 (by omega))
          refine V_same (by rw [show w = j + 1 by omega]) (hlast (upI J9 101 j (nI v)) (pre ++ [v]) (nqP x pos) (hf9.trans (fF.up (by omega))) (fun q h1 h2 => (funext fun k => upI_ne (Or.inl h2)).trans (hfo9 q h1 h2)) ((upI_ne (Or.inl (by decide))).trans v5) ?_ (by omega) (fun i hi => ?_) (fun i => ?_) ?_)
          · have := nq_le (x := x) (p := pos); omega
          · rw [getD_app, hpre]
            by_cases e : i = j
            · rw [e, if_neg (Nat.lt_irrefl _), if_pos rfl]; exact upI_eq
            · rw [if_pos (by omega), upI_ne (Or.inr e), hq2.1 101 (by decide)]; exact hgo i (by omega)
          · rw [getD_app]
            split
            · exact hg9 i
            · split <;> omega
          · rw [hit, itL_s v1, ppL_pp]
        · have hn : itF x s p = none := hitn (by
            rw [hit]
            cases hv : nvP x pos with
            | none => rw [itL_n hv]; rfl
            | some v =>
              rw [itL_s hv, sg_dg (by rcases v1 with z | z; rw [hv] at z; cases z; exact z)]; rfl)
          have hu : (upI J9 101 j (-1)) 101 j = -1 := upI_eq
          show V X _ sg J9 117 _ [.int (-1), .int (nI j), rf g 101]
          refine V_goto 121 dX6_isItem_117 (by decide) ?_
          refine V_iast _ (by assumption) rfl (by omega) (by omega) dX6_isItem_121 ?_
          refine V_aload_n rfl dX6_isItem_122 ?_
          refine gf_X6_36 (by assumption) (by assumption) rfl dX6_isItem_123 ?_
          refine V_iload rfl dX6_isItem_126 ?_
          refine V_iald _ (by assumption) rfl (by omega) (by omega) dX6_isItem_128 ?_
          refine V_topi (hu) ?_
          refine V_if_lt 136 dX6_isItem_129 (by decide) (fun h129 => ?_) (fun h129 => absurd h129 (by decide))
          refine V_iconst (nI 0) (by decide) dX6_isItem_136 ?_
          refine V_ist3 rfl rfl dX6_isItem_137 ?_
          refine V_iinc4_ _ (nI_inc _) rfl rfl dX6_isItem_138 ?_
          refine V_goto 38 dX6_isItem_141 (by decide) ?_
          exact hbad _ (j + 1) (by omega) (hf9.trans (fF.up (by omega))) hn
      | succ r ih =>
        intro j pos J pre hjw hpos hf hfo hj hpre hgo hg9 hit
        have hlen : J 92 0 = nI x.1 := (hf.2.1 0 (by decide)).trans hl
        have htx : ∀ i, i < x.1 → J 93 i = nI (x.2 i) := fun i hi => by rw [hfo 93 (by decide) (by decide)]; exact ht i hi
        refine V_aload_n rfl dX6_isItem_103 ?_
        refine gf_X6_36 (by assumption) (by assumption) rfl dX6_isItem_104 ?_
        refine V_iload rfl dX6_isItem_107 ?_
        refine V_iload_n rfl dX6_isItem_109 ?_
        refine V_if_eqN 120 dX6_isItem_110 (by decide) (by omega) (fun h110 => absurd h110 (by decide)) (fun h110 => ?_)
        refine V_aload_n rfl dX6_isItem_113 ?_
        refine cl_X6_73 (D_number hK0 hlen htx hx hj (by omega)) (by assumption) rfl rfl ft0 (Nat.le_of_ble_eq_true rfl) dX6_isItem_114 (fun rr s9 J9 hq => ?_)
        obtain ⟨hs, hq2, hq3⟩ := hq
        have hs := hs.symm
        subst hs
        have hf9 := hf.trans hq2.f
        have hfo9 : ∀ q, q ≠ 92 → q ≠ 101 → J9 q = I q := fun q h1 h2 => (hq2.1 q h1).trans (hfo q h1 h2)
        rcases hq3 with ⟨v, v1, v2, v3, rfl, v5⟩ | ⟨v1, rfl⟩
        · have hu : (upI J9 101 j (nI v)) 101 j = nI v := upI_eq
          have hpv : (pre ++ [v]).length = j + 1 := by rw [List.length_append, hpre]; rfl
          show V X _ sg J9 117 _ [.int (nI v), .int (nI j), rf g 101]
          have hnq := nq_le (x := x) (p := pos)
          obtain ⟨J2, hJ2⟩ : ∃ J2, J2 = upI J9 101 j (nI v) := ⟨_, rfl⟩
          have hf2 : fF I J2 := by rw [hJ2]; exact hf9.trans (fF.up (by omega))
          have hfo2 : ∀ q, q ≠ 92 → q ≠ 101 → J2 q = I q := fun q h1 h2 => by rw [hJ2]; exact (funext fun k => upI_ne (Or.inl h2)).trans (hfo9 q h1 h2)
          have j22 : J2 92 2 = nI (nqP x pos) := by rw [hJ2]; exact (upI_ne (Or.inl (by decide))).trans v5
          have j20 : J2 92 0 = nI x.1 := (hf2.2.1 0 (by decide)).trans hl
          have hgo2 : ∀ i, i < j + 1 → J2 101 i = nI ((pre ++ [v]).getD i 0) := fun i hi => by
            rw [getD_app, hpre, hJ2]
            by_cases e : i = j
            · rw [e, if_neg (Nat.lt_irrefl _), if_pos rfl]; exact upI_eq
            · rw [if_pos (by omega), upI_ne (Or.inr e), hq2.1 101 (by decide)]; exact hgo i (by omega)
          have hg92 : ∀ i, (pre ++ [v]).getD i 0 ≤ 99 := fun i => by
            rw [getD_app]
            split
            · exact hg9 i
            · split <;> omega
          have hit2 : itL x w (p + 1) = ppL (pre ++ [v]) (sgL x (r + 1) (nqP x pos)) := by rw [hit, itL_s v1, ppL_pp]
          have hno : ¬ chr x (nqP x pos) = 44 → itF x s p = none := fun h => by
            refine hitn ?_
            rw [hit2]; unfold sgL; rw [if_neg (Nat.succ_ne_zero r), if_neg h]; rfl
          have hbad3 : ∀ J3, fF I J3 → itF x s p = none → V X (ZQ X (iiQ sg I (itF x s p))) sg J3 103 [some (rf g 92), some (.int (nI l)), some (.int (nI w)), some (.int (nI 0)), some (.int (nI (j + 1)))] [] := by
            intro J3 hf3 hn
            have hu3 : (upI J3 101 (j + 1) (-1)) 101 (j + 1) = -1 := upI_eq
            refine V_aload_n rfl dX6_isItem_103 ?_
            refine gf_X6_36 (by assumption) (by assumption) rfl dX6_isItem_104 ?_
            refine V_iload rfl dX6_isItem_107 ?_
            refine V_iload_n rfl dX6_isItem_109 ?_
            refine V_if_eqN 120 dX6_isItem_110 (by decide) (by omega) (fun h110 => ?_) (fun h110 => absurd h110 (by decide))
            refine V_iconst (-1) (by decide) dX6_isItem_120 ?_
            refine V_iast _ (by assumption) rfl (by omega) (by omega) dX6_isItem_121 ?_
            refine V_aload_n rfl dX6_isItem_122 ?_
            refine gf_X6_36 (by assumption) (by assumption) rfl dX6_isItem_123 ?_
            refine V_iload rfl dX6_isItem_126 ?_
            refine V_iald _ (by assumption) rfl (by omega) (by omega) dX6_isItem_128 ?_
            refine V_topi (hu3) ?_
            refine V_if_lt 136 dX6_isItem_129 (by decide) (fun h129 => ?_) (fun h129 => absurd h129 (by decide))
            refine V_iconst (nI 0) (by decide) dX6_isItem_136 ?_
            refine V_ist3 rfl rfl dX6_isItem_137 ?_
            refine V_iinc4_ _ (nI_inc _) rfl rfl dX6_isItem_138 ?_
            refine V_goto 38 dX6_isItem_141 (by decide) ?_
            exact hbad _ (j + 1 + 1) (by omega) (hf3.trans (fF.up (by omega))) hn
          refine V_goto 121 dX6_isItem_117 (by decide) ?_
          refine V_iast _ (by assumption) rfl (by omega) (by omega) dX6_isItem_121 ?_
          rw [← hJ2] at hu
          rw [← hJ2]
          refine V_aload_n rfl dX6_isItem_122 ?_
          refine gf_X6_36 (by assumption) (by assumption) rfl dX6_isItem_123 ?_
          refine V_iload rfl dX6_isItem_126 ?_
          refine V_iald _ (by assumption) rfl (by omega) (by omega) dX6_isItem_128 ?_
          refine V_topi (hu) ?_
          refine V_if_ltN 136 dX6_isItem_129 (by decide) (by omega) ?_
          refine V_iconst (nI 1) (by decide) dX6_isItem_132 ?_
          refine V_goto 137 dX6_isItem_133 (by decide) ?_
          refine V_ist3 rfl rfl dX6_isItem_137 ?_
          refine V_iinc4_ _ (nI_inc _) rfl rfl dX6_isItem_138 ?_
          refine V_goto 38 dX6_isItem_141 (by decide) ?_
          refine V_iload rfl dX6_isItem_38 ?_
          refine V_iload_n rfl dX6_isItem_40 ?_
          refine V_icmp_geN 144 dX6_isItem_41 (by decide) (by omega) (by omega) (fun h41 => absurd h41 (by omega)) (fun h41 => ?_)
          refine V_iload_n rfl dX6_isItem_44 ?_
          refine V_if_eqN 144 dX6_isItem_45 (by decide) (by omega) (fun h45 => absurd h45 (by decide)) (fun h45 => ?_)
          refine V_iload rfl dX6_isItem_48 ?_
          refine V_if_eqN 78 dX6_isItem_50 (by decide) (by omega) (fun h50 => absurd h50 (by omega)) (fun h50 => ?_)
          by_cases c : nqP x pos < x.1
          · have hcl := hx.2 _ c
            have hcj : J2 93 (nqP x pos) = nI (x.2 (nqP x pos)) := by rw [hfo2 93 (by decide) (by decide)]; exact ht _ c
            by_cases h44 : x.2 (nqP x pos) = 44
            · skip
              refine V_aload_n rfl dX6_isItem_53 ?_
              refine gfe_X6_60 (by assumption) (by assumption) rfl dX6_isItem_54 ?_
              refine V_aload_n rfl dX6_isItem_57 ?_
              refine gfe_X6_56 (by assumption) (by assumption) rfl dX6_isItem_58 ?_
              refine V_icmp_geN 82 dX6_isItem_61 (by decide) (by omega) (by omega) (fun h61 => absurd h61 (by omega)) (fun h61 => ?_)
              refine V_aload_n rfl dX6_isItem_64 ?_
              refine gf_X6_7 (by assumption) (by assumption) rfl dX6_isItem_65 ?_
              refine V_aload_n rfl dX6_isItem_68 ?_
              refine gfe_X6_60 (by assumption) (by assumption) rfl dX6_isItem_69 ?_
              refine V_bald _ (by assumption) rfl (by omega) (by omega) dX6_isItem_72 ?_
              refine V_topi (hcj) ?_
              refine V_bipush (nI 44) (by decide) dX6_isItem_73 ?_
              refine V_icmp_neN 82 dX6_isItem_75 (by decide) (by omega) (by omega) (fun h75 => absurd h75 (by omega)) (fun h75 => ?_)
              refine V_iconst (nI 1) (by decide) dX6_isItem_78 ?_
              refine V_goto 83 dX6_isItem_79 (by decide) ?_
              refine V_ist3 rfl rfl dX6_isItem_83 ?_
              refine V_aload_n rfl dX6_isItem_84 ?_
              refine V_dup rfl dX6_isItem_85 ?_
              refine gfe_X6_60 (by assumption) (by assumption) rfl dX6_isItem_86 ?_
              refine V_iload rfl dX6_isItem_89 ?_
              refine V_if_neN 98 dX6_isItem_91 (by decide) (by omega) (fun h91 => ?_) (fun h91 => absurd h91 (by omega))
              refine V_iconst (nI 1) (by decide) dX6_isItem_98 ?_
              refine V_iaddN dX6_isItem_99 ?_
              refine pf_X6_60 (by assumption) rfl dX6_isItem_100 ?_
              exact ih (j + 1) (nqP x pos + 1) _ (pre ++ [v]) (by omega) (by omega) (hf2.trans (fF.up (Or.inl ⟨rfl, rfl⟩))) (fun q h1 h2 => (funext fun k => upI_ne (Or.inl h1)).trans (hfo2 q h1 h2)) upI_eq hpv (fun i hi => (upI_ne (Or.inl (by decide))).trans (hgo2 i hi)) hg92 (by rw [hit2]; unfold sgL; rw [if_neg (Nat.succ_ne_zero r), if_pos (by rw [chr_in c]; exact h44)])
            · have hn := hno (by rw [chr_in c]; exact h44)
              refine V_aload_n rfl dX6_isItem_53 ?_
              refine gfe_X6_60 (by assumption) (by assumption) rfl dX6_isItem_54 ?_
              refine V_aload_n rfl dX6_isItem_57 ?_
              refine gfe_X6_56 (by assumption) (by assumption) rfl dX6_isItem_58 ?_
              refine V_icmp_geN 82 dX6_isItem_61 (by decide) (by omega) (by omega) (fun h61 => absurd h61 (by omega)) (fun h61 => ?_)
              refine V_aload_n rfl dX6_isItem_64 ?_
              refine gf_X6_7 (by assumption) (by assumption) rfl dX6_isItem_65 ?_
              refine V_aload_n rfl dX6_isItem_68 ?_
              refine gfe_X6_60 (by assumption) (by assumption) rfl dX6_isItem_69 ?_
              refine V_bald _ (by assumption) rfl (by omega) (by omega) dX6_isItem_72 ?_
              refine V_topi (hcj) ?_
              refine V_bipush (nI 44) (by decide) dX6_isItem_73 ?_
              refine V_icmp_neN 82 dX6_isItem_75 (by decide) (by omega) (by omega) (fun h75 => ?_) (fun h75 => absurd h75 (by omega))
              refine V_iconst (nI 0) (by decide) dX6_isItem_82 ?_
              refine V_ist3 rfl rfl dX6_isItem_83 ?_
              refine V_aload_n rfl dX6_isItem_84 ?_
              refine V_dup rfl dX6_isItem_85 ?_
              refine gfe_X6_60 (by assumption) (by assumption) rfl dX6_isItem_86 ?_
              refine V_iload rfl dX6_isItem_89 ?_
              refine V_if_neN 98 dX6_isItem_91 (by decide) (by omega) (fun h91 => ?_) (fun h91 => absurd h91 (by omega))
              refine V_iconst (nI 1) (by decide) dX6_isItem_98 ?_
              refine V_iaddN dX6_isItem_99 ?_
              refine pf_X6_60 (by assumption) rfl dX6_isItem_100 ?_
              exact hbad3 _ (hf2.trans (fF.up (Or.inl ⟨rfl, rfl⟩))) hn
          · have hn := hno (by rw [chr_out c]; decide)
            refine V_aload_n rfl dX6_isItem_53 ?_
            refine gfe_X6_60 (by assumption) (by assumption) rfl dX6_isItem_54 ?_
            refine V_aload_n rfl dX6_isItem_57 ?_
            refine gfe_X6_56 (by assumption) (by assumption) rfl dX6_isItem_58 ?_
            refine V_icmp_geN 82 dX6_isItem_61 (by decide) (by omega) (by omega) (fun h61 => ?_) (fun h61 => absurd h61 (by omega))
            refine V_iconst (nI 0) (by decide) dX6_isItem_82 ?_
            refine V_ist3 rfl rfl dX6_isItem_83 ?_
            refine V_aload_n rfl dX6_isItem_84 ?_
            refine V_dup rfl dX6_isItem_85 ?_
            refine gfe_X6_60 (by assumption) (by assumption) rfl dX6_isItem_86 ?_
            refine V_iload rfl dX6_isItem_89 ?_
            refine V_if_neN 98 dX6_isItem_91 (by decide) (by omega) (fun h91 => ?_) (fun h91 => absurd h91 (by omega))
            refine V_iconst (nI 1) (by decide) dX6_isItem_98 ?_
            refine V_iaddN dX6_isItem_99 ?_
            refine pf_X6_60 (by assumption) rfl dX6_isItem_100 ?_
            exact hbad3 _ (hf2.trans (fF.up (Or.inl ⟨rfl, rfl⟩))) hn
        · have hn : itF x s p = none := hitn (by
            rw [hit]
            cases hv : nvP x pos with
            | none => rw [itL_n hv]; rfl
            | some v =>
              rw [itL_s hv, sg_dg (by rcases v1 with z | z; rw [hv] at z; cases z; exact z)]; rfl)
          have hu : (upI J9 101 j (-1)) 101 j = -1 := upI_eq
          show V X _ sg J9 117 _ [.int (-1), .int (nI j), rf g 101]
          refine V_goto 121 dX6_isItem_117 (by decide) ?_
          refine V_iast _ (by assumption) rfl (by omega) (by omega) dX6_isItem_121 ?_
          refine V_aload_n rfl dX6_isItem_122 ?_
          refine gf_X6_36 (by assumption) (by assumption) rfl dX6_isItem_123 ?_
          refine V_iload rfl dX6_isItem_126 ?_
          refine V_iald _ (by assumption) rfl (by omega) (by omega) dX6_isItem_128 ?_
          refine V_topi (hu) ?_
          refine V_if_lt 136 dX6_isItem_129 (by decide) (fun h129 => ?_) (fun h129 => absurd h129 (by decide))
          refine V_iconst (nI 0) (by decide) dX6_isItem_136 ?_
          refine V_ist3 rfl rfl dX6_isItem_137 ?_
          refine V_iinc4_ _ (nI_inc _) rfl rfl dX6_isItem_138 ?_
          refine V_goto 38 dX6_isItem_141 (by decide) ?_
          exact hbad _ (j + 1) (by omega) (hf9.trans (fF.up (by omega))) hn
    obtain ⟨r, hr⟩ : ∃ r, w = 0 + (r + 1) := ⟨w - 1, by omega⟩
    have hp1 : (upI (upI I 92 2 (nI (p + 1))) 92 2 (nI (p + 1 + 0))) 92 2 = nI (p + 1) := upI_eq
    refine V_aload_n rfl dX6_isItem_0 ?_
    refine gf_X6_7 (by assumption) (by assumption) rfl dX6_isItem_1 ?_
    refine V_aload_n rfl dX6_isItem_4 ?_
    refine gfe_X6_60 (by assumption) (by assumption) rfl dX6_isItem_5 ?_
    refine V_bald _ (by assumption) rfl (by omega) (by omega) dX6_isItem_8 ?_
    refine V_topi (hch) ?_
    refine V_ist1 rfl rfl dX6_isItem_9 ?_
    refine V_aload_n rfl dX6_isItem_10 ?_
    refine V_dup rfl dX6_isItem_11 ?_
    refine gfe_X6_60 (by assumption) (by assumption) rfl dX6_isItem_12 ?_
    refine V_iconst (nI 1) (by decide) dX6_isItem_15 ?_
    refine V_iaddN dX6_isItem_16 ?_
    refine pf_X6_60 (by assumption) rfl dX6_isItem_17 ?_
    refine V_iload_n rfl dX6_isItem_20 ?_
    refine cf_X6_69 (D_numbers hll) rfl rfl ft0 (Nat.le_of_ble_eq_true rfl) dX6_isItem_21 ?_
    rw [hwl]
    refine V_ist2 rfl rfl dX6_isItem_24 ?_
    refine V_iload_n rfl dX6_isItem_25 ?_
    refine V_if_le 33 dX6_isItem_26 (by decide) (fun h => absurd h hw1) (fun _ => ?_)
    refine V_iconst (nI 1) (by decide) dX6_isItem_29 ?_
    refine V_goto 34 dX6_isItem_30 (by decide) ?_
    refine V_ist3 rfl rfl dX6_isItem_34 ?_
    refine V_iconst (nI 0) (by decide) dX6_isItem_35 ?_
    refine V_ist4 rfl rfl dX6_isItem_36 ?_
    refine V_iload rfl dX6_isItem_38 ?_
    refine V_iload_n rfl dX6_isItem_40 ?_
    refine V_icmp_geN 144 dX6_isItem_41 (by decide) (by omega) (by omega) (fun h41 => absurd h41 (by omega)) (fun h41 => ?_)
    refine V_iload_n rfl dX6_isItem_44 ?_
    refine V_if_eqN 144 dX6_isItem_45 (by decide) (by omega) (fun h45 => absurd h45 (by decide)) (fun h45 => ?_)
    refine V_iload rfl dX6_isItem_48 ?_
    refine V_if_eqN 78 dX6_isItem_50 (by decide) (by omega) (fun h50 => ?_) (fun h50 => absurd h50 (by decide))
    refine V_iconst (nI 1) (by decide) dX6_isItem_78 ?_
    refine V_goto 83 dX6_isItem_79 (by decide) ?_
    refine V_ist3 rfl rfl dX6_isItem_83 ?_
    refine V_aload_n rfl dX6_isItem_84 ?_
    refine V_dup rfl dX6_isItem_85 ?_
    refine gfe_X6_60 (by assumption) (by assumption) rfl dX6_isItem_86 ?_
    refine V_iload rfl dX6_isItem_89 ?_
    refine V_if_neN 98 dX6_isItem_91 (by decide) (by omega) (fun h91 => absurd h91 (by decide)) (fun h91 => ?_)
    refine V_iconst (nI 0) (by decide) dX6_isItem_94 ?_
    refine V_goto 99 dX6_isItem_95 (by decide) ?_
    refine V_iaddN dX6_isItem_99 ?_
    refine pf_X6_60 (by assumption) rfl dX6_isItem_100 ?_
    exact main r 0 (p + 1) _ [] hr.symm (by omega) ((fF.up (Or.inl ⟨rfl, rfl⟩)).trans (fF.up (Or.inl ⟨rfl, rfl⟩))) (fun q h1 _ => (funext fun k => upI_ne (Or.inl h1)).trans (funext fun k => upI_ne (Or.inl h1))) hp1 rfl (fun i hi => absurd hi (Nat.not_lt_zero i)) (fun i => by rw [getD_out (Nat.zero_le _)]; exact Nat.zero_le _) (by
      rw [show w = r + 1 by omega]
      cases itL x (r + 1) (p + 1) <;> rfl)
end MITEM
