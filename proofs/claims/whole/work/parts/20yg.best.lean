/-! best -/
def iJ (x : Int) : Int32 := Int32.ofInt x
theorem iT {x : Int} (h1 : -1000000 ≤ x) (h2 : x ≤ 1000000) : (iJ x).toInt = x := by
  unfold iJ; rw [Int32.toInt_ofInt, show Int32.size = 4294967296 from rfl, Int.bmod_eq_of_le_mul_two (by omega) (by omega)]
theorem iJ_1 (x : Int) : iJ x + 1 = iJ (x + 1) := (Int32.ofInt_add x 1).symm
theorem iJ_n {n : Nat} (h : n < 1000) : iJ (n : Int) = nI n := Int32.toInt_inj.mp (by rw [iT (by omega) (by omega), nT h])
theorem iJ_eq {a : Int32} {x : Int} (h : a.toInt = x) (h1 : -1000000 ≤ x) (h2 : x ≤ 1000000) : iJ x = a := Int32.toInt_inj.mp (by rw [iT h1 h2, h])
theorem iJ_lt {x y : Int} (h1 : -1000000 ≤ x) (h2 : x ≤ 1000000) (h3 : -1000000 ≤ y) (h4 : y ≤ 1000000) : (iJ x < iJ y) = (x < y) := by rw [i_lt, iT h1 h2, iT h3 h4]
theorem iJ_i {x y : Int} (h1 : -1000000 ≤ x) (h2 : x ≤ 1000000) (h3 : -1000000 ≤ y) (h4 : y ≤ 1000000) : (iJ x = iJ y) = (x = y) := propext ⟨fun z => by have := congrArg Int32.toInt z; rw [iT h1 h2, iT h3 h4] at this; exact this, fun z => by rw [z]⟩
theorem iJ_64 {x : Int} (h1 : -1000000 ≤ x) (h2 : x ≤ 1000000) : (iJ x).toInt64 = Int64.ofInt x := (ofI_eq (by rw [Int32.toInt_toInt64, iT h1 h2])).symm
def wB (Φ : FM) (V S : Nat → Int32) (s : Nat) (c : Int) : Int := match splR Φ V S s c with | none => 0 | some r => r.2 - r.1
def stepB (Φ : FM) (V S : Nat → Int32) (s : Nat) (c : Int) (x : Int × Int × Int) : Int × Int × Int := if wB Φ V S s c < x.1 then (wB Φ V S s c, (s : Int), c) else x
def innB (Φ : FM) (V S : Nat → Int32) (s : Nat) : Nat → Int → Int × Int × Int → Int × Int × Int
  | 0, _, x => x
  | d + 1, c, x => innB Φ V S s d (c + 1) (stepB Φ V S s c x)
def outB (Φ : FM) (V S : Nat → Int32) : Nat → Nat → Int × Int × Int → Int × Int × Int
  | 0, _, x => x
  | d + 1, s, x => outB Φ V S d (s + 1) (innB Φ V S s (HI V S s - LO V S s + 1).toNat (LO V S s) x)
def resB (w0 : Int) (what : Nat) (x : Int × Int × Int) : Int64 := if x.2.1 = -1 then -1000 else if what = 0 then Int64.ofInt x.2.1 else if what = 1 then Int64.ofInt x.2.2 else Int64.ofInt (w0 - x.1)
/-- what the loops keep -/
def okB (w0 : Int) (x : Int × Int × Int) : Prop := 0 ≤ x.1 ∧ x.1 ≤ w0 ∧ -1 ≤ x.2.1 ∧ x.2.1 ≤ 5 ∧ -200 ≤ x.2.2 ∧ x.2.2 ≤ 200
theorem wB_in {Φ : FM} {V S : Nat → Int32} (hl : ∀ s, LO V S s ≤ HI V S s) {p : Int × Int} (hx : RT Φ (LO V S) (HI V S) = some p) (g : inR (p.2 - p.1)) {s : Nat} {c : Int} (h1 : LO V S s ≤ c) (h2 : c ≤ HI V S s) : 0 ≤ wB Φ V S s c ∧ wB Φ V S s c ≤ p.2 - p.1 ∧ ∃ r, splR Φ V S s c = some r ∧ wB Φ V S s c = r.2 - r.1 := by
  obtain ⟨r, e, e1, e2, e3⟩ := splR_some hl hx h1 h2
  have : wB Φ V S s c = r.2 - r.1 := by unfold wB; rw [e]
  exact ⟨by omega, by omega, r, e, this⟩
theorem okB_step {Φ : FM} {V S : Nat → Int32} (hl : ∀ s, LO V S s ≤ HI V S s) {p : Int × Int} (hx : RT Φ (LO V S) (HI V S) = some p) (g : inR (p.2 - p.1)) {s : Nat} (hs : s < 6) {c : Int} (h1 : LO V S s ≤ c) (h2 : c ≤ HI V S s) (h3 : -200 ≤ c) (h4 : c ≤ 200) {x : Int × Int × Int} (h : okB (p.2 - p.1) x) : okB (p.2 - p.1) (stepB Φ V S s c x) := by
  obtain ⟨a1, a2, -⟩ := wB_in hl hx g h1 h2
  unfold stepB
  by_cases z : wB Φ V S s c < x.1
  · rw [if_pos z]; exact ⟨a1, a2, by show (-1 : Int) ≤ (s : Int); omega, by show (s : Int) ≤ 5; omega, h3, h4⟩
  · rw [if_neg z]; exact h
theorem lohi200 {σ : HS} {φ f : Nat} {Φ : FM} {V S C : Nat → Int32} (h : CS σ φ f Φ V S C) {s : Nat} (hs : s < 6) : -119 ≤ LO V S s ∧ HI V S s ≤ 119 ∧ LO V S s ≤ HI V S s ∧ HI V S s - LO V S s ≤ 40 := by
  obtain ⟨-, -, -, -, -, -, v1, v2, -, -, -⟩ := cs_val h hs
  unfold LO HI
  rw [if_pos hs, if_pos hs]; omega
theorem x_inn {φ f : Nat} {Φ : FM} {V S C : Nat → Int32} (hw : WF Φ) {p : Int × Int} (hx : RT Φ (LO V S) (HI V S) = some p) (g : inR (p.2 - p.1)) (K : Nat → Int32 → Int32 → Nat → Int64 → Int64 → Int32 → Int32 → Int32 → HS → Option (Int64 × HS)) (a b : Int32) (W : Int64) {s : Nat} (hs : s < 6) : ∀ (d : Nat) (c : Int) (x : Int × Int × Int) (σ : HS), CS σ φ f Φ V S C → Bx σ (LO V S) (HI V S) → okB (p.2 - p.1) x → LO V S s ≤ c → c + d = HI V S s + 1 → ∀ nf, d < nf →
    ∃ σ', lp_X5_best_102 K nf 0 a b φ W (Int64.ofInt x.1) (iJ x.2.1) (iJ x.2.2) (nI s) (iJ c) σ = K 0 a b φ W (Int64.ofInt (innB Φ V S s d c x).1) (iJ (innB Φ V S s d c x).2.1) (iJ (innB Φ V S s d c x).2.2) (nI (s + 1)) σ' ∧ Kp σ σ' ∧ CS σ' φ f Φ V S C ∧ Bx σ' (LO V S) (HI V S) ∧ okB (p.2 - p.1) (innB Φ V S s d c x) := by
  intro d
  induction d with
  | zero =>
    intro c x σ h hb ho hc hd nf hnf
    obtain ⟨nf, rfl⟩ : ∃ k, nf = k + 1 := ⟨nf - 1, by omega⟩
    obtain ⟨l1, l2, l3, l4⟩ := lohi200 h hs
    have t := h.1
    obtain ⟨-, -, -, -, -, -, -, -, -, vl, vh⟩ := cs_val h hs
    refine ⟨σ, ?_, Kp.rf, h, hb, ho⟩
    show lp_X5_best_102_b K (lp_X5_best_102 K nf) 0 a b φ W _ _ _ (nI s) (iJ c) σ = _
    unfold lp_X5_best_102_b
    have lt : (V s + S s < iJ c) = True := by rw [i_lt, vh, iT (by omega) (by omega)]; exact eq_true (by omega)
    simp only [chk_p, lt_p, bd_p, bc_p, oc_n, oc_s, and_self, and_true, true_and, if_true, if_false, isO_sA', isO_sB', isO_rA', hlen_sA, hlen_sB, hlen_rA, hR_sA, hR_sB, hR_rA, Typ_sA', Typ_sB', Typ_rA', O0, r0_0, r0_1, r0_3, r0_4, r0_5, r0_6, r0_7, O1, r1_0, r1_1, r1_2, r1_3, r1_5, r1_6, r1_7, t, c_high h hs, lt, nI_s]
    rfl
  | succ d ih =>
    intro c x σ h hb ho hc hd nf hnf
    obtain ⟨nf, rfl⟩ : ∃ k, nf = k + 1 := ⟨nf - 1, by omega⟩
    obtain ⟨l1, l2, l3, l4⟩ := lohi200 h hs
    have t := h.1
    obtain ⟨-, -, -, -, -, -, -, -, -, vl, vh⟩ := cs_val h hs
    have ec : (iJ c).toInt = c := iT (by omega) (by omega)
    obtain ⟨σ1, y1, y2, y3, y4, y5⟩ := c_split hw h hb hx hs (c := iJ c) (by rw [ec]; exact hc) (by rw [ec]; omega)
    rw [ec] at y5
    have t1 := y3.1
    have ho1 := okB_step (LOHI h) hx g hs hc (show c ≤ HI V S s by omega) (by omega) (by omega) ho
    obtain ⟨σ2, e1, e2, e3, e4, e5⟩ := ih (c + 1) (stepB Φ V S s c x) σ1 y3 y4 ho1 (by omega) (by omega) nf (by omega)
    refine ⟨σ2, ?_, y2.seq e2, e3, e4, e5⟩
    obtain ⟨w1, w2, r, hr, hwr⟩ := wB_in (LOHI h) hx g hc (show c ≤ HI V S s by omega)
    rw [hr] at y5
    obtain ⟨u1, u2, u3, u4⟩ := y5
    have ew : (hB σ1 24 4 - hB σ1 24 3).toInt = wB Φ V S s c := by rw [l_sub (by rw [u2, u3]; omega), u2, u3, hwr]
    have ew' := ofI_eq ew
    have cmp : (0 ≤ lg_cmp (hB σ1 24 4 - hB σ1 24 3) (Int64.ofInt x.1)) = ¬ (wB Φ V S s c < x.1) := by
      rw [zc_ge, ew, ofI (by have := ho.1; have := ho.2.1; omega)]; exact propext ⟨fun z => by omega, fun z => by omega⟩
    show lp_X5_best_102_b K (lp_X5_best_102 K nf) 0 a b φ W _ _ _ (nI s) (iJ c) σ = _
    unfold lp_X5_best_102_b
    have lt : (V s + S s < iJ c) = False := by rw [i_lt, vh, ec]; exact eq_false (by omega)
    rw [show innB Φ V S s (d + 1) c x = innB Φ V S s d (c + 1) (stepB Φ V S s c x) from rfl, ← e1]
    by_cases z : wB Φ V S s c < x.1
    · rw [show stepB Φ V S s c x = (wB Φ V S s c, (s : Int), c) from if_pos z]
      simp only [chk_p, lt_p, bd_p, bc_p, oc_n, oc_s, and_self, and_true, true_and, if_true, if_false, isO_sA', isO_sB', isO_rA', hlen_sA, hlen_sB, hlen_rA, hR_sA, hR_sB, hR_rA, Typ_sA', Typ_sB', Typ_rA', O0, r0_0, r0_1, r0_3, r0_4, r0_5, r0_6, r0_7, O1, r1_0, r1_1, r1_2, r1_3, r1_5, r1_6, r1_7, O24, r24_0, r24_1, r24_5, r24_6, r24_7, r24_8, r24_9, t, t1, c_high h hs, lt, if_false, y1, cmp, z, not_true, iJ_1, ew', iJ_n (show s < 1000 by omega)]
    · rw [show stepB Φ V S s c x = x from if_neg z]
      simp only [chk_p, lt_p, bd_p, bc_p, oc_n, oc_s, and_self, and_true, true_and, if_true, if_false, isO_sA', isO_sB', isO_rA', hlen_sA, hlen_sB, hlen_rA, hR_sA, hR_sB, hR_rA, Typ_sA', Typ_sB', Typ_rA', O0, r0_0, r0_1, r0_3, r0_4, r0_5, r0_6, r0_7, O1, r1_0, r1_1, r1_2, r1_3, r1_5, r1_6, r1_7, O24, r24_0, r24_1, r24_5, r24_6, r24_7, r24_8, r24_9, t, t1, c_high h hs, lt, if_false, y1, cmp, z, not_false_iff, iJ_1]
theorem m_inn {φ f : Nat} {Φ : FM} {V S C : Nat → Int32} (hf : f < 7) (hw : WF Φ) {p : Int × Int} (hx : RT Φ (LO V S) (HI V S) = some p) (g : inR (p.2 - p.1)) (K : Nat → Int32 → Int32 → Int64 → Int64 → Int32 → Int32 → Int32 → HS → Option (Int64 × HS)) (b : Int32) (W : Int64) {s : Nat} (hs : s < 6) : ∀ (d : Nat) (c : Int) (x : Int × Int × Int) (σ : HS), CS σ φ f Φ V S C → okB (p.2 - p.1) x → LO V S s ≤ c → c + d = HI V S s + 1 → ∀ nf, d < nf →
    ∃ σ', lp_X6_best_70 K nf 48 (nI f) b W (Int64.ofInt x.1) (iJ x.2.1) (iJ x.2.2) (nI s) (iJ c) σ = K 48 (nI f) b W (Int64.ofInt (innB Φ V S s d c x).1) (iJ (innB Φ V S s d c x).2.1) (iJ (innB Φ V S s d c x).2.2) (nI (s + 1)) σ' ∧ Kp σ σ' ∧ CS σ' φ f Φ V S C ∧ okB (p.2 - p.1) (innB Φ V S s d c x) := by
  intro d
  induction d with
  | zero =>
    intro c x σ h ho hc hd nf hnf
    obtain ⟨nf, rfl⟩ : ∃ k, nf = k + 1 := ⟨nf - 1, by omega⟩
    obtain ⟨l1, l2, l3, l4⟩ := lohi200 h hs
    have t := h.1
    obtain ⟨-, -, -, -, -, -, -, -, -, vl, vh⟩ := cs_val h hs
    refine ⟨σ, ?_, Kp.rf, h, ho⟩
    show lp_X6_best_70_b K (lp_X6_best_70 K nf) 48 (nI f) b W _ _ _ (nI s) (iJ c) σ = _
    unfold lp_X6_best_70_b
    have lt : (V s + S s < iJ c) = True := by rw [i_lt, vh, iT (by omega) (by omega)]; exact eq_true (by omega)
    simp only [chk_p, lt_p, bd_p, bc_p, oc_n, oc_s, and_self, and_true, true_and, if_true, if_false, isO_sA', isO_sB', isO_rA', hlen_sA, hlen_sB, hlen_rA, hR_sA, hR_sB, hR_rA, Typ_sA', Typ_sB', Typ_rA', O48, r48_0, r48_1, r48_2, r48_3, r48_4, r48_5, r48_6, r48_8, r48_9, r48_10, r48_11, r48_12, r48_15, r48_21, r48_22, r48_23, r48_24, r48_25, r48_28, r48_30, r48_31, r48_32, r48_35, r48_37, r48_39, r48_40, r48_41, t, m_of4 h hs, lt, nI_s]
    rfl
  | succ d ih =>
    intro c x σ h ho hc hd nf hnf
    obtain ⟨nf, rfl⟩ : ∃ k, nf = k + 1 := ⟨nf - 1, by omega⟩
    obtain ⟨l1, l2, l3, l4⟩ := lohi200 h hs
    have t := h.1
    obtain ⟨-, -, -, -, -, -, -, -, -, vl, vh⟩ := cs_val h hs
    have ec : (iJ c).toInt = c := iT (by omega) (by omega)
    obtain ⟨σ1, r, y1, y2, y3, hr, u2, u3, u4⟩ := m_split hf hw h hx hs (c := iJ c) (by rw [ec]; exact hc) (by rw [ec]; omega)
    rw [ec] at hr
    have t1 := y3.1
    have ho1 := okB_step (LOHI h) hx g hs hc (show c ≤ HI V S s by omega) (by omega) (by omega) ho
    obtain ⟨σ2, e1, e2, e3, e5⟩ := ih (c + 1) (stepB Φ V S s c x) σ1 y3 ho1 (by omega) (by omega) nf (by omega)
    refine ⟨σ2, ?_, y2.seq e2, e3, e5⟩
    obtain ⟨w1, w2, r', hr', hwr⟩ := wB_in (LOHI h) hx g hc (show c ≤ HI V S s by omega)
    rw [hr] at hr'
    cases hr'
    have ew : (hB σ1 48 34 - hB σ1 48 33).toInt = wB Φ V S s c := by rw [l_sub (by rw [u2, u3]; omega), u2, u3, hwr]
    have ew' := ofI_eq ew
    have cmp : (0 ≤ lg_cmp (hB σ1 48 34 - hB σ1 48 33) (Int64.ofInt x.1)) = ¬ (wB Φ V S s c < x.1) := by
      rw [zc_ge, ew, ofI (by have := ho.1; have := ho.2.1; omega)]; exact propext ⟨fun z => by omega, fun z => by omega⟩
    show lp_X6_best_70_b K (lp_X6_best_70 K nf) 48 (nI f) b W _ _ _ (nI s) (iJ c) σ = _
    unfold lp_X6_best_70_b
    have lt : (V s + S s < iJ c) = False := by rw [i_lt, vh, ec]; exact eq_false (by omega)
    rw [show innB Φ V S s (d + 1) c x = innB Φ V S s d (c + 1) (stepB Φ V S s c x) from rfl, ← e1]
    by_cases z : wB Φ V S s c < x.1
    · rw [show stepB Φ V S s c x = (wB Φ V S s c, (s : Int), c) from if_pos z]
      simp only [chk_p, lt_p, bd_p, bc_p, oc_n, oc_s, and_self, and_true, true_and, if_true, if_false, isO_sA', isO_sB', isO_rA', hlen_sA, hlen_sB, hlen_rA, hR_sA, hR_sB, hR_rA, Typ_sA', Typ_sB', Typ_rA', O48, r48_0, r48_1, r48_2, r48_3, r48_4, r48_5, r48_6, r48_8, r48_9, r48_10, r48_11, r48_12, r48_15, r48_21, r48_22, r48_23, r48_24, r48_25, r48_28, r48_30, r48_31, r48_32, r48_35, r48_37, r48_39, r48_40, r48_41, t, t1, m_of4 h hs, lt, if_false, y1, cmp, z, not_true, iJ_1, ew', iJ_n (show s < 1000 by omega)]
    · rw [show stepB Φ V S s c x = x from if_neg z]
      simp only [chk_p, lt_p, bd_p, bc_p, oc_n, oc_s, and_self, and_true, true_and, if_true, if_false, isO_sA', isO_sB', isO_rA', hlen_sA, hlen_sB, hlen_rA, hR_sA, hR_sB, hR_rA, Typ_sA', Typ_sB', Typ_rA', O48, r48_0, r48_1, r48_2, r48_3, r48_4, r48_5, r48_6, r48_8, r48_9, r48_10, r48_11, r48_12, r48_15, r48_21, r48_22, r48_23, r48_24, r48_25, r48_28, r48_30, r48_31, r48_32, r48_35, r48_37, r48_39, r48_40, r48_41, t, t1, m_of4 h hs, lt, if_false, y1, cmp, z, not_false_iff, iJ_1]
theorem innB_abs {Φ : FM} (hw : WF Φ) {V S : Nat → Int32} (hl : ∀ s, LO V S s ≤ HI V S s) {p : Int × Int} (hx : RT Φ (LO V S) (HI V S) = some p) {s : Nat} (ha : ∀ i, i < mN Φ → mK Φ i = 0 → mU Φ i ≠ s) : ∀ (d : Nat) (c : Int) (x : Int × Int × Int), x.1 ≤ p.2 - p.1 → innB Φ V S s d c x = x := by
  intro d
  induction d with
  | zero => intro c x _; rfl
  | succ d ih =>
    intro c x h
    have w1 := hw.1
    have e1 : RT Φ (LO V S) (upI (HI V S) s c) = some p := by
      rw [← hx]
      exact SP_dep hw.2.2 (fun i hi k => ⟨rfl, by unfold upI; rw [if_neg (ha i hi k)]⟩) _ (by omega)
    have e2 : RT Φ (upI (LO V S) s c) (HI V S) = some p := by
      rw [← hx]
      exact SP_dep hw.2.2 (fun i hi k => ⟨by unfold upI; rw [if_neg (ha i hi k)], rfl⟩) _ (by omega)
    have ew : wB Φ V S s c = p.2 - p.1 := by
      unfold wB splR; rw [e1, e2]
      show max p.2 p.2 - min p.1 p.1 = _
      omega
    rw [show innB Φ V S s (d + 1) c x = innB Φ V S s d (c + 1) (stepB Φ V S s c x) from rfl, show stepB Φ V S s c x = x from if_neg (by omega)]
    exact ih (c + 1) x h
theorem resE {w0 : Int} {e : Nat} (he : e < 3) {x : Int × Int × Int} (h : okB w0 x) (hw : inR w0) (τ : HS) :
    (if iJ x.2.1 = (-1 : Int32) then some ((-1000 : Int64), τ) else (if nI e = 0 then some ((iJ x.2.1).toInt64, τ) else (if nI e = (1 : Int32) then some ((iJ x.2.2).toInt64, τ) else some ((Int64.ofInt w0 - Int64.ofInt x.1), τ)))) = some (resB w0 e x, τ) := by
  obtain ⟨h1, h2, h3, h4, h5, h6⟩ := h
  have em : (iJ x.2.1 = (-1 : Int32)) = (x.2.1 = -1) := iJ_i (y := -1) (by omega) (by omega) (by omega) (by omega)
  have e0 : (nI e = 0) = (e = 0) := nE (a := e) (b := 0) (by omega) (by omega)
  have e1 : (nI e = 1) = (e = 1) := nE (a := e) (b := 1) (by omega) (by omega)
  unfold resB
  simp only [em, e0, e1, iJ_64 (show -1000000 ≤ x.2.1 by omega) (by omega), iJ_64 (show -1000000 ≤ x.2.2 by omega) (by omega)]
  rw [show Int64.ofInt (w0 - x.1) = Int64.ofInt w0 - Int64.ofInt x.1 from ofI_eq (by rw [l_sub (by rw [ofI hw, ofI (by omega)]; omega), ofI hw, ofI (by omega)])]
  by_cases c1 : x.2.1 = -1
  · rw [if_pos c1, if_pos c1]
  · rw [if_neg c1, if_neg c1]
    by_cases c2 : e = 0
    · rw [if_pos c2, if_pos c2]
    · rw [if_neg c2, if_neg c2]
      by_cases c3 : e = 1
      · rw [if_pos c3, if_pos c3]
      · rw [if_neg c3, if_neg c3]
theorem hasS_ok {σ : HS} {φ : Nat} {Φ : FM} (hx : XF σ φ Φ) (hi : XI σ φ Φ) (hw : WF Φ) {s : Nat} (hs : s < 6) : f_X0_hasSource φ (nI s) σ = some (if (sN Φ (mN Φ)).testBit s = true then 1 else 0, σ) := by
  obtain ⟨b1, b2⟩ := sN_ok hw.2.2 (mN Φ) (Nat.le_refl _)
  have q0 := eq_true hx.1.2.1
  unfold f_X0_hasSource
  simp only [chk_p, lt_p, bd_p, bc_p, oc_n, oc_s, and_self, and_true, true_and, if_true, if_false, isO_sA', isO_sB', isO_rA', hlen_sA, hlen_sB, hlen_rA, hR_sA, hR_sB, hR_rA, Typ_sA', Typ_sB', Typ_rA', q0, hi.1, b2, bit_at _ b1 s hs]
  by_cases c : (sN Φ (mN Φ)).testBit s = true
  · simp (decide := true) only [c, if_true]
  · simp (decide := true) only [c, if_false]
theorem x_out {φ f : Nat} {Φ : FM} {V S C : Nat → Int32} (hw : WF Φ) {p : Int × Int} (hx : RT Φ (LO V S) (HI V S) = some p) (g : inR (p.2 - p.1)) (a : Int32) {e : Nat} (he : e < 3) : ∀ (d s : Nat) (x : Int × Int × Int) (σ : HS), CS σ φ f Φ V S C → XI σ φ Φ → Bx σ (LO V S) (HI V S) → okB (p.2 - p.1) x → s + d = 6 → ∀ nf, d < nf →
    ∃ σ', lp_X5_best_72 nf 0 a (nI e) φ (Int64.ofInt (p.2 - p.1)) (Int64.ofInt x.1) (iJ x.2.1) (iJ x.2.2) (nI s) σ = some (resB (p.2 - p.1) e (outB Φ V S d s x), σ') ∧ Kp σ σ' := by
  intro d
  induction d with
  | zero =>
    intro s x σ h hi hb ho hd nf hnf
    obtain ⟨nf, rfl⟩ : ∃ k, nf = k + 1 := ⟨nf - 1, by omega⟩
    have : s = 6 := by omega
    subst this
    refine ⟨σ, ?_, Kp.rf⟩
    show lp_X5_best_72_b (lp_X5_best_72 nf) 0 a (nI e) φ _ _ _ _ (nI 6) σ = _
    unfold lp_X5_best_72_b
    rw [if_pos (by decide)]
    exact resE he ho g σ
  | succ d ih =>
    intro s x σ h hi hb ho hd nf hnf
    obtain ⟨nf, rfl⟩ : ∃ k, nf = k + 1 := ⟨nf - 1, by omega⟩
    have hs : s < 6 := by omega
    obtain ⟨l1, l2, l3, l4⟩ := lohi200 h hs
    have t := h.1
    have q0 := eq_true h.2.1.1.2.1
    have hS := hasS_ok h.2.1 hi hw hs
    have le : (6 : Int32) ≤ nI s ↔ False := by rw [show (6 : Int32) = nI 6 from rfl, nle (a := 6) (b := s) (by omega) (by omega)]
    have le := eq_false (fun z => le.mp z)
    show ∃ σ', lp_X5_best_72_b (lp_X5_best_72 nf) 0 a (nI e) φ _ _ _ _ (nI s) σ = _ ∧ _
    unfold lp_X5_best_72_b
    by_cases c : (sN Φ (mN Φ)).testBit s = true
    · rw [if_pos c] at hS
      obtain ⟨σ1, e1, e2, e3, e4, e5⟩ := x_inn hw hx g (lp_X5_best_72 nf) a (nI e) (Int64.ofInt (p.2 - p.1)) hs (HI V S s - LO V S s + 1).toNat (LO V S s) x σ h hb ho (Int.le_refl _) (by omega) 1000 (by omega)
      obtain ⟨σ2, g1, g2⟩ := ih (s + 1) _ σ1 e3 (Kq.xi e2 h.2.1 hi) e4 e5 (by omega) nf (by omega)
      refine ⟨σ2, ?_, e2.seq g2⟩
      rw [show outB Φ V S (d + 1) s x = outB Φ V S d (s + 1) (innB Φ V S s (HI V S s - LO V S s + 1).toNat (LO V S s) x) from rfl, ← g1, ← e1]
      have vl : V s - S s = iJ (LO V S s) := (iJ_eq (cs_val h hs).2.2.2.2.2.2.2.2.2.1 (by omega) (by omega)).symm
      simp only [le, if_false, chk_p, lt_p, bd_p, bc_p, oc_n, oc_s, and_self, and_true, true_and, if_true, if_false, isO_sA', isO_sB', isO_rA', hlen_sA, hlen_sB, hlen_rA, hR_sA, hR_sB, hR_rA, Typ_sA', Typ_sB', Typ_rA', O0, r0_0, r0_1, r0_3, r0_4, r0_5, r0_6, r0_7, O1, r1_0, r1_1, r1_2, r1_3, r1_5, r1_6, r1_7, t, q0, hS, beq1, c_low h hs, vl]
    · rw [if_neg c] at hS
      have ab : ∀ i, i < mN Φ → mK Φ i = 0 → mU Φ i ≠ s := fun i hi k z => c (by rw [← z]; exact sN_bit (mN Φ) i hi k)
      obtain ⟨σ2, g1, g2⟩ := ih (s + 1) x σ h hi hb ho (by omega) nf (by omega)
      refine ⟨σ2, ?_, g2⟩
      rw [show outB Φ V S (d + 1) s x = outB Φ V S d (s + 1) (innB Φ V S s (HI V S s - LO V S s + 1).toNat (LO V S s) x) from rfl, innB_abs hw (LOHI h) hx ab _ _ x ho.2.1, ← g1]
      simp only [le, if_false, chk_p, lt_p, bd_p, bc_p, oc_n, oc_s, and_self, and_true, true_and, if_true, if_false, isO_sA', isO_sB', isO_rA', hlen_sA, hlen_sB, hlen_rA, hR_sA, hR_sB, hR_rA, Typ_sA', Typ_sB', Typ_rA', q0, hS, nI_s]
theorem m_out {φ f : Nat} {Φ : FM} {V S C : Nat → Int32} (hf : f < 7) (hw : WF Φ) {p : Int × Int} (hx : RT Φ (LO V S) (HI V S) = some p) (g : inR (p.2 - p.1)) {e : Nat} (he : e < 3) : ∀ (d s : Nat) (x : Int × Int × Int) (σ : HS), CS σ φ f Φ V S C → okB (p.2 - p.1) x → s + d = 6 → ∀ nf, d < nf →
    ∃ σ', lp_X6_best_54 nf 48 (nI f) (nI e) (Int64.ofInt (p.2 - p.1)) (Int64.ofInt x.1) (iJ x.2.1) (iJ x.2.2) (nI s) σ = some (resB (p.2 - p.1) e (outB Φ V S d s x), σ') ∧ Kp σ σ' := by
  intro d
  induction d with
  | zero =>
    intro s x σ h ho hd nf hnf
    obtain ⟨nf, rfl⟩ : ∃ k, nf = k + 1 := ⟨nf - 1, by omega⟩
    have : s = 6 := by omega
    subst this
    refine ⟨σ, ?_, Kp.rf⟩
    show lp_X6_best_54_b (lp_X6_best_54 nf) 48 (nI f) (nI e) _ _ _ _ (nI 6) σ = _
    unfold lp_X6_best_54_b
    rw [if_pos (by decide)]
    exact resE he ho g σ
  | succ d ih =>
    intro s x σ h ho hd nf hnf
    obtain ⟨nf, rfl⟩ : ∃ k, nf = k + 1 := ⟨nf - 1, by omega⟩
    have hs : s < 6 := by omega
    obtain ⟨l1, l2, l3, l4⟩ := lohi200 h hs
    have t := h.1
    have le : (6 : Int32) ≤ nI s ↔ False := by rw [show (6 : Int32) = nI 6 from rfl, nle (a := 6) (b := s) (by omega) (by omega)]
    have le := eq_false (fun z => le.mp z)
    obtain ⟨σ1, e1, e2, e3, e5⟩ := m_inn hf hw hx g (lp_X6_best_54 nf) (nI e) (Int64.ofInt (p.2 - p.1)) hs (HI V S s - LO V S s + 1).toNat (LO V S s) x σ h ho (Int.le_refl _) (by omega) 1000 (by omega)
    obtain ⟨σ2, g1, g2⟩ := ih (s + 1) _ σ1 e3 e5 (by omega) nf (by omega)
    refine ⟨σ2, ?_, e2.seq g2⟩
    rw [show outB Φ V S (d + 1) s x = outB Φ V S d (s + 1) (innB Φ V S s (HI V S s - LO V S s + 1).toNat (LO V S s) x) from rfl, ← g1, ← e1]
    show lp_X6_best_54_b (lp_X6_best_54 nf) 48 (nI f) (nI e) _ _ _ _ (nI s) σ = _
    unfold lp_X6_best_54_b
    have vl : V s - S s = iJ (LO V S s) := (iJ_eq (cs_val h hs).2.2.2.2.2.2.2.2.2.1 (by omega) (by omega)).symm
    simp only [le, if_false, chk_p, lt_p, bd_p, bc_p, oc_n, oc_s, and_self, and_true, true_and, if_true, if_false, isO_sA', isO_sB', isO_rA', hlen_sA, hlen_sB, hlen_rA, hR_sA, hR_sB, hR_rA, Typ_sA', Typ_sB', Typ_rA', O48, r48_0, r48_1, r48_2, r48_3, r48_4, r48_5, r48_6, r48_8, r48_9, r48_10, r48_11, r48_12, r48_15, r48_21, r48_22, r48_23, r48_24, r48_25, r48_28, r48_30, r48_31, r48_32, r48_35, r48_37, r48_39, r48_40, r48_41, t, m_of3 h hs, vl]
theorem op_best (a w : Int32) : OpOK (f_X5_best 0 a w) (f_X6_best 48 a w) := by
  intro σ V S C n FS I
  have t := I.1
  rcases start I a with ⟨k, φ, hk, rfl, ef, hg, hc, hxi, em⟩ | ⟨ef, em⟩
  · rcases rng2 w with ⟨e, he, rfl, w0, w2, wm⟩ | ⟨wm, wc⟩
    · obtain ⟨σ1, x1, x2, x3, x4, x5, x6⟩ := c_now hg.1 hc
      have t1 := x3.1
      have hwd := hasWidth_ok t1 x5
      by_cases hw : WD (RT (FS k) (LO V S) (HI V S)) = none
      · obtain ⟨σ2, z1, z2, z3⟩ := m_widthNow hk hg.1 x3
        have ow := oW_no (Φ := FS k) (LOHI x3)
        rw [hw] at hwd z1 ow
        have ow1 : (lg_cmp (oW none) (-9223372036854775807) = 0) = True := ow.trans (eq_true rfl)
        refine opQ I ⟨-9223372036854775807, σ1, σ2, ?_, x2, ?_, z2⟩
        · unfold f_X5_best
          simp only [chk_p, lt_p, bd_p, bc_p, oc_n, oc_s, and_self, and_true, true_and, if_true, if_false, isO_sA', isO_sB', isO_rA', hlen_sA, hlen_sB, hlen_rA, hR_sA, hR_sB, hR_rA, Typ_sA', Typ_sB', Typ_rA', O0, r0_0, r0_1, r0_3, r0_4, r0_5, r0_6, r0_7, O24, r24_0, r24_1, r24_5, r24_6, r24_7, r24_8, r24_9, t, t1, ef, w0, w2, if_false, x1, hwd, Option.isSome_none, Bool.false_eq_true]
        · unfold f_X6_best
          simp only [chk_p, lt_p, bd_p, bc_p, oc_n, oc_s, and_self, and_true, true_and, if_true, if_false, isO_sA', isO_sB', isO_rA', hlen_sA, hlen_sB, hlen_rA, hR_sA, hR_sB, hR_rA, Typ_sA', Typ_sB', Typ_rA', O48, r48_0, r48_1, r48_2, r48_3, r48_4, r48_5, r48_6, r48_8, r48_9, r48_10, r48_11, r48_12, r48_15, r48_21, r48_22, r48_23, r48_24, r48_25, r48_28, r48_30, r48_31, r48_32, r48_35, r48_37, r48_39, r48_40, r48_41, t1, em σ1 t1 x2.k7, beq1, wm, if_false, z1, ow1]
      · obtain ⟨wd, hw'⟩ := Option.ne_none_iff_exists'.mp hw
        obtain ⟨p, hp, hpw, hw0, hwr⟩ := WD_some (LOHI hc) hw'
        subst hpw
        have ok0 : okB (p.2 - p.1) (p.2 - p.1, -1, 0) := ⟨hw0, Int.le_refl _, Int.le_refl (-1), (by decide : (-1 : Int) ≤ 5), (by decide : (-200 : Int) ≤ 0), (by decide : (0 : Int) ≤ 200)⟩
        rw [hp] at x5
        obtain ⟨b1, b2, b3, b4⟩ := x5
        have ew : hB σ1 24 4 - hB σ1 24 3 = Int64.ofInt (p.2 - p.1) := (ofI_eq (by rw [l_sub (by rw [b2, b3]; exact hwr), b2, b3])).symm
        obtain ⟨σ2, y1, y2⟩ := x_out hg.1 hp hwr (nI k) he 6 0 (p.2 - p.1, -1, 0) σ1 x3 (Kq.xi x2 hc.2.1 hxi) x6 ok0 (by omega) 1000 (by omega)
        have c2 := x3.kp y2
        have t2 := c2.1
        obtain ⟨σ3, z1, z2, z3⟩ := m_widthNow hk hg.1 c2
        have t3 := z3.1
        obtain ⟨σ4, u1, u2⟩ := m_out hk hg.1 hp hwr he 6 0 (p.2 - p.1, -1, 0) σ3 z3 ok0 (by omega) 1000 (by omega)
        have ow := oW_no (Φ := FS k) (LOHI x3)
        have ow' : (WD (RT (FS k) (LO V S) (HI V S)) = none) = False := eq_false hw
        rw [ow'] at ow
        rw [hw'] at hwd z1 ow
        refine opQ I ⟨resB (p.2 - p.1) e (outB (FS k) V S 6 0 (p.2 - p.1, -1, 0)), σ2, σ4, ?_, x2.seq y2, ?_, z2.seq u2⟩
        · unfold f_X5_best
          simp only [chk_p, lt_p, bd_p, bc_p, oc_n, oc_s, and_self, and_true, true_and, if_true, if_false, isO_sA', isO_sB', isO_rA', hlen_sA, hlen_sB, hlen_rA, hR_sA, hR_sB, hR_rA, Typ_sA', Typ_sB', Typ_rA', O0, r0_0, r0_1, r0_3, r0_4, r0_5, r0_6, r0_7, O24, r24_0, r24_1, r24_5, r24_6, r24_7, r24_8, r24_9, t, t1, ef, w0, w2, if_false, x1, hwd, Option.isSome_some, beq1, ew]
          exact y1
        · unfold f_X6_best
          simp only [chk_p, lt_p, bd_p, bc_p, oc_n, oc_s, and_self, and_true, true_and, if_true, if_false, isO_sA', isO_sB', isO_rA', hlen_sA, hlen_sB, hlen_rA, hR_sA, hR_sB, hR_rA, Typ_sA', Typ_sB', Typ_rA', O48, r48_0, r48_1, r48_2, r48_3, r48_4, r48_5, r48_6, r48_8, r48_9, r48_10, r48_11, r48_12, r48_15, r48_21, r48_22, r48_23, r48_24, r48_25, r48_28, r48_30, r48_31, r48_32, r48_35, r48_37, r48_39, r48_40, r48_41, t2, t3, em σ2 t2 (x2.seq y2).k7, beq1, wm, if_false, z1, ow]
          exact u1
    · refine opN I (-9223372036854775808) ?_ ?_
      · unfold f_X5_best
        rcases wc with wc | ⟨wc, wc2⟩
        · simp only [chk_p, lt_p, bd_p, bc_p, oc_n, oc_s, and_self, and_true, true_and, if_true, if_false, isO_sA', isO_sB', isO_rA', hlen_sA, hlen_sB, hlen_rA, hR_sA, hR_sB, hR_rA, Typ_sA', Typ_sB', Typ_rA', O0, r0_0, r0_1, r0_3, r0_4, r0_5, r0_6, r0_7, t, ef, wc]
        · simp only [chk_p, lt_p, bd_p, bc_p, oc_n, oc_s, and_self, and_true, true_and, if_true, if_false, isO_sA', isO_sB', isO_rA', hlen_sA, hlen_sB, hlen_rA, hR_sA, hR_sB, hR_rA, Typ_sA', Typ_sB', Typ_rA', O0, r0_0, r0_1, r0_3, r0_4, r0_5, r0_6, r0_7, t, ef, wc, wc2, if_false]
      · unfold f_X6_best
        simp only [chk_p, lt_p, bd_p, bc_p, oc_n, oc_s, and_self, and_true, true_and, if_true, if_false, isO_sA', isO_sB', isO_rA', hlen_sA, hlen_sB, hlen_rA, hR_sA, hR_sB, hR_rA, Typ_sA', Typ_sB', Typ_rA', O48, r48_0, r48_1, r48_2, r48_3, r48_4, r48_5, r48_6, r48_8, r48_9, r48_10, r48_11, r48_12, r48_15, r48_21, r48_22, r48_23, r48_24, r48_25, r48_28, r48_30, r48_31, r48_32, r48_35, r48_37, r48_39, r48_40, r48_41, t, em σ t rfl, beq1, wm, if_false]
  · refine opN I (-9223372036854775808) ?_ ?_
    · unfold f_X5_best
      simp only [chk_p, lt_p, bd_p, bc_p, oc_n, oc_s, and_self, and_true, true_and, if_true, if_false, isO_sA', isO_sB', isO_rA', hlen_sA, hlen_sB, hlen_rA, hR_sA, hR_sB, hR_rA, Typ_sA', Typ_sB', Typ_rA', O0, r0_0, r0_1, r0_3, r0_4, r0_5, r0_6, r0_7, t, ef]
    · unfold f_X6_best
      simp only [chk_p, lt_p, bd_p, bc_p, oc_n, oc_s, and_self, and_true, true_and, if_true, if_false, isO_sA', isO_sB', isO_rA', hlen_sA, hlen_sB, hlen_rA, hR_sA, hR_sB, hR_rA, Typ_sA', Typ_sB', Typ_rA', O48, r48_0, r48_1, r48_2, r48_3, r48_4, r48_5, r48_6, r48_8, r48_9, r48_10, r48_11, r48_12, r48_15, r48_21, r48_22, r48_23, r48_24, r48_25, r48_28, r48_30, r48_31, r48_32, r48_35, r48_37, r48_39, r48_40, r48_41, t, em]
