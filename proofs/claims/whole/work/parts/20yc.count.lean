/-! count, judge -/
theorem fml {σ : HS} {V S C : Nat → Int32} {n : Nat} {FS : Nat → FM} (I : INV σ V S C n FS) {k : Nat} (hk : k < n) : ∃ φ, f_X5_formulaOf 0 (nI k) σ = some (some φ, σ) ∧ Good (FS k) ∧ CS σ φ k (FS k) V S C ∧ XI σ φ (FS k) := by
  have t := I.1
  obtain ⟨hn6, hg, e1, e2, ex, em, er⟩ := I.2.2.1
  obtain ⟨φ, hφ, hx, hxi⟩ := ex k hk
  have ef := formulaOf_so t hn6 e1 hk
  rw [hφ] at ef
  exact ⟨φ, ef, hg k hk, ⟨t, hx, em k hk, I.2.1⟩, hxi⟩
theorem SP_le {Φ : FM} {L H : Nat → Int} (h : ∀ s, L s ≤ H s) {i : Nat} {p : Int × Int} (e : SP Φ L H i = some p) : p.1 ≤ p.2 := SPI_le Φ h (a := p.1) (b := p.2) e
theorem WD_some {Φ : FM} {L H : Nat → Int} (h : ∀ s, L s ≤ H s) {w : Int} (e : WD (RT Φ L H) = some w) : ∃ p, RT Φ L H = some p ∧ w = p.2 - p.1 ∧ 0 ≤ w ∧ inR w := by
  cases hx : RT Φ L H with
  | none => rw [hx] at e; cases e
  | some p =>
    rw [hx] at e
    have := SP_le h (p := p) hx
    unfold WD at e
    dsimp only at e
    by_cases g : inR (p.2 - p.1)
    · rw [if_pos g] at e; cases e; exact ⟨p, rfl, rfl, by omega, g⟩
    · rw [if_neg g] at e; cases e
theorem ov_i : (-9223372036854775807 : Int64).toInt = -9223372036854775807 := rfl
theorem oW_no {Φ : FM} {L H : Nat → Int} (h : ∀ s, L s ≤ H s) : (lg_cmp (oW (WD (RT Φ L H))) (-9223372036854775807) = 0) = (WD (RT Φ L H) = none) := by
  rw [z_eq]
  cases hx : WD (RT Φ L H) with
  | none => exact propext ⟨fun _ => rfl, fun _ => rfl⟩
  | some w =>
    obtain ⟨p, -, -, h0, h1⟩ := WD_some h hx
    refine propext ⟨fun z => ?_, fun z => by cases z⟩
    have z' := congrArg Int64.toInt z
    rw [show oW (some w) = Int64.ofInt w from rfl, ofI h1, ov_i] at z'
    omega
/-! sources with a span -/
theorem x_sws {σ : HS} {φ f : Nat} {Φ : FM} {V S C : Nat → Int32} (t : Typ σ) (hs : SrcI σ 2 49 V S C) : ∀ d i, i + d = 6 → ∀ nf, d < nf → lp_X5_sourcesWithSpan_4 nf 0 (nI (cntB (fun s => decide (0 < (S s).toInt)) i)) (nI i) σ = some (nI (cntB (fun s => decide (0 < (S s).toInt)) 6), σ) := by
  intro d
  induction d with
  | zero =>
    intro i hi nf hnf
    obtain ⟨nf, rfl⟩ : ∃ k, nf = k + 1 := ⟨nf - 1, by omega⟩
    have : i = 6 := by omega
    subst this
    show lp_X5_sourcesWithSpan_4_b (lp_X5_sourcesWithSpan_4 nf) 0 _ (nI 6) σ = _
    unfold lp_X5_sourcesWithSpan_4_b
    exact if_pos (by decide)
  | succ d ih =>
    intro i hi nf hnf
    obtain ⟨nf, rfl⟩ : ∃ k, nf = k + 1 := ⟨nf - 1, by omega⟩
    have e := ih (i + 1) (by omega) nf (by omega)
    show lp_X5_sourcesWithSpan_4_b (lp_X5_sourcesWithSpan_4 nf) 0 _ (nI i) σ = _
    unfold lp_X5_sourcesWithSpan_4_b
    have le : (6 : Int32) ≤ nI i ↔ False := by rw [show (6 : Int32) = nI 6 from rfl, nle (a := 6) (b := i) (by omega) (by omega)]
    have le := eq_false (fun z => le.mp z)
    have ie := inbE (i := i) (n := 6) (by omega) (by omega)
    have ci := cl1000 (i := i) (by omega)
    have v := (hs i (by omega)).1.2.1
    have v' : hA σ 3 i = S i := v
    have l0 : (S i ≤ 0) = ¬ (0 < (S i).toInt) := by rw [i_le, z320]; exact propext ⟨fun z => by omega, fun z => by omega⟩
    rw [show cntB (fun s => decide (0 < (S s).toInt)) (i + 1) = cntB (fun s => decide (0 < (S s).toInt)) i + (if decide (0 < (S i).toInt) = true then 1 else 0) from rfl] at e
    by_cases c : 0 < (S i).toInt
    · rw [if_pos (decide_eq_true c)] at e
      simp only [le, if_false, chk_p, lt_p, bd_p, bc_p, oc_n, oc_s, and_self, and_true, true_and, if_true, if_false, isO_sA', isO_sB', isO_rA', hlen_sA, hlen_sB, hlen_rA, hR_sA, hR_sB, hR_rA, Typ_sA', Typ_sB', Typ_rA', O0, r0_0, r0_1, r0_3, r0_4, r0_5, r0_6, r0_7, O1, r1_0, r1_1, r1_2, r1_3, r1_5, r1_6, r1_7, O3, l3, t, ie, ci, v', l0, c, not_true, nI_s, e]
    · rw [if_neg (fun z => c (of_decide_eq_true z))] at e
      simp only [le, if_false, chk_p, lt_p, bd_p, bc_p, oc_n, oc_s, and_self, and_true, true_and, if_true, if_false, isO_sA', isO_sB', isO_rA', hlen_sA, hlen_sB, hlen_rA, hR_sA, hR_sB, hR_rA, Typ_sA', Typ_sB', Typ_rA', O0, r0_0, r0_1, r0_3, r0_4, r0_5, r0_6, r0_7, O1, r1_0, r1_1, r1_2, r1_3, r1_5, r1_6, r1_7, O3, l3, t, ie, ci, v', l0, c, not_false_iff, Int32.add_zero, nI_s, Nat.add_zero] at e ⊢
      exact e
theorem m_sws {σ : HS} {V S C : Nat → Int32} (t : Typ σ) (hs : SrcI σ 2 49 V S C) : ∀ d i, i + d = 6 → ∀ nf, d < nf → lp_X6_spannedMany_4 nf 48 (nI (cntB (fun s => decide (0 < (S s).toInt)) i)) (nI i) σ = some (nI (cntB (fun s => decide (0 < (S s).toInt)) 6), σ) := by
  intro d
  induction d with
  | zero =>
    intro i hi nf hnf
    obtain ⟨nf, rfl⟩ : ∃ k, nf = k + 1 := ⟨nf - 1, by omega⟩
    have : i = 6 := by omega
    subst this
    show lp_X6_spannedMany_4_b (lp_X6_spannedMany_4 nf) 48 _ (nI 6) σ = _
    unfold lp_X6_spannedMany_4_b
    exact if_pos (by decide)
  | succ d ih =>
    intro i hi nf hnf
    obtain ⟨nf, rfl⟩ : ∃ k, nf = k + 1 := ⟨nf - 1, by omega⟩
    have e := ih (i + 1) (by omega) nf (by omega)
    show lp_X6_spannedMany_4_b (lp_X6_spannedMany_4 nf) 48 _ (nI i) σ = _
    unfold lp_X6_spannedMany_4_b
    have le : (6 : Int32) ≤ nI i ↔ False := by rw [show (6 : Int32) = nI 6 from rfl, nle (a := 6) (b := i) (by omega) (by omega)]
    have le := eq_false (fun z => le.mp z)
    have v := spanOf_ok t (show i < 6 by omega)
    have v' : hA σ 49 (3 * i + 1) = S i := (hs i (by omega)).2.1.2.1
    rw [v'] at v
    have l0 : (S i ≤ 0) = ¬ (0 < (S i).toInt) := by rw [i_le, z320]; exact propext ⟨fun z => by omega, fun z => by omega⟩
    rw [show cntB (fun s => decide (0 < (S s).toInt)) (i + 1) = cntB (fun s => decide (0 < (S s).toInt)) i + (if decide (0 < (S i).toInt) = true then 1 else 0) from rfl] at e
    by_cases c : 0 < (S i).toInt
    · rw [if_pos (decide_eq_true c)] at e
      simp only [le, if_false, chk_p, lt_p, bd_p, bc_p, oc_n, oc_s, and_self, and_true, true_and, if_true, if_false, isO_sA', isO_sB', isO_rA', hlen_sA, hlen_sB, hlen_rA, hR_sA, hR_sB, hR_rA, Typ_sA', Typ_sB', Typ_rA', O48, r48_0, r48_1, r48_2, r48_3, r48_4, r48_5, r48_6, r48_8, r48_9, r48_10, r48_11, r48_12, r48_15, r48_21, r48_22, r48_23, r48_24, r48_25, r48_28, r48_30, r48_31, r48_32, r48_35, r48_37, r48_39, r48_40, r48_41, t, v, l0, c, not_true, nI_s, e]
    · rw [if_neg (fun z => c (of_decide_eq_true z))] at e
      simp only [le, if_false, chk_p, lt_p, bd_p, bc_p, oc_n, oc_s, and_self, and_true, true_and, if_true, if_false, isO_sA', isO_sB', isO_rA', hlen_sA, hlen_sB, hlen_rA, hR_sA, hR_sB, hR_rA, Typ_sA', Typ_sB', Typ_rA', O48, r48_0, r48_1, r48_2, r48_3, r48_4, r48_5, r48_6, r48_8, r48_9, r48_10, r48_11, r48_12, r48_15, r48_21, r48_22, r48_23, r48_24, r48_25, r48_28, r48_30, r48_31, r48_32, r48_35, r48_37, r48_39, r48_40, r48_41, t, v, l0, c, not_false_iff, Int32.add_zero, nI_s, Nat.add_zero] at e ⊢
      exact e
/-! formulas that are over -/
def ovF (V S : Nat → Int32) (FS : Nat → FM) (k : Nat) : Bool := (RT (FS k) (LO V S) (HI V S)).isNone
theorem x_fov {V S C : Nat → Int32} {n : Nat} {FS : Nat → FM} : ∀ d i (σ : HS), INV σ V S C n FS → i + d = n → ∀ nf, d < nf → ∃ σ', lp_X5_formulasOver_4 nf 0 (nI (cntB (ovF V S FS) i)) (nI i) σ = some (nI (cntB (ovF V S FS) n), σ') ∧ Kp σ σ' := by
  intro d
  induction d with
  | zero =>
    intro i σ I hi nf hnf
    obtain ⟨nf, rfl⟩ : ∃ k, nf = k + 1 := ⟨nf - 1, by omega⟩
    have : i = n := by omega
    subst this
    refine ⟨σ, ?_, Kp.rf⟩
    show lp_X5_formulasOver_4_b (lp_X5_formulasOver_4 nf) 0 _ (nI i) σ = _
    unfold lp_X5_formulasOver_4_b
    have e4 := I.2.2.1.2.2.1
    have t := I.1
    have le : (nI i ≤ nI i) = True := eq_true (Int32.le_refl _)
    simp only [chk_p, lt_p, bd_p, bc_p, oc_n, oc_s, and_self, and_true, true_and, if_true, if_false, isO_sA', isO_sB', isO_rA', hlen_sA, hlen_sB, hlen_rA, hR_sA, hR_sB, hR_rA, Typ_sA', Typ_sB', Typ_rA', O0, r0_0, r0_1, r0_3, r0_4, r0_5, r0_6, r0_7, O1, r1_0, r1_1, r1_2, r1_3, r1_5, r1_6, r1_7, t, e4, le]
  | succ d ih =>
    intro i σ I hi nf hnf
    obtain ⟨nf, rfl⟩ : ∃ k, nf = k + 1 := ⟨nf - 1, by omega⟩
    have n6 := I.2.2.1.1
    obtain ⟨φ, ef, hg, hc, -⟩ := fml I (show i < n by omega)
    obtain ⟨σ1, x1, x2, x3, x4, x5, x6⟩ := c_now hg.1 hc
    have xo := th_over x5
    obtain ⟨σ2, e, k2⟩ := ih (i + 1) σ1 (I.kp x2) (by omega) nf (by omega)
    refine ⟨σ2, ?_, x2.seq k2⟩
    show lp_X5_formulasOver_4_b (lp_X5_formulasOver_4 nf) 0 _ (nI i) σ = _
    unfold lp_X5_formulasOver_4_b
    have e4 := I.2.2.1.2.2.1
    have t := I.1
    have t1 := x3.1
    have le := nle (a := n) (b := i) (by omega) (by omega)
    rw [show cntB (ovF V S FS) (i + 1) = cntB (ovF V S FS) i + (if ovF V S FS i = true then 1 else 0) from rfl] at e
    by_cases c : ovF V S FS i = true
    · rw [if_pos c] at e
      rw [if_pos (show (RT (FS i) (LO V S) (HI V S)).isNone = true from c)] at xo
      simp only [le, if_false, chk_p, lt_p, bd_p, bc_p, oc_n, oc_s, and_self, and_true, true_and, if_true, if_false, isO_sA', isO_sB', isO_rA', hlen_sA, hlen_sB, hlen_rA, hR_sA, hR_sB, hR_rA, Typ_sA', Typ_sB', Typ_rA', O0, r0_0, r0_1, r0_3, r0_4, r0_5, r0_6, r0_7, O1, r1_0, r1_1, r1_2, r1_3, r1_5, r1_6, r1_7, O24, r24_0, r24_1, r24_5, r24_6, r24_7, r24_8, r24_9, t, t1, e4, ef, x1, xo, beq1, nI_s, e]
    · rw [if_neg c] at e
      rw [if_neg (show ¬ (RT (FS i) (LO V S) (HI V S)).isNone = true from c)] at xo
      simp only [le, if_false, chk_p, lt_p, bd_p, bc_p, oc_n, oc_s, and_self, and_true, true_and, if_true, if_false, isO_sA', isO_sB', isO_rA', hlen_sA, hlen_sB, hlen_rA, hR_sA, hR_sB, hR_rA, Typ_sA', Typ_sB', Typ_rA', O0, r0_0, r0_1, r0_3, r0_4, r0_5, r0_6, r0_7, O1, r1_0, r1_1, r1_2, r1_3, r1_5, r1_6, r1_7, O24, r24_0, r24_1, r24_5, r24_6, r24_7, r24_8, r24_9, t, t1, e4, ef, x1, xo, Int32.add_zero, nI_s, Nat.add_zero] at e ⊢
      exact e
theorem m_fov {V S C : Nat → Int32} {n : Nat} {FS : Nat → FM} : ∀ d i (σ : HS), INV σ V S C n FS → i + d = n → ∀ nf, d < nf → ∃ σ', lp_X6_overMany_4 nf 48 (nI (cntB (ovF V S FS) i)) (nI i) σ = some (nI (cntB (ovF V S FS) n), σ') ∧ Kp σ σ' := by
  intro d
  induction d with
  | zero =>
    intro i σ I hi nf hnf
    obtain ⟨nf, rfl⟩ : ∃ k, nf = k + 1 := ⟨nf - 1, by omega⟩
    have : i = n := by omega
    subst this
    refine ⟨σ, ?_, Kp.rf⟩
    show lp_X6_overMany_4_b (lp_X6_overMany_4 nf) 48 _ (nI i) σ = _
    unfold lp_X6_overMany_4_b
    have e4 := I.2.2.1.2.2.2.1
    have t := I.1
    have le : (nI i ≤ nI i) = True := eq_true (Int32.le_refl _)
    simp only [chk_p, lt_p, bd_p, bc_p, oc_n, oc_s, and_self, and_true, true_and, if_true, if_false, isO_sA', isO_sB', isO_rA', hlen_sA, hlen_sB, hlen_rA, hR_sA, hR_sB, hR_rA, Typ_sA', Typ_sB', Typ_rA', O48, r48_0, r48_1, r48_2, r48_3, r48_4, r48_5, r48_6, r48_8, r48_9, r48_10, r48_11, r48_12, r48_15, r48_21, r48_22, r48_23, r48_24, r48_25, r48_28, r48_30, r48_31, r48_32, r48_35, r48_37, r48_39, r48_40, r48_41, t, e4, le]
  | succ d ih =>
    intro i σ I hi nf hnf
    obtain ⟨nf, rfl⟩ : ∃ k, nf = k + 1 := ⟨nf - 1, by omega⟩
    have n6 := I.2.2.1.1
    obtain ⟨φ, ef, hg, hc, -⟩ := fml I (show i < n by omega)
    obtain ⟨σ1, x1, x2, x3, x4, x5, x6⟩ := m_now (show i < 7 by omega) hg.1 hc
    obtain ⟨σ2, e, k2⟩ := ih (i + 1) σ1 (I.kp x2) (by omega) nf (by omega)
    refine ⟨σ2, ?_, x2.seq k2⟩
    show lp_X6_overMany_4_b (lp_X6_overMany_4 nf) 48 _ (nI i) σ = _
    unfold lp_X6_overMany_4_b
    have e4 := I.2.2.1.2.2.2.1
    have t := I.1
    have t1 := x3.1
    have le := nle (a := n) (b := i) (by omega) (by omega)
    rw [show cntB (ovF V S FS) (i + 1) = cntB (ovF V S FS) i + (if ovF V S FS i = true then 1 else 0) from rfl] at e
    cases hx : RT (FS i) (LO V S) (HI V S) with
    | none =>
      rw [hx] at x1
      rw [if_pos (show ovF V S FS i = true by unfold ovF; rw [hx]; rfl)] at e
      simp only [le, if_false, chk_p, lt_p, bd_p, bc_p, oc_n, oc_s, and_self, and_true, true_and, if_true, if_false, isO_sA', isO_sB', isO_rA', hlen_sA, hlen_sB, hlen_rA, hR_sA, hR_sB, hR_rA, Typ_sA', Typ_sB', Typ_rA', O48, r48_0, r48_1, r48_2, r48_3, r48_4, r48_5, r48_6, r48_8, r48_9, r48_10, r48_11, r48_12, r48_15, r48_21, r48_22, r48_23, r48_24, r48_25, r48_28, r48_30, r48_31, r48_32, r48_35, r48_37, r48_39, r48_40, r48_41, t, t1, e4, x1, rc, nI_s, e]
    | some p =>
      rw [hx] at x1
      rw [if_neg (show ¬ ovF V S FS i = true by unfold ovF; rw [hx]; exact fun z => by cases z)] at e
      simp only [le, if_false, chk_p, lt_p, bd_p, bc_p, oc_n, oc_s, and_self, and_true, true_and, if_true, if_false, isO_sA', isO_sB', isO_rA', hlen_sA, hlen_sB, hlen_rA, hR_sA, hR_sB, hR_rA, Typ_sA', Typ_sB', Typ_rA', O48, r48_0, r48_1, r48_2, r48_3, r48_4, r48_5, r48_6, r48_8, r48_9, r48_10, r48_11, r48_12, r48_15, r48_21, r48_22, r48_23, r48_24, r48_25, r48_28, r48_30, r48_31, r48_32, r48_35, r48_37, r48_39, r48_40, r48_41, t, t1, e4, x1, rc, beq1, Int32.add_zero, nI_s, Nat.add_zero] at e ⊢
      exact e
theorem op_count (a : Int32) : OpOK (f_X5_count 0 a) (f_X6_count 48 a) := by
  intro σ V S C n FS I
  have t := I.1
  have e4 := I.2.2.1.2.2.1
  have e7 := I.2.2.1.2.2.2.1
  obtain ⟨m, B, ht⟩ := I.2.2.2.1
  obtain ⟨p, PS, PW, PV, hp⟩ := I.2.2.2.2.1
  by_cases c0 : a = 0
  · subst c0
    refine opN I (nI n) ?_ ?_
    · unfold f_X5_count
      simp (decide := true) only [chk_p, lt_p, bd_p, bc_p, oc_n, oc_s, and_self, and_true, true_and, if_true, if_false, isO_sA', isO_sB', isO_rA', hlen_sA, hlen_sB, hlen_rA, hR_sA, hR_sB, hR_rA, Typ_sA', Typ_sB', Typ_rA', O0, r0_0, r0_1, r0_3, r0_4, r0_5, r0_6, r0_7, O1, r1_0, r1_1, r1_2, r1_3, r1_5, r1_6, r1_7, t, e4]
    · unfold f_X6_count
      simp (decide := true) only [chk_p, lt_p, bd_p, bc_p, oc_n, oc_s, and_self, and_true, true_and, if_true, if_false, isO_sA', isO_sB', isO_rA', hlen_sA, hlen_sB, hlen_rA, hR_sA, hR_sB, hR_rA, Typ_sA', Typ_sB', Typ_rA', O48, r48_0, r48_1, r48_2, r48_3, r48_4, r48_5, r48_6, r48_8, r48_9, r48_10, r48_11, r48_12, r48_15, r48_21, r48_22, r48_23, r48_24, r48_25, r48_28, r48_30, r48_31, r48_32, r48_35, r48_37, r48_39, r48_40, r48_41, t, e7]
  by_cases c1 : a = 1
  · subst c1
    refine opN I (nI m) ?_ ?_
    · unfold f_X5_count
      simp (decide := true) only [chk_p, lt_p, bd_p, bc_p, oc_n, oc_s, and_self, and_true, true_and, if_true, if_false, isO_sA', isO_sB', isO_rA', hlen_sA, hlen_sB, hlen_rA, hR_sA, hR_sB, hR_rA, Typ_sA', Typ_sB', Typ_rA', O0, r0_0, r0_1, r0_3, r0_4, r0_5, r0_6, r0_7, O17, r17_0, r17_3, r17_4, r17_5, r17_6, r17_7, t, ht.2.1, if_false]
    · unfold f_X6_count
      simp (decide := true) only [chk_p, lt_p, bd_p, bc_p, oc_n, oc_s, and_self, and_true, true_and, if_true, if_false, isO_sA', isO_sB', isO_rA', hlen_sA, hlen_sB, hlen_rA, hR_sA, hR_sB, hR_rA, Typ_sA', Typ_sB', Typ_rA', O48, r48_0, r48_1, r48_2, r48_3, r48_4, r48_5, r48_6, r48_8, r48_9, r48_10, r48_11, r48_12, r48_15, r48_21, r48_22, r48_23, r48_24, r48_25, r48_28, r48_30, r48_31, r48_32, r48_35, r48_37, r48_39, r48_40, r48_41, t, ht.2.2.1, if_false]
  by_cases c2 : a = 2
  · subst c2
    refine opN I (nI p) ?_ ?_
    · unfold f_X5_count
      simp (decide := true) only [chk_p, lt_p, bd_p, bc_p, oc_n, oc_s, and_self, and_true, true_and, if_true, if_false, isO_sA', isO_sB', isO_rA', hlen_sA, hlen_sB, hlen_rA, hR_sA, hR_sB, hR_rA, Typ_sA', Typ_sB', Typ_rA', O0, r0_0, r0_1, r0_3, r0_4, r0_5, r0_6, r0_7, O1, r1_0, r1_1, r1_2, r1_3, r1_5, r1_6, r1_7, t, hp.2.1, if_false]
    · unfold f_X6_count
      simp (decide := true) only [chk_p, lt_p, bd_p, bc_p, oc_n, oc_s, and_self, and_true, true_and, if_true, if_false, isO_sA', isO_sB', isO_rA', hlen_sA, hlen_sB, hlen_rA, hR_sA, hR_sB, hR_rA, Typ_sA', Typ_sB', Typ_rA', O48, r48_0, r48_1, r48_2, r48_3, r48_4, r48_5, r48_6, r48_8, r48_9, r48_10, r48_11, r48_12, r48_15, r48_21, r48_22, r48_23, r48_24, r48_25, r48_28, r48_30, r48_31, r48_32, r48_35, r48_37, r48_39, r48_40, r48_41, t, hp.2.2.1, if_false]
  by_cases c3 : a = 3
  · subst c3
    obtain ⟨σ1, x1, x2⟩ := x_fov n 0 σ I (by omega) 1000 (by have := I.2.2.1.1; omega)
    obtain ⟨σ2, z1, z2⟩ := m_fov n 0 σ1 (I.kp x2) (by omega) 1000 (by have := I.2.2.1.1; omega)
    have t1 := x2.typ t
    refine opQ I ⟨nI (cntB (ovF V S FS) n), σ1, σ2, ?_, x2, ?_, z2⟩
    · unfold f_X5_count
      simp (decide := true) only [chk_p, lt_p, bd_p, bc_p, oc_n, oc_s, and_self, and_true, true_and, if_true, if_false, isO_sA', isO_sB', isO_rA', hlen_sA, hlen_sB, hlen_rA, hR_sA, hR_sB, hR_rA, Typ_sA', Typ_sB', Typ_rA', O0, r0_0, r0_1, r0_3, r0_4, r0_5, r0_6, r0_7, t, f_X5_formulasOver, if_false]
      rw [show lp_X5_formulasOver_4 1000 0 0 0 σ = _ from x1]; rfl
    · unfold f_X6_count
      simp (decide := true) only [chk_p, lt_p, bd_p, bc_p, oc_n, oc_s, and_self, and_true, true_and, if_true, if_false, isO_sA', isO_sB', isO_rA', hlen_sA, hlen_sB, hlen_rA, hR_sA, hR_sB, hR_rA, Typ_sA', Typ_sB', Typ_rA', O48, r48_0, r48_1, r48_2, r48_3, r48_4, r48_5, r48_6, r48_8, r48_9, r48_10, r48_11, r48_12, r48_15, r48_21, r48_22, r48_23, r48_24, r48_25, r48_28, r48_30, r48_31, r48_32, r48_35, r48_37, r48_39, r48_40, r48_41, t1, f_X6_overMany, if_false]
      rw [show lp_X6_overMany_4 1000 48 0 0 σ1 = _ from z1]; rfl
  by_cases c4 : a = 4
  · subst c4
    have x1 := x_sws (φ := 0) (f := 0) (Φ := FS 0) t I.2.1 6 0 (by omega) 1000 (by omega)
    have z1 := m_sws t I.2.1 6 0 (by omega) 1000 (by omega)
    refine opN I (nI (cntB (fun s => decide (0 < (S s).toInt)) 6)) ?_ ?_
    · unfold f_X5_count
      simp (decide := true) only [chk_p, lt_p, bd_p, bc_p, oc_n, oc_s, and_self, and_true, true_and, if_true, if_false, isO_sA', isO_sB', isO_rA', hlen_sA, hlen_sB, hlen_rA, hR_sA, hR_sB, hR_rA, Typ_sA', Typ_sB', Typ_rA', O0, r0_0, r0_1, r0_3, r0_4, r0_5, r0_6, r0_7, t, f_X5_sourcesWithSpan, if_false]
      rw [show lp_X5_sourcesWithSpan_4 1000 0 0 0 σ = _ from x1]; rfl
    · unfold f_X6_count
      simp (decide := true) only [chk_p, lt_p, bd_p, bc_p, oc_n, oc_s, and_self, and_true, true_and, if_true, if_false, isO_sA', isO_sB', isO_rA', hlen_sA, hlen_sB, hlen_rA, hR_sA, hR_sB, hR_rA, Typ_sA', Typ_sB', Typ_rA', O48, r48_0, r48_1, r48_2, r48_3, r48_4, r48_5, r48_6, r48_8, r48_9, r48_10, r48_11, r48_12, r48_15, r48_21, r48_22, r48_23, r48_24, r48_25, r48_28, r48_30, r48_31, r48_32, r48_35, r48_37, r48_39, r48_40, r48_41, t, f_X6_spannedMany, if_false]
      rw [show lp_X6_spannedMany_4 1000 48 0 0 σ = _ from z1]; rfl
  refine opN I (-2) ?_ ?_
  · unfold f_X5_count
    simp only [c0, c1, c2, c3, c4, if_false]
  · unfold f_X6_count
    simp only [c0, c1, c2, c3, c4, if_false]
/-! judge -/
def jR (bad : Nat → Bool) : Nat → Nat → Int32
  | 0, _ => -5
  | d + 1, i => if bad i = true then nI i else jR bad d (i + 1)
def badJ (V S : Nat → Int32) (n : Nat) (FS : Nat → FM) (row : Nat → Int64) (i : Nat) : Bool := decide (n ≤ i) || !(decide (WD (RT (FS i) (LO V S) (HI V S)) = some (row i).toInt))
theorem x_judge {V S C : Nat → Int32} {n : Nat} {FS : Nat → FM} {l m : Nat} (hl : l < 4) (hm : m ≤ 8) {row : Nat → Int64} : ∀ d i (σ : HS), INV σ V S C n FS → (∀ k, hB σ (42 + l) k = row k) → hA σ 46 l = nI m → i + d = m → ∀ nf, d < nf → ∃ σ', lp_X5_judge_25 nf 0 (nI l) (nI i) σ = some (jR (badJ V S n FS row) d i, σ') ∧ Kp σ σ' := by
  intro d
  induction d with
  | zero =>
    intro i σ I hr e46 hi nf hnf
    obtain ⟨nf, rfl⟩ : ∃ k, nf = k + 1 := ⟨nf - 1, by omega⟩
    have : i = m := by omega
    subst this
    refine ⟨σ, ?_, Kp.rf⟩
    show lp_X5_judge_25_b (lp_X5_judge_25 nf) 0 (nI l) (nI i) σ = _
    unfold lp_X5_judge_25_b
    have t := I.1
    have le := inbE (i := l) (n := 4) hl (by omega)
    have cl := cl1000 (i := l) (by omega)
    have ll : (nI i ≤ nI i) = True := eq_true (Int32.le_refl _)
    simp only [chk_p, lt_p, bd_p, bc_p, oc_n, oc_s, and_self, and_true, true_and, if_true, if_false, isO_sA', isO_sB', isO_rA', hlen_sA, hlen_sB, hlen_rA, hR_sA, hR_sB, hR_rA, Typ_sA', Typ_sB', Typ_rA', O0, r0_0, r0_1, r0_3, r0_4, r0_5, r0_6, r0_7, O46, l46, t, le, cl, e46, ll]
    rfl
  | succ d ih =>
    intro i σ I hr e46 hi nf hnf
    obtain ⟨nf, rfl⟩ : ∃ k, nf = k + 1 := ⟨nf - 1, by omega⟩
    have n6 := I.2.2.1.1
    have t := I.1
    have le := inbE (i := l) (n := 4) hl (by omega)
    have cl := cl1000 (i := l) (by omega)
    have ll := nle (a := m) (b := i) (by omega) (by omega)
    have ie := inbE (i := i) (n := 8) (by omega) (by omega)
    have ci := cl1000 (i := i) (by omega)
    show ∃ σ', lp_X5_judge_25_b (lp_X5_judge_25 nf) 0 (nI l) (nI i) σ = _ ∧ _
    unfold lp_X5_judge_25_b
    by_cases hin : n ≤ i
    · have ef := formulaOf_no t n6 I.2.2.1.2.2.1 (a := nI i) (by rw [nT (by omega)]; omega)
      refine ⟨σ, ?_, Kp.rf⟩
      unfold jR
      rw [if_pos (show badJ V S n FS row i = true by unfold badJ; rw [decide_eq_true hin]; rfl)]
      simp only [chk_p, lt_p, bd_p, bc_p, oc_n, oc_s, and_self, and_true, true_and, if_true, if_false, isO_sA', isO_sB', isO_rA', hlen_sA, hlen_sB, hlen_rA, hR_sA, hR_sB, hR_rA, Typ_sA', Typ_sB', Typ_rA', O0, r0_0, r0_1, r0_3, r0_4, r0_5, r0_6, r0_7, O46, l46, t, le, cl, e46, ll, ef, if_false]
    · obtain ⟨φ, ef, hg, hc, -⟩ := fml I (show i < n by omega)
      obtain ⟨σ1, x1, x2, x3, x4, x5, x6⟩ := c_now hg.1 hc
      have t1 := x3.1
      have hw := hasWidth_ok t1 x5
      obtain ⟨r1, r2, r3⟩ := row41 t1 hl
      have hin' : decide (n ≤ i) = false := decide_eq_false hin
      by_cases hwd : WD (RT (FS i) (LO V S) (HI V S)) = none
      · refine ⟨σ1, ?_, x2⟩
        rw [hwd] at hw
        unfold jR
        rw [if_pos (show badJ V S n FS row i = true by unfold badJ; rw [hin', hwd]; rfl)]
        simp only [chk_p, lt_p, bd_p, bc_p, oc_n, oc_s, and_self, and_true, true_and, if_true, if_false, isO_sA', isO_sB', isO_rA', hlen_sA, hlen_sB, hlen_rA, hR_sA, hR_sB, hR_rA, Typ_sA', Typ_sB', Typ_rA', O0, r0_0, r0_1, r0_3, r0_4, r0_5, r0_6, r0_7, O24, r24_0, r24_1, r24_5, r24_6, r24_7, r24_8, r24_9, O46, l46, t, t1, le, cl, e46, ll, ef, if_false, x1, hw, Option.isSome_none, Bool.false_eq_true]
      · obtain ⟨w, hw'⟩ := Option.ne_none_iff_exists'.mp hwd
        rw [hw'] at hw
        obtain ⟨p, hp, hpw, hw0, hwr⟩ := WD_some (LOHI hc) hw'
        rw [hp] at x5
        obtain ⟨a1, a2, a3, a4⟩ := x5
        have hr1 : ∀ k, hB σ1 (42 + l) k = row k := fun k => (Kq.B x2 (Nat.lt_of_lt_of_le (show 42 + l < 76 by omega) t.1) (lst4 (P := fun j => scj j || j == 48) (by decide) l hl) k).trans (hr k)
        have e46' : hA σ1 46 l = nI m := (Kq.A x2 (Nat.lt_of_lt_of_le (by decide) t.1) (by decide) l).trans e46
        have ev : (hB σ1 24 4 - hB σ1 24 3).toInt = w := by rw [l_sub (by rw [a2, a3, ← hpw]; exact hwr), a2, a3, hpw]
        have eq : (hB σ1 24 4 - hB σ1 24 3 = row i) = (w = (row i).toInt) := by rw [l_eq, ev]
        obtain ⟨σ2, e, k2⟩ := ih (i + 1) σ1 (I.kp x2) hr1 e46' (by omega) nf (by omega)
        by_cases c : w = (row i).toInt
        · refine ⟨σ2, ?_, x2.seq k2⟩
          unfold jR
          rw [if_neg (show ¬ badJ V S n FS row i = true by unfold badJ; rw [hin', hw', c]; simp)]
          simp only [chk_p, lt_p, bd_p, bc_p, oc_n, oc_s, and_self, and_true, true_and, if_true, if_false, isO_sA', isO_sB', isO_rA', hlen_sA, hlen_sB, hlen_rA, hR_sA, hR_sB, hR_rA, Typ_sA', Typ_sB', Typ_rA', O0, r0_0, r0_1, r0_3, r0_4, r0_5, r0_6, r0_7, O46, l46, t, t1, le, cl, e46, ll, ef, if_false, x1, hw, Option.isSome_some, beq1, O24, r24_0, r24_1, r24_5, r24_6, r24_7, r24_8, r24_9, r1, r2, r3, O41, l41, ie, ci, hr1, z_eq, eq, c, nI_s, e]
        · refine ⟨σ1, ?_, x2⟩
          unfold jR
          rw [if_pos (show badJ V S n FS row i = true by unfold badJ; rw [hin', hw']; simpa using c)]
          simp only [chk_p, lt_p, bd_p, bc_p, oc_n, oc_s, and_self, and_true, true_and, if_true, if_false, isO_sA', isO_sB', isO_rA', hlen_sA, hlen_sB, hlen_rA, hR_sA, hR_sB, hR_rA, Typ_sA', Typ_sB', Typ_rA', O0, r0_0, r0_1, r0_3, r0_4, r0_5, r0_6, r0_7, O46, l46, t, t1, le, cl, e46, ll, ef, if_false, x1, hw, Option.isSome_some, beq1, O24, r24_0, r24_1, r24_5, r24_6, r24_7, r24_8, r24_9, r1, r2, r3, O41, l41, ie, ci, hr1, z_eq, eq, c]
theorem m_judge {V S C : Nat → Int32} {n : Nat} {FS : Nat → FM} {l m : Nat} (hl : l < 4) (hm : m ≤ 8) {row : Nat → Int64} : ∀ d i (σ : HS), INV σ V S C n FS → (∀ k, k < 8 → hB σ 75 (8 * l + k) = row k) → hA σ 74 l = nI m → i + d = m → ∀ nf, d < nf → ∃ σ', lp_X6_judge_24 nf 48 (nI l) (nI i) σ = some (jR (badJ V S n FS row) d i, σ') ∧ Kp σ σ' := by
  intro d
  induction d with
  | zero =>
    intro i σ I hr e46 hi nf hnf
    obtain ⟨nf, rfl⟩ : ∃ k, nf = k + 1 := ⟨nf - 1, by omega⟩
    have : i = m := by omega
    subst this
    refine ⟨σ, ?_, Kp.rf⟩
    show lp_X6_judge_24_b (lp_X6_judge_24 nf) 48 (nI l) (nI i) σ = _
    unfold lp_X6_judge_24_b
    have t := I.1
    have le := inbE (i := l) (n := 4) hl (by omega)
    have cl := cl1000 (i := l) (by omega)
    have ll : (nI i ≤ nI i) = True := eq_true (Int32.le_refl _)
    simp only [chk_p, lt_p, bd_p, bc_p, oc_n, oc_s, and_self, and_true, true_and, if_true, if_false, isO_sA', isO_sB', isO_rA', hlen_sA, hlen_sB, hlen_rA, hR_sA, hR_sB, hR_rA, Typ_sA', Typ_sB', Typ_rA', O48, r48_0, r48_1, r48_2, r48_3, r48_4, r48_5, r48_6, r48_8, r48_9, r48_10, r48_11, r48_12, r48_15, r48_21, r48_22, r48_23, r48_24, r48_25, r48_28, r48_30, r48_31, r48_32, r48_35, r48_37, r48_39, r48_40, r48_41, O74, l74, t, le, cl, e46, ll]
    rfl
  | succ d ih =>
    intro i σ I hr e46 hi nf hnf
    obtain ⟨nf, rfl⟩ : ∃ k, nf = k + 1 := ⟨nf - 1, by omega⟩
    have n6 := I.2.2.1.1
    have t := I.1
    have e7 := I.2.2.1.2.2.2.1
    have le := inbE (i := l) (n := 4) hl (by omega)
    have cl := cl1000 (i := l) (by omega)
    have ll := nle (a := m) (b := i) (by omega) (by omega)
    have ie := inbE (i := 8 * l + i) (n := 32) (by omega) (by omega)
    have ci := cl1000 (i := 8 * l + i) (by omega)
    have ln : (nI i < nI n) = (i < n) := propext (nI_ltI (by omega) (by omega))
    show ∃ σ', lp_X6_judge_24_b (lp_X6_judge_24 nf) 48 (nI l) (nI i) σ = _ ∧ _
    unfold lp_X6_judge_24_b
    by_cases hin : n ≤ i
    · refine ⟨σ, ?_, Kp.rf⟩
      unfold jR
      rw [if_pos (show badJ V S n FS row i = true by unfold badJ; rw [decide_eq_true hin]; rfl)]
      have ln' : (i < n) = False := eq_false (by omega)
      simp only [chk_p, lt_p, bd_p, bc_p, oc_n, oc_s, and_self, and_true, true_and, if_true, if_false, isO_sA', isO_sB', isO_rA', hlen_sA, hlen_sB, hlen_rA, hR_sA, hR_sB, hR_rA, Typ_sA', Typ_sB', Typ_rA', O48, r48_0, r48_1, r48_2, r48_3, r48_4, r48_5, r48_6, r48_8, r48_9, r48_10, r48_11, r48_12, r48_15, r48_21, r48_22, r48_23, r48_24, r48_25, r48_28, r48_30, r48_31, r48_32, r48_35, r48_37, r48_39, r48_40, r48_41, O74, l74, t, le, cl, e46, ll, e7, ln, ln', if_false]
    · obtain ⟨φ, ef, hg, hc, -⟩ := fml I (show i < n by omega)
      obtain ⟨σ1, x1, x2, x3⟩ := m_widthNow (show i < 7 by omega) hg.1 hc
      have t1 := x3.1
      have ow := oW_no (Φ := FS i) (LOHI hc)
      have hin' : decide (n ≤ i) = false := decide_eq_false hin
      have ln' : (i < n) = True := eq_true (by omega)
      by_cases hwd : WD (RT (FS i) (LO V S) (HI V S)) = none
      · refine ⟨σ1, ?_, x2⟩
        unfold jR
        rw [if_pos (show badJ V S n FS row i = true by unfold badJ; rw [hin', hwd]; rfl)]
        rw [hwd] at x1 ow
        have ow1 : (lg_cmp (oW none) (-9223372036854775807) = 0) = True := ow.trans (eq_true rfl)
        simp only [chk_p, lt_p, bd_p, bc_p, oc_n, oc_s, and_self, and_true, true_and, if_true, if_false, isO_sA', isO_sB', isO_rA', hlen_sA, hlen_sB, hlen_rA, hR_sA, hR_sB, hR_rA, Typ_sA', Typ_sB', Typ_rA', O48, r48_0, r48_1, r48_2, r48_3, r48_4, r48_5, r48_6, r48_8, r48_9, r48_10, r48_11, r48_12, r48_15, r48_21, r48_22, r48_23, r48_24, r48_25, r48_28, r48_30, r48_31, r48_32, r48_35, r48_37, r48_39, r48_40, r48_41, O74, l74, t, t1, le, cl, e46, ll, e7, ln, ln', if_false, x1, ow1]
      · obtain ⟨w, hw'⟩ := Option.ne_none_iff_exists'.mp hwd
        obtain ⟨p, hp, hpw, hw0, hwr⟩ := WD_some (LOHI hc) hw'
        have hr1 : ∀ k, k < 8 → hB σ1 75 (8 * l + k) = row k := fun k hk => (Kq.B x2 (Nat.lt_of_lt_of_le (by decide) t.1) (by decide) _).trans (hr k hk)
        have e46' : hA σ1 74 l = nI m := (Kq.A x2 (Nat.lt_of_lt_of_le (by decide) t.1) (by decide) l).trans e46
        have eq : (oW (some w) = row i) = (w = (row i).toInt) := by rw [l_eq, show oW (some w) = Int64.ofInt w from rfl, ofI hwr]
        have ow' : (WD (RT (FS i) (LO V S) (HI V S)) = none) = False := eq_false hwd
        rw [ow'] at ow
        rw [hw'] at x1 ow
        obtain ⟨σ2, e, k2⟩ := ih (i + 1) σ1 (I.kp x2) hr1 e46' (by omega) nf (by omega)
        by_cases c : w = (row i).toInt
        · refine ⟨σ2, ?_, x2.seq k2⟩
          unfold jR
          rw [if_neg (show ¬ badJ V S n FS row i = true by unfold badJ; rw [hin', hw', c]; simp)]
          simp only [chk_p, lt_p, bd_p, bc_p, oc_n, oc_s, and_self, and_true, true_and, if_true, if_false, isO_sA', isO_sB', isO_rA', hlen_sA, hlen_sB, hlen_rA, hR_sA, hR_sB, hR_rA, Typ_sA', Typ_sB', Typ_rA', O48, r48_0, r48_1, r48_2, r48_3, r48_4, r48_5, r48_6, r48_8, r48_9, r48_10, r48_11, r48_12, r48_15, r48_21, r48_22, r48_23, r48_24, r48_25, r48_28, r48_30, r48_31, r48_32, r48_35, r48_37, r48_39, r48_40, r48_41, O74, l74, O75, l75, t, t1, le, cl, e46, ll, e7, ln, ln', if_false, x1, ow, nI_mul8, nI_plus, ie, ci, hr1 i (by omega)]
          simp only [z_eq, eq.trans (eq_true c), if_true, lt_p, nI_s, e]
        · refine ⟨σ1, ?_, x2⟩
          unfold jR
          rw [if_pos (show badJ V S n FS row i = true by unfold badJ; rw [hin', hw']; simpa using c)]
          simp only [chk_p, lt_p, bd_p, bc_p, oc_n, oc_s, and_self, and_true, true_and, if_true, if_false, isO_sA', isO_sB', isO_rA', hlen_sA, hlen_sB, hlen_rA, hR_sA, hR_sB, hR_rA, Typ_sA', Typ_sB', Typ_rA', O48, r48_0, r48_1, r48_2, r48_3, r48_4, r48_5, r48_6, r48_8, r48_9, r48_10, r48_11, r48_12, r48_15, r48_21, r48_22, r48_23, r48_24, r48_25, r48_28, r48_30, r48_31, r48_32, r48_35, r48_37, r48_39, r48_40, r48_41, O74, l74, O75, l75, t, t1, le, cl, e46, ll, e7, ln, ln', if_false, x1, ow, nI_mul8, nI_plus, ie, ci, hr1 i (by omega)]
          simp only [z_eq, eq.trans (eq_false c), if_false]
theorem op_judge (a : Int32) : OpOK (f_X5_judge 0 a) (f_X6_judge 48 a) := by
  intro σ V S C n FS I
  have t := I.1
  rcases argC a 4 (by decide) with ⟨l, hl, rfl⟩ | ha
  · have c1 := inL hl
    have le := inbE (i := l) (n := 4) hl (by omega)
    have cl := cl1000 (i := l) (by omega)
    obtain ⟨hlen, hit⟩ := I.2.2.2.2.2.1 l hl
    rcases hlen with ⟨e1, e2⟩ | ⟨m, hm, e1, e2⟩
    · refine opN I (-11) ?_ ?_
      · unfold f_X5_judge
        simp only [isList_ok, yif c1, beq1, e1, le, cl, if_false, chk_p, lt_p, bd_p, bc_p, oc_n, oc_s, and_self, and_true, true_and, if_true, if_false, isO_sA', isO_sB', isO_rA', hlen_sA, hlen_sB, hlen_rA, hR_sA, hR_sB, hR_rA, Typ_sA', Typ_sB', Typ_rA', O0, r0_0, r0_1, r0_3, r0_4, r0_5, r0_6, r0_7, O46, l46, t]
      · unfold f_X6_judge
        simp only [mIsList_ok, yif c1, beq1, e2, le, cl, if_false, chk_p, lt_p, bd_p, bc_p, oc_n, oc_s, and_self, and_true, true_and, if_true, if_false, isO_sA', isO_sB', isO_rA', hlen_sA, hlen_sB, hlen_rA, hR_sA, hR_sB, hR_rA, Typ_sA', Typ_sB', Typ_rA', O48, r48_0, r48_1, r48_2, r48_3, r48_4, r48_5, r48_6, r48_8, r48_9, r48_10, r48_11, r48_12, r48_15, r48_21, r48_22, r48_23, r48_24, r48_25, r48_28, r48_30, r48_31, r48_32, r48_35, r48_37, r48_39, r48_40, r48_41, O74, l74, t]
    · obtain ⟨σ1, x1, x2⟩ := x_judge hl hm (row := fun k => hB σ (42 + l) k) m 0 σ I (fun k => rfl) e1 (by omega) 1000 (by omega)
      have t1 := x2.typ t
      have e2' : hA σ1 74 l = nI m := (Kq.A x2 (Nat.lt_of_lt_of_le (by decide) t.1) (by decide) l).trans e2
      obtain ⟨σ2, z1, z2⟩ := m_judge hl hm (row := fun k => hB σ (42 + l) k) m 0 σ1 (I.kp x2) (fun k hk => (Kq.B x2 (Nat.lt_of_lt_of_le (by decide) t.1) (by decide) _).trans (hit k hk).symm) e2' (by omega) 1000 (by omega)
      refine opQ I ⟨jR (badJ V S n FS (fun k => hB σ (42 + l) k)) m 0, σ1, σ2, ?_, x2, ?_, z2⟩
      · unfold f_X5_judge
        simp only [isList_ok, yif c1, beq1, e1, nm11 (show m ≤ 60 by omega), le, cl, if_false, chk_p, lt_p, bd_p, bc_p, oc_n, oc_s, and_self, and_true, true_and, if_true, if_false, isO_sA', isO_sB', isO_rA', hlen_sA, hlen_sB, hlen_rA, hR_sA, hR_sB, hR_rA, Typ_sA', Typ_sB', Typ_rA', O0, r0_0, r0_1, r0_3, r0_4, r0_5, r0_6, r0_7, O46, l46, t]
        exact x1
      · unfold f_X6_judge
        simp only [mIsList_ok, yif c1, beq1, e2', nm1 (show m ≤ 60 by omega), le, cl, if_false, chk_p, lt_p, bd_p, bc_p, oc_n, oc_s, and_self, and_true, true_and, if_true, if_false, isO_sA', isO_sB', isO_rA', hlen_sA, hlen_sB, hlen_rA, hR_sA, hR_sB, hR_rA, Typ_sA', Typ_sB', Typ_rA', O48, r48_0, r48_1, r48_2, r48_3, r48_4, r48_5, r48_6, r48_8, r48_9, r48_10, r48_11, r48_12, r48_15, r48_21, r48_22, r48_23, r48_24, r48_25, r48_28, r48_30, r48_31, r48_32, r48_35, r48_37, r48_39, r48_40, r48_41, O74, l74, t1]
        exact z1
  · have c1 : ¬ (0 ≤ a.toInt ∧ a.toInt < 4) := by omega
    refine opN I (-1) ?_ ?_
    · unfold f_X5_judge
      simp only [isList_ok, nif c1, chk_p, lt_p, bd_p, bc_p, oc_n, oc_s, and_self, and_true, true_and, if_true, if_false, isO_sA', isO_sB', isO_rA', hlen_sA, hlen_sB, hlen_rA, hR_sA, hR_sB, hR_rA, Typ_sA', Typ_sB', Typ_rA']
    · unfold f_X6_judge
      simp only [mIsList_ok, nif c1, chk_p, lt_p, bd_p, bc_p, oc_n, oc_s, and_self, and_true, true_and, if_true, if_false, isO_sA', isO_sB', isO_rA', hlen_sA, hlen_sB, hlen_rA, hR_sA, hR_sB, hR_rA, Typ_sA', Typ_sB', Typ_rA']
