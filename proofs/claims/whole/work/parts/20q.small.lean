/-! what many calls share -/
theorem i_lt {a b : Int32} : (a < b) = (a.toInt < b.toInt) := propext Int32.lt_iff_toInt_lt
theorem i_le {a b : Int32} : (a ≤ b) = (a.toInt ≤ b.toInt) := propext Int32.le_iff_toInt_le
theorem argC (a : Int32) (n : Nat) (hn : n < 1000) : (∃ k, k < n ∧ a = nI k) ∨ (a.toInt < 0 ∨ (n : Int) ≤ a.toInt) := by
  by_cases h : a.toInt < 0
  · exact Or.inr (Or.inl h)
  by_cases h2 : (n : Int) ≤ a.toInt
  · exact Or.inr (Or.inr h2)
  refine Or.inl ⟨a.toInt.toNat, by omega, ?_⟩
  apply Int32.toInt_inj.mp
  rw [nI_toInt (by omega)]; omega
theorem z320 : (0 : Int32).toInt = 0 := rfl
theorem nT {k : Nat} (h : k < 1000) : (nI k).toInt = k := nI_toInt (by omega)
theorem isIn_ok (a l h : Int32) (σ : HS) : f_X6_isIn a.toInt64 l.toInt64 h.toInt64 σ = some (if l.toInt ≤ a.toInt ∧ a.toInt ≤ h.toInt then 1 else 0, σ) := by
  unfold f_X6_isIn
  simp only [zc_lt, zc_gt, Int32.toInt_toInt64]
  by_cases c1 : a.toInt < l.toInt
  · rw [if_pos c1, if_neg (by omega)]
  · rw [if_neg c1]
    by_cases c2 : h.toInt < a.toInt
    · rw [if_pos c2, if_neg (by omega)]
    · rw [if_neg c2, if_pos (by omega)]
theorem isIn64_ok (a l h : Int64) (σ : HS) : f_X6_isIn a l h σ = some (if l.toInt ≤ a.toInt ∧ a.toInt ≤ h.toInt then 1 else 0, σ) := by
  unfold f_X6_isIn
  simp only [zc_lt, zc_gt]
  by_cases c1 : a.toInt < l.toInt
  · rw [if_pos c1, if_neg (by omega)]
  · rw [if_neg c1]
    by_cases c2 : h.toInt < a.toInt
    · rw [if_pos c2, if_neg (by omega)]
    · rw [if_neg c2, if_pos (by omega)]
theorem isIn_c (a : Int32) (l h : Int64) (l' h' : Int) (e1 : l.toInt = l') (e2 : h.toInt = h') (σ : HS) : f_X6_isIn a.toInt64 l h σ = some (if l' ≤ a.toInt ∧ a.toInt ≤ h' then 1 else 0, σ) := by
  rw [isIn64_ok, e1, e2, Int32.toInt_toInt64]
theorem b01 {c : Prop} [Decidable c] : bit (if c then (1 : Int32) else 0) := by
  by_cases h : c
  · rw [if_pos h]; exact Or.inr rfl
  · rw [if_neg h]; exact Or.inl rfl
theorem if0 {c : Prop} [Decidable c] : ((if c then (1 : Int32) else 0) = 0) = ¬ c := ife1
theorem isFormula_ok {σ : HS} (h : Typ σ) {n : Nat} (hn : n ≤ 6) (e : hA σ 48 7 = nI n) (a : Int32) : f_X6_isFormula 48 a σ = some (if 0 ≤ a.toInt ∧ a.toInt < n then 1 else 0, σ) := by
  have e2 : ((nI n - 1).toInt64).toInt = (n : Int) - 1 := by
    rw [Int32.toInt_toInt64, i_sub (by rw [nT (by omega)]; omega) (by rw [nT (by omega)]; omega) (by decide) (by decide), nT (by omega)]; rfl
  have e3 := isIn_c a 0 (nI n - 1).toInt64 0 ((n : Int) - 1) rfl e2 σ
  have e4 : (if (0 : Int) ≤ a.toInt ∧ a.toInt ≤ (n : Int) - 1 then (1 : Int32) else 0) = (if 0 ≤ a.toInt ∧ a.toInt < n then 1 else 0) := by
    by_cases c : 0 ≤ a.toInt ∧ a.toInt < n
    · rw [if_pos c, if_pos (by omega)]
    · rw [if_neg c, if_neg (by omega)]
  rw [e4] at e3
  unfold f_X6_isFormula
  simp only [chk_p, lt_p, bd_p, bc_p, oc_n, oc_s, and_self, and_true, true_and, if_true, if_false, isO_sA', isO_sB', isO_rA', hlen_sA, hlen_sB, hlen_rA, hR_sA, hR_sB, hR_rA, Typ_sA', Typ_sB', Typ_rA', O48, r48_0, r48_1, r48_2, r48_3, r48_4, r48_5, r48_6, r48_8, r48_9, r48_10, r48_11, r48_12, r48_15, r48_21, r48_22, r48_23, r48_24, r48_25, r48_28, r48_30, r48_31, r48_32, r48_35, r48_37, r48_39, r48_40, r48_41, h, e, e3, bitE b01]
theorem mIsSource_ok (a : Int32) (σ : HS) : f_X6_isSource a σ = some (if 0 ≤ a.toInt ∧ a.toInt < 6 then 1 else 0, σ) := by
  have e3 := isIn_c a 0 5 0 5 rfl rfl σ
  have e4 : (if (0 : Int) ≤ a.toInt ∧ a.toInt ≤ 5 then (1 : Int32) else 0) = (if 0 ≤ a.toInt ∧ a.toInt < 6 then 1 else 0) := by
    by_cases c : 0 ≤ a.toInt ∧ a.toInt < 6
    · rw [if_pos c, if_pos (by omega)]
    · rw [if_neg c, if_neg (by omega)]
  rw [e4] at e3
  unfold f_X6_isSource
  simp only [chk_p, lt_p, bd_p, bc_p, oc_n, oc_s, and_self, and_true, true_and, if_true, if_false, isO_sA', isO_sB', isO_rA', hlen_sA, hlen_sB, hlen_rA, hR_sA, hR_sB, hR_rA, Typ_sA', Typ_sB', Typ_rA', e3, bitE b01]
theorem mIsList_ok (a : Int32) (σ : HS) : f_X6_isList a σ = some (if 0 ≤ a.toInt ∧ a.toInt < 4 then 1 else 0, σ) := by
  have e3 := isIn_c a 0 3 0 3 rfl rfl σ
  have e4 : (if (0 : Int) ≤ a.toInt ∧ a.toInt ≤ 3 then (1 : Int32) else 0) = (if 0 ≤ a.toInt ∧ a.toInt < 4 then 1 else 0) := by
    by_cases c : 0 ≤ a.toInt ∧ a.toInt < 4
    · rw [if_pos c, if_pos (by omega)]
    · rw [if_neg c, if_neg (by omega)]
  rw [e4] at e3
  unfold f_X6_isList
  simp only [chk_p, lt_p, bd_p, bc_p, oc_n, oc_s, and_self, and_true, true_and, if_true, if_false, isO_sA', isO_sB', isO_rA', hlen_sA, hlen_sB, hlen_rA, hR_sA, hR_sB, hR_rA, Typ_sA', Typ_sB', Typ_rA', e3, bitE b01]
theorem z6 : (6 : Int32).toInt = 6 := rfl
theorem z4 : (4 : Int32).toInt = 4 := rfl
theorem isSource_ok (a : Int32) (σ : HS) : f_X5_isSource a σ = some (if 0 ≤ a.toInt ∧ a.toInt < 6 then 1 else 0, σ) := by
  unfold f_X5_isSource
  simp only [i_lt, i_le, z320, z6]
  by_cases c1 : a.toInt < 0
  · rw [if_pos c1, if_neg (by omega)]
  · rw [if_neg c1]
    by_cases c2 : a.toInt < 6
    · first
      | rw [if_pos c2, if_pos (by omega)]
      | rw [if_neg (by omega), if_pos (by omega)]
    · first
      | rw [if_neg c2, if_neg (by omega)]
      | rw [if_pos (by omega), if_neg (by omega)]
theorem isList_ok (a : Int32) (σ : HS) : f_X5_isList a σ = some (if 0 ≤ a.toInt ∧ a.toInt < 4 then 1 else 0, σ) := by
  unfold f_X5_isList
  simp only [i_lt, i_le, z320, z4]
  by_cases c1 : a.toInt < 0
  · rw [if_pos c1, if_neg (by omega)]
  · rw [if_neg c1]
    by_cases c2 : a.toInt < 4
    · first
      | rw [if_pos c2, if_pos (by omega)]
      | rw [if_neg (by omega), if_pos (by omega)]
    · first
      | rw [if_neg c2, if_neg (by omega)]
      | rw [if_pos (by omega), if_neg (by omega)]
theorem formulaOf_no {σ : HS} (h : Typ σ) {n : Nat} (hn : n ≤ 6) (e : hA σ 1 4 = nI n) {a : Int32} (ha : a.toInt < 0 ∨ (n : Int) ≤ a.toInt) : f_X5_formulaOf 0 a σ = some (none, σ) := by
  unfold f_X5_formulaOf
  simp only [i_lt, z320]
  by_cases c1 : a.toInt < 0
  · rw [if_pos c1]
  · have c2 : ¬ a.toInt < (nI n).toInt := by rw [nT (by omega)]; omega
    simp only [c1, c2, if_false, chk_p, lt_p, bd_p, bc_p, oc_n, oc_s, and_self, and_true, true_and, if_true, if_false, isO_sA', isO_sB', isO_rA', hlen_sA, hlen_sB, hlen_rA, hR_sA, hR_sB, hR_rA, Typ_sA', Typ_sB', Typ_rA', O0, r0_0, r0_1, r0_3, r0_4, r0_5, r0_6, r0_7, O1, r1_0, r1_1, r1_2, r1_3, r1_5, r1_6, r1_7, h, e]
theorem formulaOf_so {σ : HS} (h : Typ σ) {n : Nat} (hn : n ≤ 6) (e : hA σ 1 4 = nI n) {k : Nat} (hk : k < n) : f_X5_formulaOf 0 (nI k) σ = some (hR σ 5 k, σ) := by
  have ie := inbE (i := k) (n := 6) (by omega) (by omega)
  have ck := cl1000 (i := k) (by omega)
  unfold f_X5_formulaOf
  have c1 : ¬ (nI k < 0) := by rw [i_lt, nT (by omega), z320]; omega
  have c2 : nI k < nI n := by rw [i_lt, nT (by omega), nT (by omega)]; omega
  simp only [c1, c2, if_false, chk_p, lt_p, bd_p, bc_p, oc_n, oc_s, and_self, and_true, true_and, if_true, if_false, isO_sA', isO_sB', isO_rA', hlen_sA, hlen_sB, hlen_rA, hR_sA, hR_sB, hR_rA, Typ_sA', Typ_sB', Typ_rA', O0, r0_0, r0_1, r0_3, r0_4, r0_5, r0_6, r0_7, O1, r1_0, r1_1, r1_2, r1_3, r1_5, r1_6, r1_7, O5, l5, h, e, ie, ck]
theorem hasWidth_ok {σ : HS} (h : Typ σ) {x : Option (Int × Int)} (ht : Th σ x) : f_X4_hasWidth 24 σ = some (if (WD x).isSome then 1 else 0, σ) := by
  unfold f_X4_hasWidth
  cases x with
  | none =>
    have e : (hA σ 24 2 = 0) = False := by rw [show hA σ 24 2 = 1 from ht]; exact beq1
    simp only [chk_p, lt_p, bd_p, bc_p, oc_n, oc_s, and_self, and_true, true_and, if_true, if_false, isO_sA', isO_sB', isO_rA', hlen_sA, hlen_sB, hlen_rA, hR_sA, hR_sB, hR_rA, Typ_sA', Typ_sB', Typ_rA', O24, r24_0, r24_1, r24_5, r24_6, r24_7, r24_8, r24_9, h, e, if_false, WD]
    rfl
  | some p =>
    obtain ⟨a1, a2, a3, a4⟩ := ht
    have ed := differenceFits_ok (hB σ 24 4) (hB σ 24 3) σ
    rw [a2, a3] at ed
    by_cases g : inR (p.2 - p.1)
    · rw [if_pos g] at ed
      simp only [chk_p, lt_p, bd_p, bc_p, oc_n, oc_s, and_self, and_true, true_and, if_true, if_false, isO_sA', isO_sB', isO_rA', hlen_sA, hlen_sB, hlen_rA, hR_sA, hR_sB, hR_rA, Typ_sA', Typ_sB', Typ_rA', O24, r24_0, r24_1, r24_5, r24_6, r24_7, r24_8, r24_9, h, a1, ed, beq1, if_false, WD, if_pos g]
      rfl
    · rw [if_neg g] at ed
      simp only [chk_p, lt_p, bd_p, bc_p, oc_n, oc_s, and_self, and_true, true_and, if_true, if_false, isO_sA', isO_sB', isO_rA', hlen_sA, hlen_sB, hlen_rA, hR_sA, hR_sB, hR_rA, Typ_sA', Typ_sB', Typ_rA', O24, r24_0, r24_1, r24_5, r24_6, r24_7, r24_8, r24_9, h, a1, ed, WD, if_neg g]
      rfl
/-- what a span tells of an end asked for -/
def EV (x : Option (Int × Int)) (e : Nat) : Int64 := match x with
  | none => -9223372036854775807
  | some p => if e = 0 then Int64.ofInt p.1 else if e = 1 then Int64.ofInt p.2 else oW (WD (some p))
theorem told_ok {σ : HS} (h : Typ σ) {x : Option (Int × Int)} (ht : Th σ x) {e : Nat} (he : e < 3) : f_X4_told 24 (nI e) σ = some (EV x e, σ) := by
  have hw := hasWidth_ok h ht
  unfold f_X4_told
  cases x with
  | none =>
    have e : (hA σ 24 2 = 0) = False := by rw [show hA σ 24 2 = 1 from ht]; exact beq1
    simp only [chk_p, lt_p, bd_p, bc_p, oc_n, oc_s, and_self, and_true, true_and, if_true, if_false, isO_sA', isO_sB', isO_rA', hlen_sA, hlen_sB, hlen_rA, hR_sA, hR_sB, hR_rA, Typ_sA', Typ_sB', Typ_rA', O24, r24_0, r24_1, r24_5, r24_6, r24_7, r24_8, r24_9, h, e, if_false]
    rfl
  | some p =>
    obtain ⟨a1, a2, a3, a4⟩ := ht
    have e3 : e = 0 ∨ e = 1 ∨ e = 2 := by omega
    have ea1 : (hA σ 24 2 = 0) = True := eq_true a1
    rcases e3 with z | z | z
    · subst z
      simp only [chk_p, lt_p, bd_p, bc_p, oc_n, oc_s, and_self, and_true, true_and, if_true, if_false, isO_sA', isO_sB', isO_rA', hlen_sA, hlen_sB, hlen_rA, hR_sA, hR_sB, hR_rA, Typ_sA', Typ_sB', Typ_rA', O24, r24_0, r24_1, r24_5, r24_6, r24_7, r24_8, r24_9, h, ea1, show (nI 0 = 2) = False from eq_false (by decide), show (nI 0 = 0) = True from eq_true rfl, if_false]
      rw [show EV (some p) 0 = Int64.ofInt p.1 from rfl, ofI_eq a2]
    · subst z
      simp only [chk_p, lt_p, bd_p, bc_p, oc_n, oc_s, and_self, and_true, true_and, if_true, if_false, isO_sA', isO_sB', isO_rA', hlen_sA, hlen_sB, hlen_rA, hR_sA, hR_sB, hR_rA, Typ_sA', Typ_sB', Typ_rA', O24, r24_0, r24_1, r24_5, r24_6, r24_7, r24_8, r24_9, h, ea1, show (nI 1 = 2) = False from eq_false (by decide), show (nI 1 = 0) = False from eq_false (by decide), show (nI 1 = 1) = True from eq_true rfl, if_false]
      rw [show EV (some p) 1 = Int64.ofInt p.2 from rfl, ofI_eq a3]
    · subst z
      rw [show EV (some p) 2 = oW (WD (some p)) from rfl]
      by_cases g : inR (p.2 - p.1)
      · have ew : WD (some p) = some (p.2 - p.1) := if_pos g
        rw [ew] at hw ⊢
        simp only [chk_p, lt_p, bd_p, bc_p, oc_n, oc_s, and_self, and_true, true_and, if_true, if_false, isO_sA', isO_sB', isO_rA', hlen_sA, hlen_sB, hlen_rA, hR_sA, hR_sB, hR_rA, Typ_sA', Typ_sB', Typ_rA', O24, r24_0, r24_1, r24_5, r24_6, r24_7, r24_8, r24_9, h, ea1, show (nI 2 = 2) = True from eq_true rfl, hw, Option.isSome_some, beq1, show (nI 2 = 0) = False from eq_false (by decide), show (nI 2 = 1) = False from eq_false (by decide), if_false, oW]
        rw [ofI_eq (a := hB σ 24 4 - hB σ 24 3) (by rw [l_sub (by rw [a2, a3]; exact g), a2, a3])]
      · have ew : WD (some p) = none := if_neg g
        rw [ew] at hw ⊢
        simp only [chk_p, lt_p, bd_p, bc_p, oc_n, oc_s, and_self, and_true, true_and, if_true, if_false, isO_sA', isO_sB', isO_rA', hlen_sA, hlen_sB, hlen_rA, hR_sA, hR_sB, hR_rA, Typ_sA', Typ_sB', Typ_rA', O24, r24_0, r24_1, r24_5, r24_6, r24_7, r24_8, r24_9, h, ea1, show (nI 2 = 2) = True from eq_true rfl, hw, Option.isSome_none, Bool.false_eq_true, if_false, oW]
