/-! the reference's longs: sum, less, product, with the flag for what is too great -/
theorem or0 (v : Int32) : v ||| (0 : Int32) = v := Int32.or_zero
theorem or1 {v : Int32} (h : bit v) : v ||| (1 : Int32) = 1 := by rcases h with z | z <;> rw [z] <;> decide
theorem bitE {v : Int32} (h : bit v) : bit v = True := eq_true h
theorem bit0 : bit (0 : Int32) = True := eq_true (Or.inl rfl)
theorem bit1 : bit (1 : Int32) = True := eq_true (Or.inr rfl)
def fl (c : Prop) [Decidable c] (v : Int32) : Int32 := if c then v else 1
theorem fl_bit {c : Prop} [Decidable c] {v : Int32} (h : bit v) : bit (fl c v) := by
  unfold fl; by_cases hc : c
  · rw [if_pos hc]; exact h
  · rw [if_neg hc]; exact Or.inr rfl
theorem fl_0 {c : Prop} [Decidable c] {v : Int32} : fl c v = 0 ↔ c ∧ v = 0 := by
  unfold fl; by_cases hc : c
  · rw [if_pos hc]; exact ⟨fun h => ⟨hc, h⟩, fun h => h.2⟩
  · rw [if_neg hc]; exact ⟨fun h => absurd h (by decide), fun h => absurd h.1 hc⟩
theorem z_lt0 (x : Int64) : (lg_cmp x 0 < 0) = (x.toInt < 0) := propext (zc_lt x 0)
theorem z_ge0 (x : Int64) : (0 ≤ lg_cmp x 0) = (¬ x.toInt < 0) := propext ((zc_ge x 0).trans Int.not_lt.symm)
theorem z_eq (x y : Int64) : (lg_cmp x y = 0) = (x = y) := propext (zc_eq x y)
theorem m_sum {σ : HS} (h : Typ σ) (hb : bit (hA σ 48 20)) (a b : Int64) : f_X6_sum 48 a b σ = some (a + b, sA σ 48 20 (fl (inR (a.toInt + b.toInt)) (hA σ 48 20))) := by
  have ra := tR a
  have rb := tR b
  obtain ⟨k, e1, e2⟩ := bmE (a.toInt + b.toInt)
  rw [← Int64.toInt_add] at e1 e2
  unfold f_X6_sum fl
  by_cases p : a.toInt < 0 <;> by_cases q : b.toInt < 0 <;> by_cases r : (a + b).toInt < 0
  all_goals
    simp only [chk_p, lt_p, bd_p, bc_p, oc_n, oc_s, and_self, and_true, true_and, if_true, if_false, isO_sA', isO_sB', isO_rA', hlen_sA, hlen_sB, hlen_rA, hR_sA, hR_sB, hR_rA, Typ_sA', Typ_sB', Typ_rA', O48, h, or0, or1 hb, bitE hb, bit1, z_lt0, z_ge0, p, q, r, not_true, not_false_iff, if_false]
    first
    | rw [if_pos (by omega)]
    | rw [if_neg (by omega)]
theorem m_less {σ : HS} (h : Typ σ) (hb : bit (hA σ 48 20)) (a b : Int64) : f_X6_less 48 a b σ = some (a - b, sA σ 48 20 (fl (inR (a.toInt - b.toInt)) (hA σ 48 20))) := by
  have ra := tR a
  have rb := tR b
  obtain ⟨k, e1, e2⟩ := bmE (a.toInt - b.toInt)
  rw [← Int64.toInt_sub] at e1 e2
  unfold f_X6_less fl
  by_cases p : a.toInt < 0 <;> by_cases q : b.toInt < 0 <;> by_cases r : (a - b).toInt < 0
  all_goals
    simp only [chk_p, lt_p, bd_p, bc_p, oc_n, oc_s, and_self, and_true, true_and, if_true, if_false, isO_sA', isO_sB', isO_rA', hlen_sA, hlen_sB, hlen_rA, hR_sA, hR_sB, hR_rA, Typ_sA', Typ_sB', Typ_rA', O48, h, or0, or1 hb, bitE hb, bit1, z_lt0, z_ge0, p, q, r, not_true, not_false_iff, if_false]
    first
    | rw [if_pos (by omega)]
    | rw [if_neg (by omega)]
theorem div_neg1 (b : Int64) : (-1 * b) / (-1 : Int64) = b := by
  apply Int64.toInt_inj.mp
  have hb := tR b
  have e : ((-1 : Int64)).toInt = -1 := rfl
  rw [Int64.toInt_div, Int64.toInt_mul, e]
  by_cases h : b.toInt = -9223372036854775808
  · rw [h]; decide
  · rw [bm (x := -1 * b.toInt) (by omega)]
    have : (-1 * b.toInt).tdiv (-1) = b.toInt := by
      rw [show -1 * b.toInt = -b.toInt by omega, Int.tdiv_neg, Int.tdiv_one]; omega
    rw [this, bm hb]
theorem m_product {σ : HS} (h : Typ σ) (hb : bit (hA σ 48 20)) (a b : Int64) : f_X6_product 48 a b σ = some (a * b, sA σ 48 20 (fl (inR (a.toInt * b.toInt)) (hA σ 48 20))) := by
  have rb := tR b
  unfold f_X6_product fl
  by_cases p : a = 0
  · simp only [chk_p, lt_p, bd_p, bc_p, oc_n, oc_s, and_self, and_true, true_and, if_true, if_false, isO_sA', isO_sB', isO_rA', hlen_sA, hlen_sB, hlen_rA, hR_sA, hR_sB, hR_rA, Typ_sA', Typ_sB', Typ_rA', O48, h, or0, bitE hb, z_eq, p]
    rw [if_pos (by rw [show (0 : Int64).toInt = 0 from rfl]; omega)]
  by_cases q : a = -1
  · have e : (-1 * b / (-1) = b) = True := eq_true (div_neg1 b)
    have e2 : ((-1 : Int64) = 0) = False := eq_false (by decide)
    have e3 : ((-1 : Int64).toInt * b.toInt) = -b.toInt := mul_neg1 rfl
    by_cases r : b = -9223372036854775808
    · simp only [chk_p, lt_p, bd_p, bc_p, oc_n, oc_s, and_self, and_true, true_and, if_true, if_false, isO_sA', isO_sB', isO_rA', hlen_sA, hlen_sB, hlen_rA, hR_sA, hR_sB, hR_rA, Typ_sA', Typ_sB', Typ_rA', O48, h, or0, or1 hb, bitE hb, bit1, z_eq, q, e, e2, e3, not_false_iff, if_false, r, eq_true (show ((-1 : Int64) * (-9223372036854775808) / (-1) = -9223372036854775808) by decide)]
      rw [if_neg (by subst q; subst r; decide)]
    · have : b.toInt ≠ -9223372036854775808 := fun z => r (Int64.toInt_inj.mp z)
      simp only [chk_p, lt_p, bd_p, bc_p, oc_n, oc_s, and_self, and_true, true_and, if_true, if_false, isO_sA', isO_sB', isO_rA', hlen_sA, hlen_sB, hlen_rA, hR_sA, hR_sB, hR_rA, Typ_sA', Typ_sB', Typ_rA', O48, h, or0, or1 hb, bitE hb, bit1, z_eq, q, e, e2, e3, not_false_iff, if_false, r]
      rw [if_pos (by omega)]
  have mf := mul_fit (b := b) p q
  by_cases r : a * b / a = b
  · simp only [chk_p, lt_p, bd_p, bc_p, oc_n, oc_s, and_self, and_true, true_and, if_true, if_false, isO_sA', isO_sB', isO_rA', hlen_sA, hlen_sB, hlen_rA, hR_sA, hR_sB, hR_rA, Typ_sA', Typ_sB', Typ_rA', O48, h, or0, or1 hb, bitE hb, bit1, z_eq, p, q, r, not_false_iff, if_false]
    rw [if_pos (mf.mp r)]
  · simp only [chk_p, lt_p, bd_p, bc_p, oc_n, oc_s, and_self, and_true, true_and, if_true, if_false, isO_sA', isO_sB', isO_rA', hlen_sA, hlen_sB, hlen_rA, hR_sA, hR_sB, hR_rA, Typ_sA', Typ_sB', Typ_rA', O48, h, or0, or1 hb, bitE hb, bit1, z_eq, p, q, r, not_false_iff, if_false]
    rw [if_neg (fun z => r (mf.mpr z))]
def gMin (a b c d : Int64) : Int64 := lmn (lmn (a * c) (a * d)) (lmn (b * c) (b * d))
def gMax (a b c d : Int64) : Int64 := lmx (lmx (a * c) (a * d)) (lmx (b * c) (b * d))
abbrev fit4 (a b c d : Int64) : Prop := ((inR (a.toInt * c.toInt) ∧ inR (a.toInt * d.toInt)) ∧ inR (b.toInt * c.toInt)) ∧ inR (b.toInt * d.toInt)
theorem fl_fl {c d : Prop} [Decidable c] [Decidable d] (v : Int32) : fl c (fl d v) = fl (d ∧ c) v := by
  unfold fl; by_cases h1 : c <;> by_cases h2 : d <;> simp [h1, h2]
theorem m_products {σ : HS} (h : Typ σ) (hb : bit (hA σ 48 20)) (a b c d : Int64) : f_X6_products_ 48 a b c d σ = some ((), sB (sB (sA σ 48 20 (fl (fit4 a b c d) (hA σ 48 20))) 48 26 (gMin a b c d)) 48 27 (gMax a b c d)) := by
  have e1 := m_product h hb a c
  have e2 := m_product (σ := sA σ 48 20 (fl (inR (a.toInt * c.toInt)) (hA σ 48 20))) h (by rw [hA_sA, if_pos ⟨rfl, rfl⟩]; exact fl_bit hb) a d
  rw [hA_sA, if_pos ⟨rfl, rfl⟩, sA_sA, fl_fl] at e2
  have e3 := m_product (σ := sA σ 48 20 (fl (inR (a.toInt * c.toInt) ∧ inR (a.toInt * d.toInt)) (hA σ 48 20))) h (by rw [hA_sA, if_pos ⟨rfl, rfl⟩]; exact fl_bit hb) b c
  rw [hA_sA, if_pos ⟨rfl, rfl⟩, sA_sA, fl_fl] at e3
  have e4 := m_product (σ := sA σ 48 20 (fl ((inR (a.toInt * c.toInt) ∧ inR (a.toInt * d.toInt)) ∧ inR (b.toInt * c.toInt)) (hA σ 48 20))) h (by rw [hA_sA, if_pos ⟨rfl, rfl⟩]; exact fl_bit hb) b d
  rw [hA_sA, if_pos ⟨rfl, rfl⟩, sA_sA, fl_fl] at e4
  unfold f_X6_products_
  simp only [chk_p, lt_p, bd_p, bc_p, oc_n, oc_s, and_self, and_true, true_and, if_true, if_false, isO_sA', isO_sB', isO_rA', hlen_sA, hlen_sB, hlen_rA, hR_sA, hR_sB, hR_rA, Typ_sA', Typ_sB', Typ_rA', O48, h, e1, e2, e3, e4]
  rfl
