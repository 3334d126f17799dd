/-! longs, and what fits in them -/
theorem bm {x : Int} (h : inR x) : x.bmod (2 ^ 64) = x := Int.bmod_eq_of_le_mul_two (by omega) (by omega)
theorem bmE (x : Int) : ∃ k : Int, x.bmod (2 ^ 64) = x - 18446744073709551616 * k ∧ inR (x.bmod (2 ^ 64)) := by
  refine ⟨x.bdiv (2 ^ 64), ?_, ?_⟩
  · rw [Int.bmod_eq_self_sub_mul_bdiv]; rfl
  · have h1 := Int.le_bmod (x := x) (m := 2 ^ 64) (by decide)
    have h2 := Int.bmod_lt (x := x) (m := 2 ^ 64) (by decide)
    omega
theorem tR (a : Int64) : inR a.toInt := by
  have h1 := Int64.le_toInt a
  have h2 := Int64.toInt_lt a
  omega
theorem l_add {a b : Int64} (h : inR (a.toInt + b.toInt)) : (a + b).toInt = a.toInt + b.toInt := by rw [Int64.toInt_add, bm h]
theorem l_sub {a b : Int64} (h : inR (a.toInt - b.toInt)) : (a - b).toInt = a.toInt - b.toInt := by rw [Int64.toInt_sub, bm h]
theorem l_mul {a b : Int64} (h : inR (a.toInt * b.toInt)) : (a * b).toInt = a.toInt * b.toInt := by rw [Int64.toInt_mul, bm h]
theorem l_neg {a : Int64} (h : inR (-a.toInt)) : (-a).toInt = -a.toInt := by rw [Int64.toInt_neg, bm h]
theorem l_lt {a b : Int64} : a < b ↔ a.toInt < b.toInt := Int64.lt_iff_toInt_lt
theorem l_le {a b : Int64} : a ≤ b ↔ a.toInt ≤ b.toInt := Int64.le_iff_toInt_le
theorem l_eq {a b : Int64} : a = b ↔ a.toInt = b.toInt := Int64.toInt_inj.symm
theorem l_min (a b : Int64) : (if b < a then b else a).toInt = min a.toInt b.toInt := by
  by_cases h : b < a
  · rw [if_pos h]; have := l_lt.mp h; omega
  · rw [if_neg h]; have := mt l_lt.mpr h; omega
theorem l_max (a b : Int64) : (if b < a then a else b).toInt = max a.toInt b.toInt := by
  by_cases h : b < a
  · rw [if_pos h]; have := l_lt.mp h; omega
  · rw [if_neg h]; have := mt l_lt.mpr h; omega
theorem zc_lt (x y : Int64) : lg_cmp x y < 0 ↔ x.toInt < y.toInt := by
  have h := lg_cmp_ge x y
  rw [l_le] at h
  rw [← Int32.not_le, h]
  omega
theorem zc_le0 (x y : Int64) : lg_cmp x y ≤ 0 ↔ x.toInt ≤ y.toInt := by
  unfold lg_cmp
  simp only [gt_iff_lt, Int64.lt_iff_toInt_lt, ← Int64.toInt_inj]
  repeat' split
  all_goals first | (simp; omega) | (constructor <;> intro h <;> first | omega | (exact absurd h (by decide)) | decide)
theorem zc_gt (x y : Int64) : 0 < lg_cmp x y ↔ y.toInt < x.toInt := by
  rw [← Int32.not_le, zc_le0]; omega
theorem zc_ge (x y : Int64) : 0 ≤ lg_cmp x y ↔ y.toInt ≤ x.toInt := by rw [lg_cmp_ge, l_le]
theorem zc_eq (x y : Int64) : lg_cmp x y = 0 ↔ x = y := by
  constructor
  · intro h
    have h1 : lg_cmp x y ≤ 0 := by rw [h]; decide
    have h2 : 0 ≤ lg_cmp x y := by rw [h]; decide
    rw [zc_le0] at h1
    rw [zc_ge] at h2
    exact Int64.toInt_inj.mp (by omega)
  · intro h; subst h; unfold lg_cmp; simp
theorem tdivE (w a : Int) : ∃ r : Int, w = a * w.tdiv a + r ∧ (a ≠ 0 → -(a.natAbs : Int) < r ∧ r < a.natAbs) := by
  refine ⟨w.tmod a, (Int.mul_tdiv_add_tmod w a).symm, fun h => ?_⟩
  have h1 := Int.natAbs_tmod w a
  have h2 : w.natAbs % a.natAbs < a.natAbs := Nat.mod_lt _ (by omega)
  omega
/-- a product fits, if it comes back by a division -/
theorem mul_fit {a b : Int64} (h0 : a ≠ 0) (h1 : a ≠ -1) : ((a * b) / a = b) ↔ inR (a.toInt * b.toInt) := by
  have hm : a.toInt ≠ 0 := fun e => h0 (Int64.toInt_inj.mp (by rw [e]; rfl))
  rw [l_eq, Int64.toInt_div_of_ne_right _ _ h1, Int64.toInt_mul]
  have ha := tR a
  obtain ⟨k, e1, e2⟩ := bmE (a.toInt * b.toInt)
  constructor
  · intro h
    obtain ⟨r, hr, hb⟩ := tdivE ((a.toInt * b.toInt).bmod (2 ^ 64)) a.toInt
    rw [h] at hr
    have hb := hb hm
    have : k = 0 := by omega
    rw [this] at e1
    rw [← show (a.toInt * b.toInt).bmod (2 ^ 64) = a.toInt * b.toInt by omega]
    exact e2
  · intro h
    rw [bm h]
    exact Int.mul_tdiv_cancel_left _ hm
