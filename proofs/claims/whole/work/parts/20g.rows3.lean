def lmn (x y : Int64) : Int64 := if y < x then y else x
def lmx (x y : Int64) : Int64 := if y < x then x else y
theorem lmn_i (x y : Int64) : (lmn x y).toInt = min x.toInt y.toInt := l_min x y
theorem lmx_i (x y : Int64) : (lmx x y).toInt = max x.toInt y.toInt := l_max x y
theorem product_e {σ : HS} {t n o no w nw i a b : Nat} (hs : SR σ t n) (ho : SR σ o no) (hw : SR σ w nw) (hi : i < n) (ha : a < no) (hb : b < nw) (hi2 : i < 1000) (ha2 : a < 1000) (hb2 : b < 1000) : f_X1_product t (nI i) o (nI a) w (nI b) σ = some ((), st3 σ t i (if hA σ (o + 3) a = 0 ∧ hA σ (w + 3) b = 0 ∧ inR ((hB σ (o + 1) a).toInt * (hB σ (w + 1) b).toInt) ∧ inR ((hB σ (o + 1) a).toInt * (hB σ (w + 2) b).toInt) ∧ inR ((hB σ (o + 2) a).toInt * (hB σ (w + 1) b).toInt) ∧ inR ((hB σ (o + 2) a).toInt * (hB σ (w + 2) b).toInt) then 0 else 1)
    (lmn (lmn (hB σ (o + 1) a * hB σ (w + 1) b) (hB σ (o + 1) a * hB σ (w + 2) b)) (lmn (hB σ (o + 2) a * hB σ (w + 1) b) (hB σ (o + 2) a * hB σ (w + 2) b))) (lmx (lmx (hB σ (o + 1) a * hB σ (w + 1) b) (hB σ (o + 1) a * hB σ (w + 2) b)) (lmx (hB σ (o + 2) a * hB σ (w + 1) b) (hB σ (o + 2) a * hB σ (w + 2) b)))) := by
  obtain ⟨s1, s2, s3, s4, s5, s6, s7, s8, s9, s10⟩ := hs.e
  obtain ⟨q1, q2, q3, q4, q5, q6, q7, q8, q9, q10⟩ := ho.e
  obtain ⟨v1, v2, v3, v4, v5, v6, v7, v8, v9, v10⟩ := hw.e
  have ib := eq_true (inb1000 hi hi2)
  have ia := eq_true (inb1000 ha ha2)
  have iw := eq_true (inb1000 hb hb2)
  have ci := cl1000 hi2
  have ca := cl1000 ha2
  have cb := cl1000 hb2
  unfold f_X1_product
  by_cases c0 : hA σ (o + 3) a = 0
  · have c0 := c0
    by_cases c1 : hA σ (w + 3) b = 0
    · have c1 := c1
      by_cases c2 : inR ((hB σ (o + 1) a).toInt * (hB σ (w + 1) b).toInt)
      · have c2 := eq_true c2
        by_cases c3 : inR ((hB σ (o + 1) a).toInt * (hB σ (w + 2) b).toInt)
        · have c3 := eq_true c3
          by_cases c4 : inR ((hB σ (o + 2) a).toInt * (hB σ (w + 1) b).toInt)
          · have c4 := eq_true c4
            by_cases c5 : inR ((hB σ (o + 2) a).toInt * (hB σ (w + 2) b).toInt)
            · have c5 := eq_true c5
              simp only [chk_p, lt_p, bd_p, bc_p, isO_sA', isO_sB', hlen_sA, hlen_sB, hR_sA, hR_sB, hA_sA, hA_sB, hB_sA, hB_sB, and_self, and_true, true_and, productFits_ok, ife1, s1, s2, s3, s4, s5, s6, s7, s8, s9, s10, q1, q2, q3, q4, q5, q6, q7, q8, q9, q10, v1, v2, v3, v4, v5, v6, v7, v8, v9, v10, ib, ia, iw, ci, ca, cb, c0, c1, c2, c3, c4, c5, not_true, not_false_iff, if_true, if_false]
              rfl
            · have c5 := eq_false c5
              simp only [chk_p, lt_p, bd_p, bc_p, isO_sA', isO_sB', hlen_sA, hlen_sB, hR_sA, hR_sB, hA_sA, hA_sB, hB_sA, hB_sB, and_self, and_true, true_and, productFits_ok, ife1, s1, s2, s3, s4, s5, s6, s7, s8, s9, s10, q1, q2, q3, q4, q5, q6, q7, q8, q9, q10, v1, v2, v3, v4, v5, v6, v7, v8, v9, v10, ib, ia, iw, ci, ca, cb, c0, c1, c2, c3, c4, c5, not_true, not_false_iff, and_false, false_and, if_true, if_false]
              rfl
          · have c4 := eq_false c4
            simp only [chk_p, lt_p, bd_p, bc_p, isO_sA', isO_sB', hlen_sA, hlen_sB, hR_sA, hR_sB, hA_sA, hA_sB, hB_sA, hB_sB, and_self, and_true, true_and, productFits_ok, ife1, s1, s2, s3, s4, s5, s6, s7, s8, s9, s10, q1, q2, q3, q4, q5, q6, q7, q8, q9, q10, v1, v2, v3, v4, v5, v6, v7, v8, v9, v10, ib, ia, iw, ci, ca, cb, c0, c1, c2, c3, c4, not_true, not_false_iff, and_false, false_and, if_true, if_false]
            rfl
        · have c3 := eq_false c3
          simp only [chk_p, lt_p, bd_p, bc_p, isO_sA', isO_sB', hlen_sA, hlen_sB, hR_sA, hR_sB, hA_sA, hA_sB, hB_sA, hB_sB, and_self, and_true, true_and, productFits_ok, ife1, s1, s2, s3, s4, s5, s6, s7, s8, s9, s10, q1, q2, q3, q4, q5, q6, q7, q8, q9, q10, v1, v2, v3, v4, v5, v6, v7, v8, v9, v10, ib, ia, iw, ci, ca, cb, c0, c1, c2, c3, not_true, not_false_iff, and_false, false_and, if_true, if_false]
          rfl
      · have c2 := eq_false c2
        simp only [chk_p, lt_p, bd_p, bc_p, isO_sA', isO_sB', hlen_sA, hlen_sB, hR_sA, hR_sB, hA_sA, hA_sB, hB_sA, hB_sB, and_self, and_true, true_and, productFits_ok, ife1, s1, s2, s3, s4, s5, s6, s7, s8, s9, s10, q1, q2, q3, q4, q5, q6, q7, q8, q9, q10, v1, v2, v3, v4, v5, v6, v7, v8, v9, v10, ib, ia, iw, ci, ca, cb, c0, c1, c2, not_true, not_false_iff, and_false, false_and, if_true, if_false]
        rfl
    · have c1 := c1
      simp only [chk_p, lt_p, bd_p, bc_p, isO_sA', isO_sB', hlen_sA, hlen_sB, hR_sA, hR_sB, hA_sA, hA_sB, hB_sA, hB_sB, and_self, and_true, true_and, productFits_ok, ife1, s1, s2, s3, s4, s5, s6, s7, s8, s9, s10, q1, q2, q3, q4, q5, q6, q7, q8, q9, q10, v1, v2, v3, v4, v5, v6, v7, v8, v9, v10, ib, ia, iw, ci, ca, cb, c0, c1, not_true, not_false_iff, and_false, false_and, if_true, if_false]
      rfl
  · have c0 := c0
    simp only [chk_p, lt_p, bd_p, bc_p, isO_sA', isO_sB', hlen_sA, hlen_sB, hR_sA, hR_sB, hA_sA, hA_sB, hB_sA, hB_sB, and_self, and_true, true_and, productFits_ok, ife1, s1, s2, s3, s4, s5, s6, s7, s8, s9, s10, q1, q2, q3, q4, q5, q6, q7, q8, q9, q10, v1, v2, v3, v4, v5, v6, v7, v8, v9, v10, ib, ia, iw, ci, ca, cb, c0, not_true, not_false_iff, and_false, false_and, if_true, if_false]
    rfl
theorem product_ok {σ : HS} {t n o no w nw i a b : Nat} (hs : SR σ t n) (ho : SR σ o no) (hw : SR σ w nw) (hi : i < n) (ha : a < no) (hb : b < nw) (hi2 : i < 1000) (ha2 : a < 1000) (hb2 : b < 1000) {x y : Option (Int × Int)} (rx : Rep σ o a x) (ry : Rep σ w b y) {k : Nat} (hk : 5 ≤ k) : ∃ u lo hi, f_X1_product t (nI i) o (nI a) w (nI b) σ = some ((), st3 σ t i u lo hi) ∧ Rep (st3 σ t i u lo hi) t i (sp2 k x y) := by
  refine ⟨_, _, _, product_e hs ho hw hi ha hb hi2 ha2 hb2, ?_⟩
  cases x with
  | none =>
    have h1 : hA σ (o + 3) a = 1 := rx
    rw [if_neg (by rw [h1]; intro z; exact absurd z.1 (by decide))]
    exact st3_rep_none
  | some p =>
    cases y with
    | none =>
      have h1 : hA σ (w + 3) b = 1 := ry
      rw [if_neg (by rw [h1]; intro z; exact absurd z.2.1 (by decide))]
      exact st3_rep_none
    | some r =>
      obtain ⟨a1, a2, a3, a4⟩ := rx
      obtain ⟨b1, b2, b3, b4⟩ := ry
      have es : sp2 k (some p) (some r) = pr4 p.1 p.2 r.1 r.2 := by
        show (if k = 3 then _ else if k = 4 then _ else _) = _
        rw [if_neg (by omega), if_neg (by omega)]
      rw [es, a1, b1, a2, a3, b2, b3]
      by_cases g : inR (p.1 * r.1) ∧ inR (p.1 * r.2) ∧ inR (p.2 * r.1) ∧ inR (p.2 * r.2)
      · rw [if_pos ⟨rfl, rfl, g⟩]
        have e4 : pr4 p.1 p.2 r.1 r.2 = some (mn4 p.1 p.2 r.1 r.2, mx4 p.1 p.2 r.1 r.2) := if_pos g
        rw [e4]
        have m1 := l_mul (a := hB σ (o + 1) a) (b := hB σ (w + 1) b) (by rw [a2, b2]; exact g.1)
        have m2 := l_mul (a := hB σ (o + 1) a) (b := hB σ (w + 2) b) (by rw [a2, b3]; exact g.2.1)
        have m3 := l_mul (a := hB σ (o + 2) a) (b := hB σ (w + 1) b) (by rw [a3, b2]; exact g.2.2.1)
        have m4 := l_mul (a := hB σ (o + 2) a) (b := hB σ (w + 2) b) (by rw [a3, b3]; exact g.2.2.2)
        rw [a2, b2] at m1
        rw [a2, b3] at m2
        rw [a3, b2] at m3
        rw [a3, b3] at m4
        refine st3_rep_some ?_ ?_ (mn4_le _ _ _ _)
        · rw [lmn_i, lmn_i, lmn_i, m1, m2, m3, m4]; rfl
        · rw [lmx_i, lmx_i, lmx_i, m1, m2, m3, m4]; rfl
      · rw [if_neg (fun z => g z.2.2)]
        unfold pr4
        rw [if_neg g]
        exact st3_rep_none
theorem st3_swap (σ : HS) (t i : Nat) (u : Int32) (lo hi : Int64) : sB (sB (sA σ (t + 3) i u) (t + 2) i hi) (t + 1) i lo = st3 σ t i u lo hi := by
  unfold st3 sB sA
  refine congrArg (fun z => ((σ.1, σ.2.1, σ.2.2.1, up2 σ.2.2.2.1 (t + 3) i u, z, σ.2.2.2.2.2) : HS)) (funext fun x => funext fun y => ?_)
  unfold up2
  dsimp only
  by_cases h1 : x = t + 1 ∧ y = i
  · rw [if_pos h1, if_neg (by omega), if_pos h1]
  · rw [if_neg h1]
    by_cases h2 : x = t + 2 ∧ y = i
    · rw [if_pos h2, if_pos h2]
    · rw [if_neg h2, if_neg h2, if_neg h1]
theorem less_e {σ : HS} {t n o no i a : Nat} (hs : SR σ t n) (ho : SR σ o no) (hi : i < n) (ha : a < no) (hi2 : i < 1000) (ha2 : a < 1000) : f_X1_less t (nI i) o (nI a) σ = some ((), st3 σ t i (if hA σ (o + 3) a = 0 ∧ ¬ hB σ (o + 1) a = -9223372036854775808 then 0 else 1) (-hB σ (o + 2) a) (-hB σ (o + 1) a)) := by
  obtain ⟨s1, s2, s3, s4, s5, s6, s7, s8, s9, s10⟩ := hs.e
  obtain ⟨q1, q2, q3, q4, q5, q6, q7, q8, q9, q10⟩ := ho.e
  have ib := eq_true (inb1000 hi hi2)
  have ia := eq_true (inb1000 ha ha2)
  have ci := cl1000 hi2
  have ca := cl1000 ha2
  unfold f_X1_less
  by_cases c1 : hA σ (o + 3) a = 0
  · by_cases c2 : hB σ (o + 1) a = -9223372036854775808
    · simp only [chk_p, lt_p, bd_p, bc_p, isO_sA', isO_sB', hlen_sA, hlen_sB, hR_sA, hR_sB, hA_sA, hA_sB, hB_sA, hB_sB, and_self, and_true, true_and, zc_eq, s1, s2, s3, s4, s5, s6, s7, s8, s9, s10, q1, q2, q3, q4, q5, q6, q7, q8, q9, q10, ib, ia, ci, ca, c1, c2, not_true, not_false_iff, and_false, if_true, if_false]
      exact congrArg (fun z => some ((), z)) (st3_swap _ _ _ _ _ _)
    · simp only [chk_p, lt_p, bd_p, bc_p, isO_sA', isO_sB', hlen_sA, hlen_sB, hR_sA, hR_sB, hA_sA, hA_sB, hB_sA, hB_sB, and_self, and_true, true_and, zc_eq, s1, s2, s3, s4, s5, s6, s7, s8, s9, s10, q1, q2, q3, q4, q5, q6, q7, q8, q9, q10, ib, ia, ci, ca, c1, c2, not_true, not_false_iff, and_self, if_true, if_false]
      exact congrArg (fun z => some ((), z)) (st3_swap _ _ _ _ _ _)
  · simp only [chk_p, lt_p, bd_p, bc_p, isO_sA', isO_sB', hlen_sA, hlen_sB, hR_sA, hR_sB, hA_sA, hA_sB, hB_sA, hB_sB, and_self, and_true, true_and, zc_eq, s1, s2, s3, s4, s5, s6, s7, s8, s9, s10, q1, q2, q3, q4, q5, q6, q7, q8, q9, q10, ib, ia, ci, ca, c1, not_true, not_false_iff, and_false, false_and, if_true, if_false]
    exact congrArg (fun z => some ((), z)) (st3_swap _ _ _ _ _ _)
theorem less_ok {σ : HS} {t n o no i a : Nat} (hs : SR σ t n) (ho : SR σ o no) (hi : i < n) (ha : a < no) (hi2 : i < 1000) (ha2 : a < 1000) {x : Option (Int × Int)} (rx : Rep σ o a x) : ∃ u lo hi, f_X1_less t (nI i) o (nI a) σ = some ((), st3 σ t i u lo hi) ∧ Rep (st3 σ t i u lo hi) t i (sp1 x) := by
  refine ⟨_, _, _, less_e hs ho hi ha hi2 ha2, ?_⟩
  cases x with
  | none =>
    have h1 : hA σ (o + 3) a = 1 := rx
    rw [if_neg (by rw [h1]; intro z; exact absurd z.1 (by decide))]
    exact st3_rep_none
  | some p =>
    obtain ⟨a1, a2, a3, a4⟩ := rx
    have t1 := tR (hB σ (o + 1) a)
    have t2 := tR (hB σ (o + 2) a)
    rw [a2] at t1
    rw [a3] at t2
    show Rep _ t i (rg (-p.2) (-p.1))
    by_cases g : hB σ (o + 1) a = -9223372036854775808
    · rw [if_neg (fun z => z.2 g)]
      have e : p.1 = -9223372036854775808 := by rw [← a2, g]; rfl
      unfold rg
      rw [if_neg (by omega)]
      exact st3_rep_none
    · rw [if_pos ⟨a1, g⟩]
      have e : p.1 ≠ -9223372036854775808 := fun z => g (Int64.toInt_inj.mp (by rw [a2, z]; rfl))
      rw [rg_of (by omega) (by omega)]
      refine st3_rep_some ?_ ?_ ?_
      · rw [l_neg (by rw [a3]; omega), a3]
      · rw [l_neg (by rw [a2]; omega), a2]
      · show -p.2 ≤ -p.1
        omega
