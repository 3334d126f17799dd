theorem isO_sA' (σ : HS) (j k : Nat) (v : Int32) (t a : Nat) : isO (sA σ j k v) t a = isO σ t a := rfl
theorem isO_sB' (σ : HS) (j k : Nat) (v : Int64) (t a : Nat) : isO (sB σ j k v) t a = isO σ t a := rfl
theorem ife1 {c : Prop} [Decidable c] : ((if c then (1 : Int32) else 0) = 0) = ¬ c := by
  by_cases h : c <;> simp [h]
theorem SR.e {σ : HS} {t n : Nat} (h : SR σ t n) : (isO σ 1 t) = True ∧ (isO σ 12 (t + 1)) = True ∧ (isO σ 12 (t + 2)) = True ∧ (isO σ 11 (t + 3)) = True ∧ hR σ t 0 = some (t + 1) ∧ hR σ t 1 = some (t + 2) ∧ hR σ t 2 = some (t + 3) ∧ hlen σ (t + 1) = n ∧ hlen σ (t + 2) = n ∧ hlen σ (t + 3) = n := by
  obtain ⟨h1, h2, h3, h4, h5, h6, h7, h8, h9, h10⟩ := h
  exact ⟨eq_true h1, eq_true h5, eq_true h6, eq_true h7, h2, h3, h4, h8, h9, h10⟩
theorem fromTo_ok {σ : HS} {t n i : Nat} {a b : Int64} (hs : SR σ t n) (hi : i < n) (hi2 : i < 1000) : f_X1_fromTo t (nI i) a b σ = some ((), st3 σ t i 0 a b) := by
  obtain ⟨s1, s2, s3, s4, s5, s6, s7, s8, s9, s10⟩ := hs.e
  have ib := eq_true (inb1000 hi hi2)
  have ci := cl1000 hi2
  unfold f_X1_fromTo
  simp only [chk_p, lt_p, bd_p, bc_p, isO_sA', isO_sB', hlen_sA, hlen_sB, hR_sA, hR_sB, hA_sA, hA_sB, hB_sA, hB_sB, and_self, and_true, true_and, s1, s2, s3, s4, s5, s6, s7, s8, s9, s10, ib, ci]
  rfl
theorem sum_e {σ : HS} {t n o no w nw i a b : Nat} (hs : SR σ t n) (ho : SR σ o no) (hw : SR σ w nw) (hi : i < n) (ha : a < no) (hb : b < nw) (hi2 : i < 1000) (ha2 : a < 1000) (hb2 : b < 1000) (p1 : Apart t i o a) (p2 : Apart t i w b) : f_X1_sum t (nI i) o (nI a) w (nI b) σ = some ((), st3 σ t i (if hA σ (o + 3) a = 0 ∧ hA σ (w + 3) b = 0 ∧ inR ((hB σ (o + 1) a).toInt + (hB σ (w + 1) b).toInt) ∧ inR ((hB σ (o + 2) a).toInt + (hB σ (w + 2) b).toInt) then 0 else 1) (hB σ (o + 1) a + hB σ (w + 1) b) (hB σ (o + 2) a + hB σ (w + 2) b)) := by
  obtain ⟨s1, s2, s3, s4, s5, s6, s7, s8, s9, s10⟩ := hs.e
  obtain ⟨q1, q2, q3, q4, q5, q6, q7, q8, q9, q10⟩ := ho.e
  obtain ⟨v1, v2, v3, v4, v5, v6, v7, v8, v9, v10⟩ := hw.e
  have ib := eq_true (inb1000 hi hi2)
  have ia := eq_true (inb1000 ha ha2)
  have iw := eq_true (inb1000 hb hb2)
  have ci := cl1000 hi2
  have ca := cl1000 ha2
  have cb := cl1000 hb2
  have n1 : ¬ (o + 2 = t + 1 ∧ a = i) := by unfold Apart at p1; omega
  have n2 : ¬ (w + 2 = t + 1 ∧ b = i) := by unfold Apart at p2; omega
  unfold f_X1_sum
  by_cases c1 : hA σ (o + 3) a = 0
  · by_cases c2 : hA σ (w + 3) b = 0
    · by_cases c3 : inR ((hB σ (o + 1) a).toInt + (hB σ (w + 1) b).toInt)
      · have c3 := eq_true c3
        by_cases c4 : inR ((hB σ (o + 2) a).toInt + (hB σ (w + 2) b).toInt)
        · have c4 := eq_true c4
          simp only [chk_p, lt_p, bd_p, bc_p, isO_sA', isO_sB', hlen_sA, hlen_sB, hR_sA, hR_sB, hA_sA, hA_sB, hB_sA, hB_sB, and_self, and_true, true_and, sumFits_ok, ife1, s1, s2, s3, s4, s5, s6, s7, s8, s9, s10, q1, q2, q3, q4, q5, q6, q7, q8, q9, q10, v1, v2, v3, v4, v5, v6, v7, v8, v9, v10, ib, ia, iw, ci, ca, cb, if_neg n1, if_neg n2, c1, c2, c3, c4, not_true, if_true, if_false]
          rfl
        · have c4 := eq_false c4
          simp only [chk_p, lt_p, bd_p, bc_p, isO_sA', isO_sB', hlen_sA, hlen_sB, hR_sA, hR_sB, hA_sA, hA_sB, hB_sA, hB_sB, and_self, and_true, true_and, sumFits_ok, ife1, s1, s2, s3, s4, s5, s6, s7, s8, s9, s10, q1, q2, q3, q4, q5, q6, q7, q8, q9, q10, v1, v2, v3, v4, v5, v6, v7, v8, v9, v10, ib, ia, iw, ci, ca, cb, if_neg n1, if_neg n2, c1, c2, c3, c4, not_true, not_false_iff, and_false, if_true, if_false]
          rfl
      · have c3 := eq_false c3
        simp only [chk_p, lt_p, bd_p, bc_p, isO_sA', isO_sB', hlen_sA, hlen_sB, hR_sA, hR_sB, hA_sA, hA_sB, hB_sA, hB_sB, and_self, and_true, true_and, sumFits_ok, ife1, s1, s2, s3, s4, s5, s6, s7, s8, s9, s10, q1, q2, q3, q4, q5, q6, q7, q8, q9, q10, v1, v2, v3, v4, v5, v6, v7, v8, v9, v10, ib, ia, iw, ci, ca, cb, if_neg n1, if_neg n2, c1, c2, c3, not_true, not_false_iff, and_false, false_and, if_true, if_false]
        rfl
    · simp only [chk_p, lt_p, bd_p, bc_p, isO_sA', isO_sB', hlen_sA, hlen_sB, hR_sA, hR_sB, hA_sA, hA_sB, hB_sA, hB_sB, and_self, and_true, true_and, s1, s2, s3, s4, s5, s6, s7, s8, s9, s10, q1, q2, q3, q4, q5, q6, q7, q8, q9, q10, v1, v2, v3, v4, v5, v6, v7, v8, v9, v10, ib, ia, iw, ci, ca, cb, if_neg n1, if_neg n2, c1, c2, not_true, not_false_iff, and_false, false_and, if_true, if_false]
      rfl
  · simp only [chk_p, lt_p, bd_p, bc_p, isO_sA', isO_sB', hlen_sA, hlen_sB, hR_sA, hR_sB, hA_sA, hA_sB, hB_sA, hB_sB, and_self, and_true, true_and, s1, s2, s3, s4, s5, s6, s7, s8, s9, s10, q1, q2, q3, q4, q5, q6, q7, q8, q9, q10, v1, v2, v3, v4, v5, v6, v7, v8, v9, v10, ib, ia, iw, ci, ca, cb, if_neg n1, if_neg n2, c1, not_true, not_false_iff, and_false, false_and, if_true, if_false]
    rfl
theorem sum_ok {σ : HS} {t n o no w nw i a b : Nat} (hs : SR σ t n) (ho : SR σ o no) (hw : SR σ w nw) (hi : i < n) (ha : a < no) (hb : b < nw) (hi2 : i < 1000) (ha2 : a < 1000) (hb2 : b < 1000) (p1 : Apart t i o a) (p2 : Apart t i w b) {x y : Option (Int × Int)} (rx : Rep σ o a x) (ry : Rep σ w b y) : ∃ u lo hi, f_X1_sum t (nI i) o (nI a) w (nI b) σ = some ((), st3 σ t i u lo hi) ∧ Rep (st3 σ t i u lo hi) t i (sp2 3 x y) := by
  refine ⟨_, _, _, sum_e hs ho hw hi ha hb hi2 ha2 hb2 p1 p2, ?_⟩
  cases x with
  | none =>
    have h1 : hA σ (o + 3) a = 1 := rx
    rw [if_neg (by rw [h1]; intro z; exact absurd z.1 (by decide))]
    exact st3_rep_none
  | some p =>
    cases y with
    | none =>
      have h1 : hA σ (w + 3) b = 1 := ry
      rw [if_neg (by rw [h1]; intro z; exact absurd z.2.1 (by decide))]
      exact st3_rep_none
    | some r =>
      obtain ⟨a1, a2, a3, a4⟩ := rx
      obtain ⟨b1, b2, b3, b4⟩ := ry
      show Rep _ t i (rg (p.1 + r.1) (p.2 + r.2))
      by_cases g : inR ((p.1 + r.1)) ∧ inR ((p.2 + r.2))
      · rw [rg_of g.1 g.2, if_pos ⟨a1, b1, by rw [a2, b2]; exact g.1, by rw [a3, b3]; exact g.2⟩]
        refine st3_rep_some ?_ ?_ ?_
        · rw [l_add (by rw [a2, b2]; exact g.1), a2, b2]
        · rw [l_add (by rw [a3, b3]; exact g.2), a3, b3]
        · show p.1 + r.1 ≤ p.2 + r.2
          omega
      · rw [if_neg (by rw [a2, a3, b2, b3]; exact fun z => g z.2.2)]
        unfold rg
        rw [if_neg g]
        exact st3_rep_none
theorem difference_e {σ : HS} {t n o no w nw i a b : Nat} (hs : SR σ t n) (ho : SR σ o no) (hw : SR σ w nw) (hi : i < n) (ha : a < no) (hb : b < nw) (hi2 : i < 1000) (ha2 : a < 1000) (hb2 : b < 1000) (p1 : Apart t i o a) (p2 : Apart t i w b) : f_X1_difference t (nI i) o (nI a) w (nI b) σ = some ((), st3 σ t i (if hA σ (o + 3) a = 0 ∧ hA σ (w + 3) b = 0 ∧ inR ((hB σ (o + 1) a).toInt - (hB σ (w + 2) b).toInt) ∧ inR ((hB σ (o + 2) a).toInt - (hB σ (w + 1) b).toInt) then 0 else 1) (hB σ (o + 1) a - hB σ (w + 2) b) (hB σ (o + 2) a - hB σ (w + 1) b)) := by
  obtain ⟨s1, s2, s3, s4, s5, s6, s7, s8, s9, s10⟩ := hs.e
  obtain ⟨q1, q2, q3, q4, q5, q6, q7, q8, q9, q10⟩ := ho.e
  obtain ⟨v1, v2, v3, v4, v5, v6, v7, v8, v9, v10⟩ := hw.e
  have ib := eq_true (inb1000 hi hi2)
  have ia := eq_true (inb1000 ha ha2)
  have iw := eq_true (inb1000 hb hb2)
  have ci := cl1000 hi2
  have ca := cl1000 ha2
  have cb := cl1000 hb2
  have n1 : ¬ (o + 2 = t + 1 ∧ a = i) := by unfold Apart at p1; omega
  have n2 : ¬ (w + 1 = t + 1 ∧ b = i) := by unfold Apart at p2; omega
  unfold f_X1_difference
  by_cases c1 : hA σ (o + 3) a = 0
  · by_cases c2 : hA σ (w + 3) b = 0
    · by_cases c3 : inR ((hB σ (o + 1) a).toInt - (hB σ (w + 2) b).toInt)
      · have c3 := eq_true c3
        by_cases c4 : inR ((hB σ (o + 2) a).toInt - (hB σ (w + 1) b).toInt)
        · have c4 := eq_true c4
          simp only [chk_p, lt_p, bd_p, bc_p, isO_sA', isO_sB', hlen_sA, hlen_sB, hR_sA, hR_sB, hA_sA, hA_sB, hB_sA, hB_sB, and_self, and_true, true_and, differenceFits_ok, ife1, s1, s2, s3, s4, s5, s6, s7, s8, s9, s10, q1, q2, q3, q4, q5, q6, q7, q8, q9, q10, v1, v2, v3, v4, v5, v6, v7, v8, v9, v10, ib, ia, iw, ci, ca, cb, if_neg n1, if_neg n2, c1, c2, c3, c4, not_true, if_true, if_false]
          rfl
        · have c4 := eq_false c4
          simp only [chk_p, lt_p, bd_p, bc_p, isO_sA', isO_sB', hlen_sA, hlen_sB, hR_sA, hR_sB, hA_sA, hA_sB, hB_sA, hB_sB, and_self, and_true, true_and, differenceFits_ok, ife1, s1, s2, s3, s4, s5, s6, s7, s8, s9, s10, q1, q2, q3, q4, q5, q6, q7, q8, q9, q10, v1, v2, v3, v4, v5, v6, v7, v8, v9, v10, ib, ia, iw, ci, ca, cb, if_neg n1, if_neg n2, c1, c2, c3, c4, not_true, not_false_iff, and_false, if_true, if_false]
          rfl
      · have c3 := eq_false c3
        simp only [chk_p, lt_p, bd_p, bc_p, isO_sA', isO_sB', hlen_sA, hlen_sB, hR_sA, hR_sB, hA_sA, hA_sB, hB_sA, hB_sB, and_self, and_true, true_and, differenceFits_ok, ife1, s1, s2, s3, s4, s5, s6, s7, s8, s9, s10, q1, q2, q3, q4, q5, q6, q7, q8, q9, q10, v1, v2, v3, v4, v5, v6, v7, v8, v9, v10, ib, ia, iw, ci, ca, cb, if_neg n1, if_neg n2, c1, c2, c3, not_true, not_false_iff, and_false, false_and, if_true, if_false]
        rfl
    · simp only [chk_p, lt_p, bd_p, bc_p, isO_sA', isO_sB', hlen_sA, hlen_sB, hR_sA, hR_sB, hA_sA, hA_sB, hB_sA, hB_sB, and_self, and_true, true_and, s1, s2, s3, s4, s5, s6, s7, s8, s9, s10, q1, q2, q3, q4, q5, q6, q7, q8, q9, q10, v1, v2, v3, v4, v5, v6, v7, v8, v9, v10, ib, ia, iw, ci, ca, cb, if_neg n1, if_neg n2, c1, c2, not_true, not_false_iff, and_false, false_and, if_true, if_false]
      rfl
  · simp only [chk_p, lt_p, bd_p, bc_p, isO_sA', isO_sB', hlen_sA, hlen_sB, hR_sA, hR_sB, hA_sA, hA_sB, hB_sA, hB_sB, and_self, and_true, true_and, s1, s2, s3, s4, s5, s6, s7, s8, s9, s10, q1, q2, q3, q4, q5, q6, q7, q8, q9, q10, v1, v2, v3, v4, v5, v6, v7, v8, v9, v10, ib, ia, iw, ci, ca, cb, if_neg n1, if_neg n2, c1, not_true, not_false_iff, and_false, false_and, if_true, if_false]
    rfl
theorem difference_ok {σ : HS} {t n o no w nw i a b : Nat} (hs : SR σ t n) (ho : SR σ o no) (hw : SR σ w nw) (hi : i < n) (ha : a < no) (hb : b < nw) (hi2 : i < 1000) (ha2 : a < 1000) (hb2 : b < 1000) (p1 : Apart t i o a) (p2 : Apart t i w b) {x y : Option (Int × Int)} (rx : Rep σ o a x) (ry : Rep σ w b y) : ∃ u lo hi, f_X1_difference t (nI i) o (nI a) w (nI b) σ = some ((), st3 σ t i u lo hi) ∧ Rep (st3 σ t i u lo hi) t i (sp2 4 x y) := by
  refine ⟨_, _, _, difference_e hs ho hw hi ha hb hi2 ha2 hb2 p1 p2, ?_⟩
  cases x with
  | none =>
    have h1 : hA σ (o + 3) a = 1 := rx
    rw [if_neg (by rw [h1]; intro z; exact absurd z.1 (by decide))]
    exact st3_rep_none
  | some p =>
    cases y with
    | none =>
      have h1 : hA σ (w + 3) b = 1 := ry
      rw [if_neg (by rw [h1]; intro z; exact absurd z.2.1 (by decide))]
      exact st3_rep_none
    | some r =>
      obtain ⟨a1, a2, a3, a4⟩ := rx
      obtain ⟨b1, b2, b3, b4⟩ := ry
      show Rep _ t i (rg (p.1 - r.2) (p.2 - r.1))
      by_cases g : inR ((p.1 - r.2)) ∧ inR ((p.2 - r.1))
      · rw [rg_of g.1 g.2, if_pos ⟨a1, b1, by rw [a2, b3]; exact g.1, by rw [a3, b2]; exact g.2⟩]
        refine st3_rep_some ?_ ?_ ?_
        · rw [l_sub (by rw [a2, b3]; exact g.1), a2, b3]
        · rw [l_sub (by rw [a3, b2]; exact g.2), a3, b2]
        · show p.1 - r.2 ≤ p.2 - r.1
          omega
      · rw [if_neg (by rw [a2, a3, b2, b3]; exact fun z => g z.2.2)]
        unfold rg
        rw [if_neg g]
        exact st3_rep_none
