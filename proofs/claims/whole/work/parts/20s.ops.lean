/-! set, of, way, get, put -/
theorem INV.src {σ : HS} {V S C : Nat → Int32} {n : Nat} {FS : Nat → FM} (I : INV σ V S C n FS) {s : Nat} (hs : s < 6) : (hA σ 2 s = V s ∧ hA σ 3 s = S s ∧ hA σ 4 s = C s) ∧ (hA σ 49 (3 * s) = V s ∧ hA σ 49 (3 * s + 1) = S s ∧ hA σ 49 (3 * s + 2) = C s) ∧ rgI (V s) (-99) 99 ∧ rgI (S s) 0 20 ∧ rgI (C s) 0 99 := I.2.1 s hs
theorem op_set (a w v : Int32) : OpOK (f_X5_set 0 a w v) (f_X6_set 48 a w v) := by
  intro σ V S C n FS I
  have t := I.1
  rcases argC a 6 (by decide) with ⟨s, hs, rfl⟩ | ha
  · have c1 := inS hs
    have ie := inbE (i := s) (n := 6) hs (by omega)
    have cs := cl1000 (i := s) (by omega)
    obtain ⟨⟨a1, a2, a3⟩, ⟨b1, b2, b3⟩, -⟩ := I.src hs
    rcases argC w 3 (by decide) with ⟨k, hk, rfl⟩ | hw
    · have k0 : (nI k < 0) = False := by rw [i_lt, nT (by omega), z320]; exact eq_false (by omega)
      have k2 : (nI k ≤ 2) = True := by rw [i_le, nT (by omega)]; exact eq_true (by have : (2 : Int32).toInt = 2 := rfl; omega)
      have em := isIn_c (nI k) 0 2 0 2 rfl rfl σ
      rw [nT (by omega), if_pos (by omega)] at em
      have k3 : k = 0 ∨ k = 1 ∨ k = 2 := by omega
      have pe := inbE (i := 3 * s + k) (n := 18) (by omega) (by omega)
      have cp := cl1000 (i := 3 * s + k) (by omega)
      by_cases hv : (if k = 0 then -99 else 0) ≤ v.toInt ∧ v.toInt ≤ (if k = 1 then 20 else 99)
      · have iv := set_inv I hs hk hv
        have eb := mb_ok k hk v σ
        rw [if_pos hv] at eb
        rcases k3 with z | z | z <;> subst z
        · have ev := isIn_c v (-99) 99 (-99) 99 rfl rfl (sA σ 2 s v)
          rw [if_pos (by simpa using hv)] at ev
          have em' := isIn_c (nI 0) 0 2 0 2 rfl rfl (sA σ 2 s v)
          rw [nT (by omega), if_pos (by omega)] at em'
          refine ⟨hA σ 2 s, sA σ 2 s v, sA (sA σ 2 s v) 49 (3 * s + 0) v, ?_, t, Nat.le_refl _, ?_, Nat.le_refl _, _, _, _, _, _, iv⟩
          · have er := rowOf_ok t (k := 0) (by decide)
            unfold f_X5_set
            simp (decide := true) only [isSource_ok, yif c1, beq1, k0, k2, eb, er, Nat.reduceAdd, chk_p, lt_p, bd_p, bc_p, oc_n, oc_s, and_self, and_true, true_and, if_true, if_false, isO_sA', isO_sB', isO_rA', hlen_sA, hlen_sB, hlen_rA, hR_sA, hR_sB, hR_rA, Typ_sA', Typ_sB', Typ_rA', O0, r0_0, r0_1, r0_3, r0_4, r0_5, r0_6, r0_7, O1, r1_0, r1_1, r1_2, r1_3, r1_5, r1_6, r1_7, O2, l2, t, ie, cs, if_false]
          · unfold f_X6_set
            simp (decide := true) only [mIsSource_ok, yif c1, beq1, em', ev, chk_p, lt_p, bd_p, bc_p, oc_n, oc_s, and_self, and_true, true_and, if_true, if_false, isO_sA', isO_sB', isO_rA', hlen_sA, hlen_sB, hlen_rA, hR_sA, hR_sB, hR_rA, Typ_sA', Typ_sB', Typ_rA', O48, r48_0, r48_1, r48_2, r48_3, r48_4, r48_5, r48_6, r48_8, r48_9, r48_10, r48_11, r48_12, r48_15, r48_21, r48_22, r48_23, r48_24, r48_25, r48_28, r48_30, r48_31, r48_32, r48_35, r48_37, r48_39, r48_40, r48_41, O49, l49, t, nI_mul3, nI_plus, pe, cp, hA_sA, if_false, false_and]
            rw [a1, show hA σ 49 (3 * s + 0) = _ from b1]
        · have ev := isIn_c v 0 20 0 20 rfl rfl (sA σ 3 s v)
          rw [if_pos (by simpa using hv)] at ev
          have em' := isIn_c (nI 1) 0 2 0 2 rfl rfl (sA σ 3 s v)
          rw [nT (by omega), if_pos (by omega)] at em'
          refine ⟨hA σ 3 s, sA σ 3 s v, sA (sA σ 3 s v) 49 (3 * s + 1) v, ?_, t, Nat.le_refl _, ?_, Nat.le_refl _, _, _, _, _, _, iv⟩
          · have er := rowOf_ok t (k := 1) (by decide)
            unfold f_X5_set
            simp (decide := true) only [isSource_ok, yif c1, beq1, k0, k2, eb, er, Nat.reduceAdd, chk_p, lt_p, bd_p, bc_p, oc_n, oc_s, and_self, and_true, true_and, if_true, if_false, isO_sA', isO_sB', isO_rA', hlen_sA, hlen_sB, hlen_rA, hR_sA, hR_sB, hR_rA, Typ_sA', Typ_sB', Typ_rA', O0, r0_0, r0_1, r0_3, r0_4, r0_5, r0_6, r0_7, O1, r1_0, r1_1, r1_2, r1_3, r1_5, r1_6, r1_7, O3, l3, t, ie, cs, if_false]
          · unfold f_X6_set
            simp (decide := true) only [mIsSource_ok, yif c1, beq1, em', ev, chk_p, lt_p, bd_p, bc_p, oc_n, oc_s, and_self, and_true, true_and, if_true, if_false, isO_sA', isO_sB', isO_rA', hlen_sA, hlen_sB, hlen_rA, hR_sA, hR_sB, hR_rA, Typ_sA', Typ_sB', Typ_rA', O48, r48_0, r48_1, r48_2, r48_3, r48_4, r48_5, r48_6, r48_8, r48_9, r48_10, r48_11, r48_12, r48_15, r48_21, r48_22, r48_23, r48_24, r48_25, r48_28, r48_30, r48_31, r48_32, r48_35, r48_37, r48_39, r48_40, r48_41, O49, l49, t, nI_mul3, nI_plus, pe, cp, hA_sA, if_false, false_and]
            rw [a2, show hA σ 49 (3 * s + 1) = _ from b2]
        · have ev := isIn_c v 0 99 0 99 rfl rfl (sA σ 4 s v)
          rw [if_pos (by simpa using hv)] at ev
          have em' := isIn_c (nI 2) 0 2 0 2 rfl rfl (sA σ 4 s v)
          rw [nT (by omega), if_pos (by omega)] at em'
          refine ⟨hA σ 4 s, sA σ 4 s v, sA (sA σ 4 s v) 49 (3 * s + 2) v, ?_, t, Nat.le_refl _, ?_, Nat.le_refl _, _, _, _, _, _, iv⟩
          · have er := rowOf_ok t (k := 2) (by decide)
            unfold f_X5_set
            simp (decide := true) only [isSource_ok, yif c1, beq1, k0, k2, eb, er, Nat.reduceAdd, chk_p, lt_p, bd_p, bc_p, oc_n, oc_s, and_self, and_true, true_and, if_true, if_false, isO_sA', isO_sB', isO_rA', hlen_sA, hlen_sB, hlen_rA, hR_sA, hR_sB, hR_rA, Typ_sA', Typ_sB', Typ_rA', O0, r0_0, r0_1, r0_3, r0_4, r0_5, r0_6, r0_7, O1, r1_0, r1_1, r1_2, r1_3, r1_5, r1_6, r1_7, O4, l4, t, ie, cs, if_false]
          · unfold f_X6_set
            simp (decide := true) only [mIsSource_ok, yif c1, beq1, em', ev, chk_p, lt_p, bd_p, bc_p, oc_n, oc_s, and_self, and_true, true_and, if_true, if_false, isO_sA', isO_sB', isO_rA', hlen_sA, hlen_sB, hlen_rA, hR_sA, hR_sB, hR_rA, Typ_sA', Typ_sB', Typ_rA', O48, r48_0, r48_1, r48_2, r48_3, r48_4, r48_5, r48_6, r48_8, r48_9, r48_10, r48_11, r48_12, r48_15, r48_21, r48_22, r48_23, r48_24, r48_25, r48_28, r48_30, r48_31, r48_32, r48_35, r48_37, r48_39, r48_40, r48_41, O49, l49, t, nI_mul3, nI_plus, pe, cp, hA_sA, if_false, false_and]
            rw [a3, show hA σ 49 (3 * s + 2) = _ from b3]
      · have eb := mb_ok k hk v σ
        rw [if_neg hv] at eb
        refine opN I (-1001) ?_ ?_
        · unfold f_X5_set
          simp only [isSource_ok, yif c1, beq1, k0, k2, eb, if_false, chk_p, lt_p, bd_p, bc_p, oc_n, oc_s, and_self, and_true, true_and, if_true, if_false, isO_sA', isO_sB', isO_rA', hlen_sA, hlen_sB, hlen_rA, hR_sA, hR_sB, hR_rA, Typ_sA', Typ_sB', Typ_rA']
        · rcases k3 with z | z | z <;> subst z
          · have ev := isIn_c v (-99) 99 (-99) 99 rfl rfl σ
            rw [if_neg (by simpa using hv)] at ev
            unfold f_X6_set
            simp (decide := true) only [mIsSource_ok, yif c1, beq1, em, ev, chk_p, lt_p, bd_p, bc_p, oc_n, oc_s, and_self, and_true, true_and, if_true, if_false, isO_sA', isO_sB', isO_rA', hlen_sA, hlen_sB, hlen_rA, hR_sA, hR_sB, hR_rA, Typ_sA', Typ_sB', Typ_rA', if_false]
          · have ev := isIn_c v 0 20 0 20 rfl rfl σ
            rw [if_neg (by simpa using hv)] at ev
            unfold f_X6_set
            simp (decide := true) only [mIsSource_ok, yif c1, beq1, em, ev, chk_p, lt_p, bd_p, bc_p, oc_n, oc_s, and_self, and_true, true_and, if_true, if_false, isO_sA', isO_sB', isO_rA', hlen_sA, hlen_sB, hlen_rA, hR_sA, hR_sB, hR_rA, Typ_sA', Typ_sB', Typ_rA', if_false]
          · have ev := isIn_c v 0 99 0 99 rfl rfl σ
            rw [if_neg (by simpa using hv)] at ev
            unfold f_X6_set
            simp (decide := true) only [mIsSource_ok, yif c1, beq1, em, ev, chk_p, lt_p, bd_p, bc_p, oc_n, oc_s, and_self, and_true, true_and, if_true, if_false, isO_sA', isO_sB', isO_rA', hlen_sA, hlen_sB, hlen_rA, hR_sA, hR_sB, hR_rA, Typ_sA', Typ_sB', Typ_rA', if_false]
    · have em := isIn_c w 0 2 0 2 rfl rfl σ
      rw [if_neg (by omega)] at em
      refine opN I (-1000) ?_ ?_
      · unfold f_X5_set
        by_cases w0 : w < 0
        · simp only [isSource_ok, yif c1, beq1, w0, if_false, chk_p, lt_p, bd_p, bc_p, oc_n, oc_s, and_self, and_true, true_and, if_true, if_false, isO_sA', isO_sB', isO_rA', hlen_sA, hlen_sB, hlen_rA, hR_sA, hR_sB, hR_rA, Typ_sA', Typ_sB', Typ_rA']
        · have w2 : (w ≤ 2) = False := by rw [i_lt, z320] at w0; rw [i_le]; exact eq_false (by have : (2 : Int32).toInt = 2 := rfl; omega)
          simp only [isSource_ok, yif c1, beq1, w0, w2, if_false, chk_p, lt_p, bd_p, bc_p, oc_n, oc_s, and_self, and_true, true_and, if_true, if_false, isO_sA', isO_sB', isO_rA', hlen_sA, hlen_sB, hlen_rA, hR_sA, hR_sB, hR_rA, Typ_sA', Typ_sB', Typ_rA']
      · unfold f_X6_set
        simp only [mIsSource_ok, yif c1, beq1, em, if_false, chk_p, lt_p, bd_p, bc_p, oc_n, oc_s, and_self, and_true, true_and, if_true, if_false, isO_sA', isO_sB', isO_rA', hlen_sA, hlen_sB, hlen_rA, hR_sA, hR_sB, hR_rA, Typ_sA', Typ_sB', Typ_rA']
  · have c1 : ¬ (0 ≤ a.toInt ∧ a.toInt < 6) := by omega
    refine opN I (-1000) ?_ ?_
    · unfold f_X5_set
      simp only [isSource_ok, nif c1, chk_p, lt_p, bd_p, bc_p, oc_n, oc_s, and_self, and_true, true_and, if_true, if_false, isO_sA', isO_sB', isO_rA', hlen_sA, hlen_sB, hlen_rA, hR_sA, hR_sB, hR_rA, Typ_sA', Typ_sB', Typ_rA']
    · unfold f_X6_set
      simp only [mIsSource_ok, nif c1, chk_p, lt_p, bd_p, bc_p, oc_n, oc_s, and_self, and_true, true_and, if_true, if_false, isO_sA', isO_sB', isO_rA', hlen_sA, hlen_sB, hlen_rA, hR_sA, hR_sB, hR_rA, Typ_sA', Typ_sB', Typ_rA']
theorem op_of (a w : Int32) : OpOK (f_X5_of 0 a w) (f_X6_of 48 a w) := by
  intro σ V S C n FS I
  have t := I.1
  rcases argC a 6 (by decide) with ⟨s, hs, rfl⟩ | ha
  · have c1 := inS hs
    have ie := inbE (i := s) (n := 6) hs (by omega)
    have cs := cl1000 (i := s) (by omega)
    obtain ⟨⟨a1, a2, a3⟩, ⟨b1, b2, b3⟩, -⟩ := I.src hs
    have lo := lowOf_ok t hs
    have hi := highOf_ok t hs
    have mv := valueOf_ok t hs
    have ms := spanOf_ok t hs
    rcases argC w 5 (by decide) with ⟨k, hk, rfl⟩ | hw
    · have em := isIn_c (nI k) 0 4 0 4 rfl rfl σ
      rw [nT (by omega), if_pos (by omega)] at em
      have k3 : k = 0 ∨ k = 1 ∨ k = 2 ∨ k = 3 ∨ k = 4 := by omega
      rcases k3 with z | z | z | z | z <;> subst z
      · have er := rowOf_ok t (k := 0) (by decide)
        have pe := inbE (i := 3 * s + 0) (n := 18) (by omega) (by omega)
        have cp := cl1000 (i := 3 * s + 0) (by omega)
        refine opN I (hA σ 2 s) ?_ ?_
        · unfold f_X5_of
          simp (decide := true) only [isSource_ok, yif c1, beq1, er, Nat.reduceAdd, chk_p, lt_p, bd_p, bc_p, oc_n, oc_s, and_self, and_true, true_and, if_true, if_false, isO_sA', isO_sB', isO_rA', hlen_sA, hlen_sB, hlen_rA, hR_sA, hR_sB, hR_rA, Typ_sA', Typ_sB', Typ_rA', O0, r0_0, r0_1, r0_3, r0_4, r0_5, r0_6, r0_7, O1, r1_0, r1_1, r1_2, r1_3, r1_5, r1_6, r1_7, O2, l2, t, ie, cs, if_false]
        · unfold f_X6_of
          simp (decide := true) only [mIsSource_ok, yif c1, beq1, em, chk_p, lt_p, bd_p, bc_p, oc_n, oc_s, and_self, and_true, true_and, if_true, if_false, isO_sA', isO_sB', isO_rA', hlen_sA, hlen_sB, hlen_rA, hR_sA, hR_sB, hR_rA, Typ_sA', Typ_sB', Typ_rA', O48, r48_0, r48_1, r48_2, r48_3, r48_4, r48_5, r48_6, r48_8, r48_9, r48_10, r48_11, r48_12, r48_15, r48_21, r48_22, r48_23, r48_24, r48_25, r48_28, r48_30, r48_31, r48_32, r48_35, r48_37, r48_39, r48_40, r48_41, O49, l49, t, nI_mul3, nI_plus, pe, cp, if_false]
          rw [a1, show hA σ 49 (3 * s + 0) = _ from b1]
      · have er := rowOf_ok t (k := 1) (by decide)
        have pe := inbE (i := 3 * s + 1) (n := 18) (by omega) (by omega)
        have cp := cl1000 (i := 3 * s + 1) (by omega)
        refine opN I (hA σ 3 s) ?_ ?_
        · unfold f_X5_of
          simp (decide := true) only [isSource_ok, yif c1, beq1, er, Nat.reduceAdd, chk_p, lt_p, bd_p, bc_p, oc_n, oc_s, and_self, and_true, true_and, if_true, if_false, isO_sA', isO_sB', isO_rA', hlen_sA, hlen_sB, hlen_rA, hR_sA, hR_sB, hR_rA, Typ_sA', Typ_sB', Typ_rA', O0, r0_0, r0_1, r0_3, r0_4, r0_5, r0_6, r0_7, O1, r1_0, r1_1, r1_2, r1_3, r1_5, r1_6, r1_7, O3, l3, t, ie, cs, if_false]
        · unfold f_X6_of
          simp (decide := true) only [mIsSource_ok, yif c1, beq1, em, chk_p, lt_p, bd_p, bc_p, oc_n, oc_s, and_self, and_true, true_and, if_true, if_false, isO_sA', isO_sB', isO_rA', hlen_sA, hlen_sB, hlen_rA, hR_sA, hR_sB, hR_rA, Typ_sA', Typ_sB', Typ_rA', O48, r48_0, r48_1, r48_2, r48_3, r48_4, r48_5, r48_6, r48_8, r48_9, r48_10, r48_11, r48_12, r48_15, r48_21, r48_22, r48_23, r48_24, r48_25, r48_28, r48_30, r48_31, r48_32, r48_35, r48_37, r48_39, r48_40, r48_41, O49, l49, t, nI_mul3, nI_plus, pe, cp, if_false]
          rw [a2, show hA σ 49 (3 * s + 1) = _ from b2]
      · have er := rowOf_ok t (k := 2) (by decide)
        have pe := inbE (i := 3 * s + 2) (n := 18) (by omega) (by omega)
        have cp := cl1000 (i := 3 * s + 2) (by omega)
        refine opN I (hA σ 4 s) ?_ ?_
        · unfold f_X5_of
          simp (decide := true) only [isSource_ok, yif c1, beq1, er, Nat.reduceAdd, chk_p, lt_p, bd_p, bc_p, oc_n, oc_s, and_self, and_true, true_and, if_true, if_false, isO_sA', isO_sB', isO_rA', hlen_sA, hlen_sB, hlen_rA, hR_sA, hR_sB, hR_rA, Typ_sA', Typ_sB', Typ_rA', O0, r0_0, r0_1, r0_3, r0_4, r0_5, r0_6, r0_7, O1, r1_0, r1_1, r1_2, r1_3, r1_5, r1_6, r1_7, O4, l4, t, ie, cs, if_false]
        · unfold f_X6_of
          simp (decide := true) only [mIsSource_ok, yif c1, beq1, em, chk_p, lt_p, bd_p, bc_p, oc_n, oc_s, and_self, and_true, true_and, if_true, if_false, isO_sA', isO_sB', isO_rA', hlen_sA, hlen_sB, hlen_rA, hR_sA, hR_sB, hR_rA, Typ_sA', Typ_sB', Typ_rA', O48, r48_0, r48_1, r48_2, r48_3, r48_4, r48_5, r48_6, r48_8, r48_9, r48_10, r48_11, r48_12, r48_15, r48_21, r48_22, r48_23, r48_24, r48_25, r48_28, r48_30, r48_31, r48_32, r48_35, r48_37, r48_39, r48_40, r48_41, O49, l49, t, nI_mul3, nI_plus, pe, cp, if_false]
          rw [a3, show hA σ 49 (3 * s + 2) = _ from b3]
      · refine opN I (hA σ 2 s - hA σ 3 s) ?_ ?_
        · unfold f_X5_of
          simp (decide := true) only [isSource_ok, yif c1, beq1, lo, hi, chk_p, lt_p, bd_p, bc_p, oc_n, oc_s, and_self, and_true, true_and, if_true, if_false, isO_sA', isO_sB', isO_rA', hlen_sA, hlen_sB, hlen_rA, hR_sA, hR_sB, hR_rA, Typ_sA', Typ_sB', Typ_rA', O0, r0_0, r0_1, r0_3, r0_4, r0_5, r0_6, r0_7, O1, r1_0, r1_1, r1_2, r1_3, r1_5, r1_6, r1_7, t, if_false]
        · unfold f_X6_of
          simp (decide := true) only [mIsSource_ok, yif c1, beq1, em, mv, ms, chk_p, lt_p, bd_p, bc_p, oc_n, oc_s, and_self, and_true, true_and, if_true, if_false, isO_sA', isO_sB', isO_rA', hlen_sA, hlen_sB, hlen_rA, hR_sA, hR_sB, hR_rA, Typ_sA', Typ_sB', Typ_rA', O48, r48_0, r48_1, r48_2, r48_3, r48_4, r48_5, r48_6, r48_8, r48_9, r48_10, r48_11, r48_12, r48_15, r48_21, r48_22, r48_23, r48_24, r48_25, r48_28, r48_30, r48_31, r48_32, r48_35, r48_37, r48_39, r48_40, r48_41, t, if_false]
          rw [a1, a2, b1, b2]
      · refine opN I (hA σ 2 s + hA σ 3 s) ?_ ?_
        · unfold f_X5_of
          simp (decide := true) only [isSource_ok, yif c1, beq1, lo, hi, chk_p, lt_p, bd_p, bc_p, oc_n, oc_s, and_self, and_true, true_and, if_true, if_false, isO_sA', isO_sB', isO_rA', hlen_sA, hlen_sB, hlen_rA, hR_sA, hR_sB, hR_rA, Typ_sA', Typ_sB', Typ_rA', O0, r0_0, r0_1, r0_3, r0_4, r0_5, r0_6, r0_7, O1, r1_0, r1_1, r1_2, r1_3, r1_5, r1_6, r1_7, t, if_false]
        · unfold f_X6_of
          simp (decide := true) only [mIsSource_ok, yif c1, beq1, em, mv, ms, chk_p, lt_p, bd_p, bc_p, oc_n, oc_s, and_self, and_true, true_and, if_true, if_false, isO_sA', isO_sB', isO_rA', hlen_sA, hlen_sB, hlen_rA, hR_sA, hR_sB, hR_rA, Typ_sA', Typ_sB', Typ_rA', O48, r48_0, r48_1, r48_2, r48_3, r48_4, r48_5, r48_6, r48_8, r48_9, r48_10, r48_11, r48_12, r48_15, r48_21, r48_22, r48_23, r48_24, r48_25, r48_28, r48_30, r48_31, r48_32, r48_35, r48_37, r48_39, r48_40, r48_41, t, if_false]
          rw [a1, a2, b1, b2]
    · have em := isIn_c w 0 4 0 4 rfl rfl σ
      rw [if_neg (by omega)] at em
      have nk : ∀ k : Nat, k < 5 → ¬ w = nI k := fun k hk z => by rw [z, nT (by omega)] at hw; omega
      have n0 : ¬ w = 0 := nk 0 (by decide)
      have n1 : ¬ w = 1 := nk 1 (by decide)
      have n2 : ¬ w = 2 := nk 2 (by decide)
      have n3 : ¬ w = 3 := nk 3 (by decide)
      have n4 : ¬ w = 4 := nk 4 (by decide)
      refine opN I (-1000) ?_ ?_
      · unfold f_X5_of
        simp only [isSource_ok, yif c1, beq1, n0, n1, n2, n3, n4, if_false, chk_p, lt_p, bd_p, bc_p, oc_n, oc_s, and_self, and_true, true_and, if_true, if_false, isO_sA', isO_sB', isO_rA', hlen_sA, hlen_sB, hlen_rA, hR_sA, hR_sB, hR_rA, Typ_sA', Typ_sB', Typ_rA']
      · unfold f_X6_of
        simp only [mIsSource_ok, yif c1, beq1, em, if_false, chk_p, lt_p, bd_p, bc_p, oc_n, oc_s, and_self, and_true, true_and, if_true, if_false, isO_sA', isO_sB', isO_rA', hlen_sA, hlen_sB, hlen_rA, hR_sA, hR_sB, hR_rA, Typ_sA', Typ_sB', Typ_rA']
  · have c1 : ¬ (0 ≤ a.toInt ∧ a.toInt < 6) := by omega
    refine opN I (-1000) ?_ ?_
    · unfold f_X5_of
      simp only [isSource_ok, nif c1, chk_p, lt_p, bd_p, bc_p, oc_n, oc_s, and_self, and_true, true_and, if_true, if_false, isO_sA', isO_sB', isO_rA', hlen_sA, hlen_sB, hlen_rA, hR_sA, hR_sB, hR_rA, Typ_sA', Typ_sB', Typ_rA']
    · unfold f_X6_of
      simp only [mIsSource_ok, nif c1, chk_p, lt_p, bd_p, bc_p, oc_n, oc_s, and_self, and_true, true_and, if_true, if_false, isO_sA', isO_sB', isO_rA', hlen_sA, hlen_sB, hlen_rA, hR_sA, hR_sB, hR_rA, Typ_sA', Typ_sB', Typ_rA']
theorem op_way (a : Int32) : OpOK (f_X5_way 0 a) (f_X6_way 48 a) := by
  intro σ V S C n FS I
  have t := I.1
  obtain ⟨m, h1, h2, h3, h4⟩ := I.2.2.2.2.2.2.1
  by_cases am : a = -1
  · refine opN I (nI m) ?_ ?_
    · unfold f_X5_way
      simp only [am, chk_p, lt_p, bd_p, bc_p, oc_n, oc_s, and_self, and_true, true_and, if_true, if_false, isO_sA', isO_sB', isO_rA', hlen_sA, hlen_sB, hlen_rA, hR_sA, hR_sB, hR_rA, Typ_sA', Typ_sB', Typ_rA', O0, r0_0, r0_1, r0_3, r0_4, r0_5, r0_6, r0_7, t, h2]
    · unfold f_X6_way
      simp only [am, chk_p, lt_p, bd_p, bc_p, oc_n, oc_s, and_self, and_true, true_and, if_true, if_false, isO_sA', isO_sB', isO_rA', hlen_sA, hlen_sB, hlen_rA, hR_sA, hR_sB, hR_rA, Typ_sA', Typ_sB', Typ_rA', O48, r48_0, r48_1, r48_2, r48_3, r48_4, r48_5, r48_6, r48_8, r48_9, r48_10, r48_11, r48_12, r48_15, r48_21, r48_22, r48_23, r48_24, r48_25, r48_28, r48_30, r48_31, r48_32, r48_35, r48_37, r48_39, r48_40, r48_41, t, h3]
  · have e2 : ((nI m - 1).toInt64).toInt = (m : Int) - 1 := by
      rw [Int32.toInt_toInt64, i_sub (by rw [nT (by omega)]; omega) (by rw [nT (by omega)]; omega) (by decide) (by decide), nT (by omega)]; rfl
    have e3 := isIn_c a 0 (nI m - 1).toInt64 0 ((m : Int) - 1) rfl e2 σ
    rcases argC a m (by omega) with ⟨k, hk, rfl⟩ | ha
    · rw [nT (by omega), if_pos (by omega)] at e3
      have k0 : ¬ (nI k < 0) := by rw [i_lt, nT (by omega), z320]; omega
      have k2 : nI k < nI m := by rw [i_lt, nT (by omega), nT (by omega)]; omega
      have ek : nI m - 1 - nI k = nI (m - 1 - k) := by
        apply Int32.toInt_inj.mp
        have q : (nI m - 1).toInt = (m : Int) - 1 := by rw [i_sub (by rw [nT (by omega)]; omega) (by rw [nT (by omega)]; omega) (by decide) (by decide), nT (by omega)]; rfl
        rw [i_sub (by rw [q]; omega) (by rw [q]; omega) (by rw [nT (by omega)]; omega) (by rw [nT (by omega)]; omega), q, nT (by omega), nT (by omega)]; omega
      have pe := inbE (i := m - 1 - k) (n := 60) (by omega) (by omega)
      have cp := cl1000 (i := m - 1 - k) (by omega)
      have ke := inbE (i := k) (n := 60) (by omega) (by omega)
      have ck := cl1000 (i := k) (by omega)
      refine opN I (hA σ 47 (m - 1 - k)) ?_ ?_
      · unfold f_X5_way
        simp only [am, k0, k2, h2, ek, pe, cp, chk_p, lt_p, bd_p, bc_p, oc_n, oc_s, and_self, and_true, true_and, if_true, if_false, isO_sA', isO_sB', isO_rA', hlen_sA, hlen_sB, hlen_rA, hR_sA, hR_sB, hR_rA, Typ_sA', Typ_sB', Typ_rA', O0, r0_0, r0_1, r0_3, r0_4, r0_5, r0_6, r0_7, O47, l47, t, if_false]
      · unfold f_X6_way
        simp only [am, h3, e3, beq1, ke, ck, chk_p, lt_p, bd_p, bc_p, oc_n, oc_s, and_self, and_true, true_and, if_true, if_false, isO_sA', isO_sB', isO_rA', hlen_sA, hlen_sB, hlen_rA, hR_sA, hR_sB, hR_rA, Typ_sA', Typ_sB', Typ_rA', O48, r48_0, r48_1, r48_2, r48_3, r48_4, r48_5, r48_6, r48_8, r48_9, r48_10, r48_11, r48_12, r48_15, r48_21, r48_22, r48_23, r48_24, r48_25, r48_28, r48_30, r48_31, r48_32, r48_35, r48_37, r48_39, r48_40, r48_41, O67, l67, t, if_false, h4 k hk]
    · rw [if_neg (by omega)] at e3
      refine opN I (-1) ?_ ?_
      · unfold f_X5_way
        by_cases k0 : a < 0
        · simp only [am, k0, chk_p, lt_p, bd_p, bc_p, oc_n, oc_s, and_self, and_true, true_and, if_true, if_false, isO_sA', isO_sB', isO_rA', hlen_sA, hlen_sB, hlen_rA, hR_sA, hR_sB, hR_rA, Typ_sA', Typ_sB', Typ_rA', if_false]
        · have k2 : ¬ a < nI m := by rw [i_lt, z320] at k0; rw [i_lt, nT (by omega)]; omega
          simp only [am, k0, k2, h2, chk_p, lt_p, bd_p, bc_p, oc_n, oc_s, and_self, and_true, true_and, if_true, if_false, isO_sA', isO_sB', isO_rA', hlen_sA, hlen_sB, hlen_rA, hR_sA, hR_sB, hR_rA, Typ_sA', Typ_sB', Typ_rA', O0, r0_0, r0_1, r0_3, r0_4, r0_5, r0_6, r0_7, t, if_false]
      · unfold f_X6_way
        simp only [am, h3, e3, chk_p, lt_p, bd_p, bc_p, oc_n, oc_s, and_self, and_true, true_and, if_true, if_false, isO_sA', isO_sB', isO_rA', hlen_sA, hlen_sB, hlen_rA, hR_sA, hR_sB, hR_rA, Typ_sA', Typ_sB', Typ_rA', O48, r48_0, r48_1, r48_2, r48_3, r48_4, r48_5, r48_6, r48_8, r48_9, r48_10, r48_11, r48_12, r48_15, r48_21, r48_22, r48_23, r48_24, r48_25, r48_28, r48_30, r48_31, r48_32, r48_35, r48_37, r48_39, r48_40, r48_41, t, if_false]
