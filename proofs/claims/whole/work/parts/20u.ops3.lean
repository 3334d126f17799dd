/-! get, put, list, plan -/
theorem nI_mul8 (s : Nat) : (8 : Int32) * nI s = nI (8 * s) := by
  show Int32.ofNat 8 * Int32.ofNat s = Int32.ofNat (8 * s)
  rw [Int32.ofNat_mul]
theorem row41 {σ : HS} (t : Typ σ) {l : Nat} (hl : l < 4) : hR σ 41 l = some (42 + l) ∧ isO σ 12 (42 + l) = True ∧ hlen σ (42 + l) = 8 := by
  have h4 : l = 0 ∨ l = 1 ∨ l = 2 ∨ l = 3 := by omega
  rcases h4 with z | z | z | z <;> subst z
  · exact ⟨r41_0 t, O42 t, l42 t⟩
  · exact ⟨r41_1 t, O43 t, l43 t⟩
  · exact ⟨r41_2 t, O44 t, l44 t⟩
  · exact ⟨r41_3 t, O45 t, l45 t⟩
theorem m11 : (-11 : Int32).toInt = -11 := rfl
theorem m1 : (-1 : Int32).toInt = -1 := rfl
theorem isInM (a : Int32) {m : Nat} (hm : m ≤ 60) (σ : HS) : f_X6_isIn a.toInt64 0 (nI m - 1).toInt64 σ = some (if 0 ≤ a.toInt ∧ a.toInt < m then 1 else 0, σ) := by
  have e2 : ((nI m - 1).toInt64).toInt = (m : Int) - 1 := by
    rw [Int32.toInt_toInt64, i_sub (by rw [nT (by omega)]; omega) (by rw [nT (by omega)]; omega) (by decide) (by decide), nT (by omega)]; rfl
  rw [isIn_c a 0 (nI m - 1).toInt64 0 ((m : Int) - 1) rfl e2 σ]
  by_cases c : 0 ≤ a.toInt ∧ a.toInt < m
  · rw [if_pos c, if_pos (by omega)]
  · rw [if_neg c, if_neg (by omega)]
theorem isInM1 (a : Int32) (σ : HS) : f_X6_isIn a.toInt64 0 ((-1 : Int32) - 1).toInt64 σ = some (0, σ) := by
  rw [isIn_c a 0 ((-1 : Int32) - 1).toInt64 0 (-2) rfl (by rw [Int32.toInt_toInt64]; decide) σ, if_neg (by omega)]
theorem op_get (a b : Int32) : OpOK (f_X5_get 0 a b) (f_X6_get 48 a b) := by
  intro σ V S C n FS I
  have t := I.1
  rcases argC a 4 (by decide) with ⟨l, hl, rfl⟩ | ha
  · have c1 := inL hl
    have le := inbE (i := l) (n := 4) hl (by omega)
    have cl := cl1000 (i := l) (by omega)
    obtain ⟨r1, r2, r3⟩ := row41 t hl
    obtain ⟨hlen, hit⟩ := I.2.2.2.2.2.1 l hl
    rcases hlen with ⟨e1, e2⟩ | ⟨m, hm, e1, e2⟩
    · refine opN I (-9223372036854775808) ?_ ?_
      · unfold f_X5_get
        by_cases b0 : b < 0
        · simp only [isList_ok, yif c1, beq1, b0, if_false, chk_p, lt_p, bd_p, bc_p, oc_n, oc_s, and_self, and_true, true_and, if_true, if_false, isO_sA', isO_sB', isO_rA', hlen_sA, hlen_sB, hlen_rA, hR_sA, hR_sB, hR_rA, Typ_sA', Typ_sB', Typ_rA']
        · have b1 : ¬ b < -11 := by rw [i_lt, z320] at b0; rw [i_lt, m11]; omega
          simp only [isList_ok, yif c1, beq1, b0, b1, e1, le, cl, if_false, chk_p, lt_p, bd_p, bc_p, oc_n, oc_s, and_self, and_true, true_and, if_true, if_false, isO_sA', isO_sB', isO_rA', hlen_sA, hlen_sB, hlen_rA, hR_sA, hR_sB, hR_rA, Typ_sA', Typ_sB', Typ_rA', O0, r0_0, r0_1, r0_3, r0_4, r0_5, r0_6, r0_7, O46, l46, t]
      · unfold f_X6_get
        simp only [mIsList_ok, yif c1, beq1, e2, isInM1, le, cl, if_false, chk_p, lt_p, bd_p, bc_p, oc_n, oc_s, and_self, and_true, true_and, if_true, if_false, isO_sA', isO_sB', isO_rA', hlen_sA, hlen_sB, hlen_rA, hR_sA, hR_sB, hR_rA, Typ_sA', Typ_sB', Typ_rA', O48, r48_0, r48_1, r48_2, r48_3, r48_4, r48_5, r48_6, r48_8, r48_9, r48_10, r48_11, r48_12, r48_15, r48_21, r48_22, r48_23, r48_24, r48_25, r48_28, r48_30, r48_31, r48_32, r48_35, r48_37, r48_39, r48_40, r48_41, O74, l74, t]
    · rcases argC b m (by omega) with ⟨i, hi, rfl⟩ | hb
      · have b0 : ¬ nI i < 0 := by rw [i_lt, nT (by omega), z320]; omega
        have b1 : nI i < nI m := by rw [i_lt, nT (by omega), nT (by omega)]; omega
        have c2 : 0 ≤ (nI i).toInt ∧ (nI i).toInt < m := by rw [nT (by omega)]; omega
        have ie := inbE (i := i) (n := 8) (by omega) (by omega)
        have ci := cl1000 (i := i) (by omega)
        have pe := inbE (i := 8 * l + i) (n := 32) (by omega) (by omega)
        have cp := cl1000 (i := 8 * l + i) (by omega)
        refine opN I (hB σ (42 + l) i) ?_ ?_
        · unfold f_X5_get
          simp only [isList_ok, yif c1, beq1, b0, b1, e1, le, cl, ie, ci, r1, r2, r3, if_false, chk_p, lt_p, bd_p, bc_p, oc_n, oc_s, and_self, and_true, true_and, if_true, if_false, isO_sA', isO_sB', isO_rA', hlen_sA, hlen_sB, hlen_rA, hR_sA, hR_sB, hR_rA, Typ_sA', Typ_sB', Typ_rA', O0, r0_0, r0_1, r0_3, r0_4, r0_5, r0_6, r0_7, O46, l46, O41, l41, t]
        · unfold f_X6_get
          simp only [mIsList_ok, yif c1, beq1, e2, isInM _ (show m ≤ 60 by omega), yif c2, le, cl, nI_mul8, nI_plus, pe, cp, if_false, chk_p, lt_p, bd_p, bc_p, oc_n, oc_s, and_self, and_true, true_and, if_true, if_false, isO_sA', isO_sB', isO_rA', hlen_sA, hlen_sB, hlen_rA, hR_sA, hR_sB, hR_rA, Typ_sA', Typ_sB', Typ_rA', O48, r48_0, r48_1, r48_2, r48_3, r48_4, r48_5, r48_6, r48_8, r48_9, r48_10, r48_11, r48_12, r48_15, r48_21, r48_22, r48_23, r48_24, r48_25, r48_28, r48_30, r48_31, r48_32, r48_35, r48_37, r48_39, r48_40, r48_41, O74, l74, O75, l75, t, hit i (by omega)]
      · have c2 : ¬ (0 ≤ b.toInt ∧ b.toInt < m) := by omega
        refine opN I (-9223372036854775808) ?_ ?_
        · unfold f_X5_get
          by_cases b0 : b < 0
          · simp only [isList_ok, yif c1, beq1, b0, if_false, chk_p, lt_p, bd_p, bc_p, oc_n, oc_s, and_self, and_true, true_and, if_true, if_false, isO_sA', isO_sB', isO_rA', hlen_sA, hlen_sB, hlen_rA, hR_sA, hR_sB, hR_rA, Typ_sA', Typ_sB', Typ_rA']
          · have b1 : ¬ b < nI m := by rw [i_lt, z320] at b0; rw [i_lt, nT (by omega)]; omega
            simp only [isList_ok, yif c1, beq1, b0, b1, e1, le, cl, if_false, chk_p, lt_p, bd_p, bc_p, oc_n, oc_s, and_self, and_true, true_and, if_true, if_false, isO_sA', isO_sB', isO_rA', hlen_sA, hlen_sB, hlen_rA, hR_sA, hR_sB, hR_rA, Typ_sA', Typ_sB', Typ_rA', O0, r0_0, r0_1, r0_3, r0_4, r0_5, r0_6, r0_7, O46, l46, t]
        · unfold f_X6_get
          simp only [mIsList_ok, yif c1, beq1, e2, isInM _ (show m ≤ 60 by omega), nif c2, le, cl, if_false, chk_p, lt_p, bd_p, bc_p, oc_n, oc_s, and_self, and_true, true_and, if_true, if_false, isO_sA', isO_sB', isO_rA', hlen_sA, hlen_sB, hlen_rA, hR_sA, hR_sB, hR_rA, Typ_sA', Typ_sB', Typ_rA', O48, r48_0, r48_1, r48_2, r48_3, r48_4, r48_5, r48_6, r48_8, r48_9, r48_10, r48_11, r48_12, r48_15, r48_21, r48_22, r48_23, r48_24, r48_25, r48_28, r48_30, r48_31, r48_32, r48_35, r48_37, r48_39, r48_40, r48_41, O74, l74, t]
  · have c1 : ¬ (0 ≤ a.toInt ∧ a.toInt < 4) := by omega
    refine opN I (-9223372036854775808) ?_ ?_
    · unfold f_X5_get
      simp only [isList_ok, nif c1, chk_p, lt_p, bd_p, bc_p, oc_n, oc_s, and_self, and_true, true_and, if_true, if_false, isO_sA', isO_sB', isO_rA', hlen_sA, hlen_sB, hlen_rA, hR_sA, hR_sB, hR_rA, Typ_sA', Typ_sB', Typ_rA']
    · unfold f_X6_get
      simp only [mIsList_ok, nif c1, chk_p, lt_p, bd_p, bc_p, oc_n, oc_s, and_self, and_true, true_and, if_true, if_false, isO_sA', isO_sB', isO_rA', hlen_sA, hlen_sB, hlen_rA, hR_sA, hR_sB, hR_rA, Typ_sA', Typ_sB', Typ_rA']
theorem nm11 {m : Nat} (h : m ≤ 60) : (nI m = -11) = False := eq_false (fun z => by have := congrArg Int32.toInt z; rw [nT (by omega), m11] at this; omega)
theorem nm1 {m : Nat} (h : m ≤ 60) : (nI m = -1) = False := eq_false (fun z => by have := congrArg Int32.toInt z; rw [nT (by omega), m1] at this; omega)
theorem op_put (a b : Int32) (v : Int64) : OpOK (f_X5_put 0 a b v) (f_X6_put 48 a b v) := by
  intro σ V S C n FS I
  have t := I.1
  rcases argC a 4 (by decide) with ⟨l, hl, rfl⟩ | ha
  · have c1 := inL hl
    have le := inbE (i := l) (n := 4) hl (by omega)
    have cl := cl1000 (i := l) (by omega)
    obtain ⟨r1, r2, r3⟩ := row41 t hl
    obtain ⟨hlen, hit⟩ := I.2.2.2.2.2.1 l hl
    rcases hlen with ⟨e1, e2⟩ | ⟨m, hm, e1, e2⟩
    · refine opN I (-11) ?_ ?_
      · unfold f_X5_put
        simp only [isList_ok, yif c1, beq1, e1, le, cl, if_false, chk_p, lt_p, bd_p, bc_p, oc_n, oc_s, and_self, and_true, true_and, if_true, if_false, isO_sA', isO_sB', isO_rA', hlen_sA, hlen_sB, hlen_rA, hR_sA, hR_sB, hR_rA, Typ_sA', Typ_sB', Typ_rA', O0, r0_0, r0_1, r0_3, r0_4, r0_5, r0_6, r0_7, O46, l46, t]
      · unfold f_X6_put
        simp only [mIsList_ok, yif c1, beq1, e2, le, cl, if_false, chk_p, lt_p, bd_p, bc_p, oc_n, oc_s, and_self, and_true, true_and, if_true, if_false, isO_sA', isO_sB', isO_rA', hlen_sA, hlen_sB, hlen_rA, hR_sA, hR_sB, hR_rA, Typ_sA', Typ_sB', Typ_rA', O48, r48_0, r48_1, r48_2, r48_3, r48_4, r48_5, r48_6, r48_8, r48_9, r48_10, r48_11, r48_12, r48_15, r48_21, r48_22, r48_23, r48_24, r48_25, r48_28, r48_30, r48_31, r48_32, r48_35, r48_37, r48_39, r48_40, r48_41, O74, l74, t]
    · rcases argC b m (by omega) with ⟨i, hi, rfl⟩ | hb
      · have b0 : ¬ nI i < 0 := by rw [i_lt, nT (by omega), z320]; omega
        have b1 : nI i < nI m := by rw [i_lt, nT (by omega), nT (by omega)]; omega
        have c2 : 0 ≤ (nI i).toInt ∧ (nI i).toInt < m := by rw [nT (by omega)]; omega
        have ie := inbE (i := i) (n := 8) (by omega) (by omega)
        have ci := cl1000 (i := i) (by omega)
        have pe := inbE (i := 8 * l + i) (n := 32) (by omega) (by omega)
        have cp := cl1000 (i := 8 * l + i) (by omega)
        obtain ⟨-, h1, h2, ⟨m', B, h3⟩, ⟨p, PS, PW, PV, h4⟩, h5, h6, h7⟩ := I
        have h4' : l = 0 ∨ l = 1 ∨ l = 2 ∨ l = 3 := by omega
        have q : KL [42, 43, 44, 45, 75] [] [] σ (sB (sB σ (42 + l) i v) 75 (8 * l + i) v) := (KL_sB (by decide) (by decide) (by rcases h4' with z | z | z | z <;> subst z <;> decide)).seq (KL_sB (by decide) (by decide) (by decide))
        refine ⟨1, sB σ (42 + l) i v, sB (sB σ (42 + l) i v) 75 (8 * l + i) v, ?_, t, Nat.le_refl _, ?_, Nat.le_refl _, V, S, C, n, FS, t, Kq.src q t (by decide) (by decide) (by decide) (by decide) (by decide) (by decide) h1, Kq.fm q t (by decide) (by decide) (by decide) (by decide) (Kq.A q (Nat.lt_of_lt_of_le (by decide) t.1) (by decide) 4) (by decide) (by decide) (by decide) (by decide) (by decide) h2, ⟨m', B, Kq.tap q t (by decide) (by decide) (by decide) (by decide) h3⟩, ⟨p, PS, PW, PV, Kq.pl q t (by decide) (by decide) (by decide) (by decide) (Kq.A q (Nat.lt_of_lt_of_le (by decide) t.1) (by decide) 8) (by decide) (by decide) (by decide) (by decide) h4⟩, fun l' hl' => ⟨(h5 l' hl').1, fun k hk => ?_⟩, Kq.way q t (Kq.A q (Nat.lt_of_lt_of_le (by decide) t.1) (by decide) 8) (by decide) (by decide) (by decide) h6, Kq.img q t (Kq.A q (Nat.lt_of_lt_of_le (by decide) t.1) (by decide) 2) (by decide) (by decide) (by decide) (by decide) (imgrows (by decide)) h7⟩
        · unfold f_X5_put
          simp only [isList_ok, yif c1, beq1, b0, b1, e1, nm11 (show m ≤ 60 by omega), le, cl, ie, ci, r1, r2, r3, if_false, chk_p, lt_p, bd_p, bc_p, oc_n, oc_s, and_self, and_true, true_and, if_true, if_false, isO_sA', isO_sB', isO_rA', hlen_sA, hlen_sB, hlen_rA, hR_sA, hR_sB, hR_rA, Typ_sA', Typ_sB', Typ_rA', O0, r0_0, r0_1, r0_3, r0_4, r0_5, r0_6, r0_7, O46, l46, O41, l41, t]
        · unfold f_X6_put
          simp only [mIsList_ok, yif c1, beq1, hA_sB, e2, nm1 (show m ≤ 60 by omega), isInM _ (show m ≤ 60 by omega), yif c2, le, cl, nI_mul8, nI_plus, pe, cp, if_false, chk_p, lt_p, bd_p, bc_p, oc_n, oc_s, and_self, and_true, true_and, if_true, if_false, isO_sA', isO_sB', isO_rA', hlen_sA, hlen_sB, hlen_rA, hR_sA, hR_sB, hR_rA, Typ_sA', Typ_sB', Typ_rA', O48, r48_0, r48_1, r48_2, r48_3, r48_4, r48_5, r48_6, r48_8, r48_9, r48_10, r48_11, r48_12, r48_15, r48_21, r48_22, r48_23, r48_24, r48_25, r48_28, r48_30, r48_31, r48_32, r48_35, r48_37, r48_39, r48_40, r48_41, O74, l74, O75, l75, t]
        · have e0 := (h5 l' hl').2 k hk
          rw [hB_sB, hB_sB, hB_sB, hB_sB, if_neg (show ¬ (42 + l' = 75 ∧ k = 8 * l + i) by omega)]
          by_cases e : l' = l ∧ k = i
          · rw [if_pos (by omega), if_pos (by omega)]
          · rw [if_neg (by omega), if_neg (by omega), if_neg (by omega)]; exact e0
      · have c2 : ¬ (0 ≤ b.toInt ∧ b.toInt < m) := by omega
        refine opN I (-13) ?_ ?_
        · unfold f_X5_put
          by_cases b0 : b < 0
          · simp only [isList_ok, yif c1, beq1, b0, e1, nm11 (show m ≤ 60 by omega), le, cl, if_false, chk_p, lt_p, bd_p, bc_p, oc_n, oc_s, and_self, and_true, true_and, if_true, if_false, isO_sA', isO_sB', isO_rA', hlen_sA, hlen_sB, hlen_rA, hR_sA, hR_sB, hR_rA, Typ_sA', Typ_sB', Typ_rA', O0, r0_0, r0_1, r0_3, r0_4, r0_5, r0_6, r0_7, O46, l46, t]
          · have b1 : ¬ b < nI m := by rw [i_lt, z320] at b0; rw [i_lt, nT (by omega)]; omega
            simp only [isList_ok, yif c1, beq1, b0, b1, e1, nm11 (show m ≤ 60 by omega), le, cl, if_false, chk_p, lt_p, bd_p, bc_p, oc_n, oc_s, and_self, and_true, true_and, if_true, if_false, isO_sA', isO_sB', isO_rA', hlen_sA, hlen_sB, hlen_rA, hR_sA, hR_sB, hR_rA, Typ_sA', Typ_sB', Typ_rA', O0, r0_0, r0_1, r0_3, r0_4, r0_5, r0_6, r0_7, O46, l46, t]
        · unfold f_X6_put
          simp only [mIsList_ok, yif c1, beq1, e2, nm1 (show m ≤ 60 by omega), isInM _ (show m ≤ 60 by omega), nif c2, le, cl, if_false, chk_p, lt_p, bd_p, bc_p, oc_n, oc_s, and_self, and_true, true_and, if_true, if_false, isO_sA', isO_sB', isO_rA', hlen_sA, hlen_sB, hlen_rA, hR_sA, hR_sB, hR_rA, Typ_sA', Typ_sB', Typ_rA', O48, r48_0, r48_1, r48_2, r48_3, r48_4, r48_5, r48_6, r48_8, r48_9, r48_10, r48_11, r48_12, r48_15, r48_21, r48_22, r48_23, r48_24, r48_25, r48_28, r48_30, r48_31, r48_32, r48_35, r48_37, r48_39, r48_40, r48_41, O74, l74, t]
  · have c1 : ¬ (0 ≤ a.toInt ∧ a.toInt < 4) := by omega
    refine opN I (-1) ?_ ?_
    · unfold f_X5_put
      simp only [isList_ok, nif c1, chk_p, lt_p, bd_p, bc_p, oc_n, oc_s, and_self, and_true, true_and, if_true, if_false, isO_sA', isO_sB', isO_rA', hlen_sA, hlen_sB, hlen_rA, hR_sA, hR_sB, hR_rA, Typ_sA', Typ_sB', Typ_rA']
    · unfold f_X6_put
      simp only [mIsList_ok, nif c1, chk_p, lt_p, bd_p, bc_p, oc_n, oc_s, and_self, and_true, true_and, if_true, if_false, isO_sA', isO_sB', isO_rA', hlen_sA, hlen_sB, hlen_rA, hR_sA, hR_sB, hR_rA, Typ_sA', Typ_sB', Typ_rA']
/-- the class's fill of longs, the reference's loop of zeros -/
theorem fillB_lp (r n : Nat) (hn : n < 1000) (v : Int64) : ∀ (d i : Nat) (σ : HS), isO σ 12 r → hlen σ r = n → i + d = n → ∀ nf, d < nf → ∃ σ', lp_J7_fill_d0a16_6 nf r v (nI i) (nI n) σ = some ((), σ') ∧ Fr [r] σ σ' ∧ (∀ a b, hA σ' a b = hA σ a b) ∧ ∀ a b, hB σ' a b = if a = r ∧ i ≤ b ∧ b < n then v else hB σ a b := by
  intro d
  induction d with
  | zero =>
    intro i σ ho hl he nf hnf
    obtain ⟨nf, rfl⟩ : ∃ k, nf = k + 1 := ⟨nf - 1, by omega⟩
    have hi : i = n := by omega
    subst hi
    refine ⟨σ, ?_, Fr.rf, fun _ _ => rfl, fun a b => by rw [if_neg (by omega)]⟩
    show lp_J7_fill_d0a16_6_b (lp_J7_fill_d0a16_6 nf) r v (nI i) (nI i) σ = _
    unfold lp_J7_fill_d0a16_6_b
    exact if_pos (Int32.le_refl _)
  | succ d ih =>
    intro i σ ho hl he nf hnf
    obtain ⟨nf, rfl⟩ : ∃ k, nf = k + 1 := ⟨nf - 1, by omega⟩
    have fr : Fr [r] σ (sB σ r i v) := Fr_sB (by simp)
    obtain ⟨σ', e1, e2, e3, e4⟩ := ih (i + 1) (sB σ r i v) ho hl (by omega) nf (by omega)
    refine ⟨σ', ?_, fr.seq e2, fun a b => e3 a b, fun a b => ?_⟩
    · show lp_J7_fill_d0a16_6_b (lp_J7_fill_d0a16_6 nf) r v (nI i) (nI n) σ = _
      unfold lp_J7_fill_d0a16_6_b
      have le := nle (a := n) (b := i) (by omega) (by omega)
      have ie := inbE (i := i) (n := n) (by omega) (by omega)
      have ci := cl1000 (i := i) (by omega)
      have ho' := eq_true ho
      simp only [le, if_false, chk_p, lt_p, bd_p, bc_p, oc_n, oc_s, and_self, and_true, true_and, if_true, if_false, isO_sA', isO_sB', isO_rA', hlen_sA, hlen_sB, hlen_rA, hR_sA, hR_sB, hR_rA, Typ_sA', Typ_sB', Typ_rA', ho', hl, ie, ci, nI_s, e1]
    · rw [e4, hB_sB]
      by_cases e : a = r ∧ b = i
      · rw [if_pos e]
        by_cases c : a = r ∧ i + 1 ≤ b ∧ b < n
        · rw [if_pos c, if_pos (by omega)]
        · rw [if_neg c, if_pos (by omega)]
      · rw [if_neg e]
        by_cases c : a = r ∧ i + 1 ≤ b ∧ b < n
        · rw [if_pos c, if_pos (by omega)]
        · rw [if_neg c, if_neg (by omega)]
theorem listM_lp {l : Nat} (hl : l < 4) (w : Int32) : ∀ (d i : Nat) (σ : HS), Typ σ → i + d = 8 → ∀ nf, d < nf → ∃ σ', lp_X6_list_34 nf 48 (nI l) w (nI i) σ = some (1, σ') ∧ Fr [75] σ σ' ∧ (∀ a b, hA σ' a b = hA σ a b) ∧ ∀ a b, hB σ' a b = if a = 75 ∧ 8 * l + i ≤ b ∧ b < 8 * l + 8 then 0 else hB σ a b := by
  intro d
  induction d with
  | zero =>
    intro i σ ht he nf hnf
    obtain ⟨nf, rfl⟩ : ∃ k, nf = k + 1 := ⟨nf - 1, by omega⟩
    have hi : i = 8 := by omega
    subst hi
    refine ⟨σ, ?_, Fr.rf, fun _ _ => rfl, fun a b => by rw [if_neg (by omega)]⟩
    show lp_X6_list_34_b (lp_X6_list_34 nf) 48 (nI l) w (nI 8) σ = _
    unfold lp_X6_list_34_b
    exact if_pos (by decide)
  | succ d ih =>
    intro i σ ht he nf hnf
    obtain ⟨nf, rfl⟩ : ∃ k, nf = k + 1 := ⟨nf - 1, by omega⟩
    have fr : Fr [75] σ (sB σ 75 (8 * l + i) 0) := Fr_sB (by simp)
    obtain ⟨σ', e1, e2, e3, e4⟩ := ih (i + 1) (sB σ 75 (8 * l + i) 0) ht (by omega) nf (by omega)
    refine ⟨σ', ?_, fr.seq e2, fun a b => e3 a b, fun a b => ?_⟩
    · show lp_X6_list_34_b (lp_X6_list_34 nf) 48 (nI l) w (nI i) σ = _
      unfold lp_X6_list_34_b
      have le : (8 : Int32) ≤ nI i ↔ False := by rw [show (8 : Int32) = nI 8 from rfl, nle (a := 8) (b := i) (by omega) (by omega)]
      have le := eq_false (fun z => le.mp z)
      have ie := inbE (i := 8 * l + i) (n := 32) (by omega) (by omega)
      have ci := cl1000 (i := 8 * l + i) (by omega)
      simp only [le, if_false, chk_p, lt_p, bd_p, bc_p, oc_n, oc_s, and_self, and_true, true_and, if_true, if_false, isO_sA', isO_sB', isO_rA', hlen_sA, hlen_sB, hlen_rA, hR_sA, hR_sB, hR_rA, Typ_sA', Typ_sB', Typ_rA', O48, r48_0, r48_1, r48_2, r48_3, r48_4, r48_5, r48_6, r48_8, r48_9, r48_10, r48_11, r48_12, r48_15, r48_21, r48_22, r48_23, r48_24, r48_25, r48_28, r48_30, r48_31, r48_32, r48_35, r48_37, r48_39, r48_40, r48_41, O75, l75, ht, nI_mul8, nI_plus, ie, ci, nI_s, e1]
    · rw [e4, hB_sB]
      by_cases e : a = 75 ∧ b = 8 * l + i
      · rw [if_pos e]
        by_cases c : a = 75 ∧ 8 * l + (i + 1) ≤ b ∧ b < 8 * l + 8
        · rw [if_pos c, if_pos (by omega)]
        · rw [if_neg c, if_pos (by omega)]
      · rw [if_neg e]
        by_cases c : a = 75 ∧ 8 * l + (i + 1) ≤ b ∧ b < 8 * l + 8
        · rw [if_pos c, if_pos (by omega)]
        · rw [if_neg c, if_neg (by omega)]
theorem z8 : (8 : Int32).toInt = 8 := rfl
theorem op_list (a b : Int32) : OpOK (f_X5_list 0 a b) (f_X6_list 48 a b) := by
  intro σ V S C n FS I
  have t := I.1
  rcases argC a 4 (by decide) with ⟨l, hl, rfl⟩ | ha
  · have c1 := inL hl
    have le := inbE (i := l) (n := 4) hl (by omega)
    have cl := cl1000 (i := l) (by omega)
    obtain ⟨r1, r2, r3⟩ := row41 t hl
    by_cases b8 : b ≤ 8
    · by_cases b0 : 0 ≤ b
      · obtain ⟨m, hm, eb⟩ : ∃ m : Nat, m ≤ 8 ∧ b = nI m := by
          rw [i_le, z8] at b8; rw [i_le, z320] at b0
          rcases argC b 9 (by decide) with ⟨k, hk, e⟩ | h
          · exact ⟨k, by omega, e⟩
          · omega
        obtain ⟨-, h1, h2, ⟨m', B, h3⟩, ⟨p, PS, PW, PV, h4⟩, h5, h6, h7⟩ := I
        have h4' : l = 0 ∨ l = 1 ∨ l = 2 ∨ l = 3 := by omega
        have ho : isO σ 12 (42 + l) := of_eq_true r2
        obtain ⟨σ1, f1, f2, f3, f4⟩ := fillB_lp (42 + l) 8 (by decide) 0 8 0 σ ho r3 (by omega) 1000 (by decide)
        have t1 := f2.typ t
        obtain ⟨σ2, g1, g2, g3, g4⟩ := listM_lp hl b 8 0 (sA (sA σ1 46 l b) 74 l b) t1 (by omega) 1000 (by decide)
        have q : KL [42, 43, 44, 45, 46, 74, 75] [] [] σ σ2 := (((f2.kl (by decide) (by decide) (fun j hj => by rw [List.mem_singleton] at hj; subst hj; rcases h4' with z | z | z | z <;> subst z <;> decide) (fun z => by rw [List.mem_singleton] at z; omega)).seq (KL_sA (by decide) (by decide) (by decide) (fun z => by omega))).seq (KL_sA (by decide) (by decide) (by decide) (fun z => by omega))).seq (g2.kl (by decide) (by decide) (fun j hj => by rw [List.mem_singleton] at hj; subst hj; decide) (by decide))
        have ef : f_J7_fill_d0a16 (42 + l) 0 σ = some ((), σ1) := by
          unfold f_J7_fill_d0a16
          simp only [chk_p, lt_p, bd_p, bc_p, oc_n, oc_s, and_self, and_true, true_and, if_true, if_false, isO_sA', isO_sB', isO_rA', hlen_sA, hlen_sB, hlen_rA, hR_sA, hR_sB, hR_rA, Typ_sA', Typ_sB', Typ_rA', r2, r3]
          exact f1
        refine ⟨1, sA σ1 46 l b, σ2, ?_, t1, Nat.le_of_eq f2.1.symm, ?_, Nat.le_of_eq g2.1.symm, V, S, C, n, FS, Kq.typ q t, Kq.src q t (by decide) (by decide) (by decide) (by decide) (by decide) (by decide) h1, Kq.fm q t (by decide) (by decide) (by decide) (by decide) (Kq.A q (Nat.lt_of_lt_of_le (by decide) t.1) (by decide) 4) (by decide) (by decide) (by decide) (by decide) (by decide) h2, ⟨m', B, Kq.tap q t (by decide) (by decide) (by decide) (by decide) h3⟩, ⟨p, PS, PW, PV, Kq.pl q t (by decide) (by decide) (by decide) (by decide) (Kq.A q (Nat.lt_of_lt_of_le (by decide) t.1) (by decide) 8) (by decide) (by decide) (by decide) (by decide) h4⟩, fun l' hl' => ?_, Kq.way q t (Kq.A q (Nat.lt_of_lt_of_le (by decide) t.1) (by decide) 8) (by decide) (by decide) (by decide) h6, Kq.img q t (Kq.A q (Nat.lt_of_lt_of_le (by decide) t.1) (by decide) 2) (by decide) (by decide) (by decide) (by decide) (imgrows (by decide)) h7⟩
        · unfold f_X5_list
          simp only [isList_ok, yif c1, beq1, b8, b0, le, cl, r1, ef, if_false, chk_p, lt_p, bd_p, bc_p, oc_n, oc_s, and_self, and_true, true_and, if_true, if_false, isO_sA', isO_sB', isO_rA', hlen_sA, hlen_sB, hlen_rA, hR_sA, hR_sB, hR_rA, Typ_sA', Typ_sB', Typ_rA', O0, r0_0, r0_1, r0_3, r0_4, r0_5, r0_6, r0_7, O46, l46, O41, l41, t, t1]
        · unfold f_X6_list
          simp only [mIsList_ok, yif c1, beq1, b8, b0, le, cl, if_false, chk_p, lt_p, bd_p, bc_p, oc_n, oc_s, and_self, and_true, true_and, if_true, if_false, isO_sA', isO_sB', isO_rA', hlen_sA, hlen_sB, hlen_rA, hR_sA, hR_sB, hR_rA, Typ_sA', Typ_sB', Typ_rA', O48, r48_0, r48_1, r48_2, r48_3, r48_4, r48_5, r48_6, r48_8, r48_9, r48_10, r48_11, r48_12, r48_15, r48_21, r48_22, r48_23, r48_24, r48_25, r48_28, r48_30, r48_31, r48_32, r48_35, r48_37, r48_39, r48_40, r48_41, O74, l74, t1]
          exact g1
        · obtain ⟨w1, w2⟩ := h5 l' hl'
          refine ⟨?_, fun k hk => ?_⟩
          · rw [g3, g3, hA_sA, hA_sA, hA_sA, hA_sA, if_neg (show ¬ (46 = 74 ∧ l' = l) by omega), if_neg (show ¬ (74 = 46 ∧ l' = l) by omega), f3, f3]
            by_cases e : l' = l
            · rw [if_pos ⟨rfl, e⟩, if_pos ⟨rfl, e⟩, eb]
              exact Or.inr ⟨m, hm, rfl, rfl⟩
            · rw [if_neg (by omega), if_neg (by omega)]; exact w1
          · rw [g4, g4, hB_sA, hB_sA, hB_sA, hB_sA, f4, f4, if_neg (show ¬ (42 + l' = 75 ∧ _) by omega), if_neg (show ¬ (75 = 42 + l ∧ _) by omega)]
            by_cases e : l' = l
            · rw [if_pos (by omega), if_pos (by omega)]
            · rw [if_neg (by omega), if_neg (by omega)]; exact w2 k hk
      · refine opN I (-14) ?_ ?_
        · unfold f_X5_list
          simp only [isList_ok, yif c1, beq1, b8, b0, if_false, chk_p, lt_p, bd_p, bc_p, oc_n, oc_s, and_self, and_true, true_and, if_true, if_false, isO_sA', isO_sB', isO_rA', hlen_sA, hlen_sB, hlen_rA, hR_sA, hR_sB, hR_rA, Typ_sA', Typ_sB', Typ_rA']
        · unfold f_X6_list
          simp only [mIsList_ok, yif c1, beq1, b8, b0, if_false, chk_p, lt_p, bd_p, bc_p, oc_n, oc_s, and_self, and_true, true_and, if_true, if_false, isO_sA', isO_sB', isO_rA', hlen_sA, hlen_sB, hlen_rA, hR_sA, hR_sB, hR_rA, Typ_sA', Typ_sB', Typ_rA']
    · refine opN I (-2) ?_ ?_
      · unfold f_X5_list
        simp only [isList_ok, yif c1, beq1, b8, if_false, chk_p, lt_p, bd_p, bc_p, oc_n, oc_s, and_self, and_true, true_and, if_true, if_false, isO_sA', isO_sB', isO_rA', hlen_sA, hlen_sB, hlen_rA, hR_sA, hR_sB, hR_rA, Typ_sA', Typ_sB', Typ_rA']
      · unfold f_X6_list
        simp only [mIsList_ok, yif c1, beq1, b8, if_false, chk_p, lt_p, bd_p, bc_p, oc_n, oc_s, and_self, and_true, true_and, if_true, if_false, isO_sA', isO_sB', isO_rA', hlen_sA, hlen_sB, hlen_rA, hR_sA, hR_sB, hR_rA, Typ_sA', Typ_sB', Typ_rA']
  · have c1 : ¬ (0 ≤ a.toInt ∧ a.toInt < 4) := by omega
    refine opN I (-1) ?_ ?_
    · unfold f_X5_list
      simp only [isList_ok, nif c1, chk_p, lt_p, bd_p, bc_p, oc_n, oc_s, and_self, and_true, true_and, if_true, if_false, isO_sA', isO_sB', isO_rA', hlen_sA, hlen_sB, hlen_rA, hR_sA, hR_sB, hR_rA, Typ_sA', Typ_sB', Typ_rA']
    · unfold f_X6_list
      simp only [mIsList_ok, nif c1, chk_p, lt_p, bd_p, bc_p, oc_n, oc_s, and_self, and_true, true_and, if_true, if_false, isO_sA', isO_sB', isO_rA', hlen_sA, hlen_sB, hlen_rA, hR_sA, hR_sB, hR_rA, Typ_sA', Typ_sB', Typ_rA']
