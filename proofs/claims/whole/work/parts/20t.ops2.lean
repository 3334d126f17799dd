/-! feed, drop, get, put -/
def upN (B : Nat → Nat) (m b i : Nat) : Nat := if i = m then b else B i
/-- rows that the image reads -/
theorem imgrows {P : Nat → Bool} (h : (P 9 || P 10 || P 11 || P 12 || P 13 || P 14 || P 15 || P 16 || P 50 || P 56 || P 57 || P 58 || P 59 || P 60 || P 72) = false) : ∀ j, (9 ≤ j ∧ j ≤ 16) ∨ j = 50 ∨ (56 ≤ j ∧ j ≤ 60) ∨ j = 72 → P j = false := fun j hj => by
  simp only [Bool.or_eq_false_iff] at h
  obtain ⟨⟨⟨⟨⟨⟨⟨⟨⟨⟨⟨⟨⟨⟨e1, e2⟩, e3⟩, e4⟩, e5⟩, e6⟩, e7⟩, e8⟩, e9⟩, e10⟩, e11⟩, e12⟩, e13⟩, e14⟩, e15⟩ := h
  have h16 : j = 9 ∨ j = 10 ∨ j = 11 ∨ j = 12 ∨ j = 13 ∨ j = 14 ∨ j = 15 ∨ j = 16 ∨ j = 50 ∨ j = 56 ∨ j = 57 ∨ j = 58 ∨ j = 59 ∨ j = 60 ∨ j = 72 := by omega
  rcases h16 with z | z | z | z | z | z | z | z | z | z | z | z | z | z | z <;> subst z <;> assumption
theorem lst4 {P : Nat → Bool} (h : (P 42 || P 43 || P 44 || P 45) = false) : ∀ l, l < 4 → P (42 + l) = false := fun l hl => by
  simp only [Bool.or_eq_false_iff] at h
  obtain ⟨⟨⟨e1, e2⟩, e3⟩, e4⟩ := h
  have h4 : l = 0 ∨ l = 1 ∨ l = 2 ∨ l = 3 := by omega
  rcases h4 with z | z | z | z <;> subst z <;> assumption
theorem op_feed (a : Int32) : OpOK (f_X5_feed 0 a) (f_X6_feed 48 a) := by
  intro σ V S C n FS I
  have t := I.1
  have z1 : (1 : Int32).toInt = 1 := rfl
  have z127 : (127 : Int32).toInt = 127 := rfl
  have em := isIn_c a 1 127 1 127 rfl rfl
  by_cases ha : 1 ≤ a.toInt ∧ a.toInt ≤ 127
  · obtain ⟨b, hb, hb1, hb2⟩ : ∃ b : Nat, a = nI b ∧ 1 ≤ b ∧ b ≤ 127 := by
      rcases argC a 128 (by decide) with ⟨k, hk, e⟩ | h
      · refine ⟨k, e, ?_, by omega⟩
        rw [e, nT (by omega)] at ha; omega
      · omega
    have em' := fun τ => (em τ).trans (by rw [if_pos ha])
    have c1 : ¬ a < 1 := by rw [i_lt, z1]; omega
    have c2 : a ≤ 127 := by rw [i_le, z127]; omega
    obtain ⟨-, h1, h2, ⟨m, B, hm, t1, t2, t3⟩, ⟨p, PS, PW, PV, h4⟩, h5, h6, h7⟩ := I
    by_cases e60 : m = 60
    · have l60 : ¬ (nI m < 60) := by rw [i_lt, nT (by omega)]; have : (60 : Int32).toInt = 60 := rfl; omega
      have m60 : nI m = 60 := by rw [e60]; rfl
      refine opN ⟨t, h1, h2, ⟨m, B, hm, t1, t2, t3⟩, ⟨p, PS, PW, PV, h4⟩, h5, h6, h7⟩ (-4) ?_ ?_
      · unfold f_X5_feed f_X3_append
        simp only [c1, c2, t1, l60, if_false, chk_p, lt_p, bd_p, bc_p, oc_n, oc_s, and_self, and_true, true_and, if_true, if_false, isO_sA', isO_sB', isO_rA', hlen_sA, hlen_sB, hlen_rA, hR_sA, hR_sB, hR_rA, Typ_sA', Typ_sB', Typ_rA', O0, r0_0, r0_1, r0_3, r0_4, r0_5, r0_6, r0_7, O17, r17_0, r17_3, r17_4, r17_5, r17_6, r17_7, t]
      · unfold f_X6_feed
        simp only [em', beq1, t2, m60, if_false, chk_p, lt_p, bd_p, bc_p, oc_n, oc_s, and_self, and_true, true_and, if_true, if_false, isO_sA', isO_sB', isO_rA', hlen_sA, hlen_sB, hlen_rA, hR_sA, hR_sB, hR_rA, Typ_sA', Typ_sB', Typ_rA', O48, r48_0, r48_1, r48_2, r48_3, r48_4, r48_5, r48_6, r48_8, r48_9, r48_10, r48_11, r48_12, r48_15, r48_21, r48_22, r48_23, r48_24, r48_25, r48_28, r48_30, r48_31, r48_32, r48_35, r48_37, r48_39, r48_40, r48_41, t]
    · have l60 : nI m < 60 := by rw [i_lt, nT (by omega)]; have : (60 : Int32).toInt = 60 := rfl; omega
      have m60 : ¬ nI m = 60 := fun z => e60 ((nE (a := m) (b := 60) (by omega) (by omega)).mp z)
      have ie := inbE (i := m) (n := 60) (by omega) (by omega)
      have ci := cl1000 (i := m) (by omega)
      have q : KL [17, 18, 48, 61] [16] [] σ (sA (sA (sA (sA σ 18 m a) 17 1 (nI (m + 1))) 61 m a) 48 16 (nI (m + 1))) := (((KL_sA (by decide) (by decide) (by decide) (fun z => by omega)).seq (KL_sA (by decide) (by decide) (by decide) (fun z => by omega))).seq (KL_sA (by decide) (by decide) (by decide) (fun z => by omega))).seq (KL_sA (by decide) (by decide) (by decide) (fun z => by decide))
      refine ⟨nI (m + 1), sA (sA σ 18 m a) 17 1 (nI (m + 1)), sA (sA (sA (sA σ 18 m a) 17 1 (nI (m + 1))) 61 m a) 48 16 (nI (m + 1)), ?_, t, Nat.le_refl _, ?_, Nat.le_refl _, V, S, C, n, FS, t, Kq.src q t (by decide) (by decide) (by decide) (by decide) (by decide) (by decide) h1, Kq.fm q t (by decide) (by decide) (by decide) (by decide) (Kq.A q (Nat.lt_of_lt_of_le (by decide) t.1) (by decide) 4) (by decide) (by decide) (by decide) (by decide) (by decide) h2, ⟨m + 1, upN B m b, ?_⟩, ⟨p, PS, PW, PV, Kq.pl q t (by decide) (by decide) (by decide) (by decide) (Kq.A q (Nat.lt_of_lt_of_le (by decide) t.1) (by decide) 8) (by decide) (by decide) (by decide) (by decide) h4⟩, Kq.lst q t (by decide) (by decide) (lst4 (by decide)) (by decide) h5, Kq.way q t (Kq.A q (Nat.lt_of_lt_of_le (by decide) t.1) (by decide) 8) (by decide) (by decide) (by decide) h6, Kq.img q t (Kq.A q (Nat.lt_of_lt_of_le (by decide) t.1) (by decide) 2) (by decide) (by decide) (by decide) (by decide) (imgrows (by decide)) h7⟩
      · unfold f_X5_feed f_X3_append
        simp (decide := true) only [c1, c2, t1, l60, ie, ci, hA_sA, nI_s, false_and, beq1, if_false, chk_p, lt_p, bd_p, bc_p, oc_n, oc_s, and_self, and_true, true_and, if_true, if_false, isO_sA', isO_sB', isO_rA', hlen_sA, hlen_sB, hlen_rA, hR_sA, hR_sB, hR_rA, Typ_sA', Typ_sB', Typ_rA', O0, r0_0, r0_1, r0_3, r0_4, r0_5, r0_6, r0_7, O17, r17_0, r17_3, r17_4, r17_5, r17_6, r17_7, O18, l18, t]
      · unfold f_X6_feed
        simp (decide := true) only [em', beq1, hA_sA, t2, m60, ie, ci, nI_s, false_and, if_false, chk_p, lt_p, bd_p, bc_p, oc_n, oc_s, and_self, and_true, true_and, if_true, if_false, isO_sA', isO_sB', isO_rA', hlen_sA, hlen_sB, hlen_rA, hR_sA, hR_sB, hR_rA, Typ_sA', Typ_sB', Typ_rA', O48, r48_0, r48_1, r48_2, r48_3, r48_4, r48_5, r48_6, r48_8, r48_9, r48_10, r48_11, r48_12, r48_15, r48_21, r48_22, r48_23, r48_24, r48_25, r48_28, r48_30, r48_31, r48_32, r48_35, r48_37, r48_39, r48_40, r48_41, O61, l61, t]
      · refine ⟨by omega, ?_, ?_, fun k hk => ?_⟩
        · simp (decide := true) only [hA_sA, and_self, false_and, if_true, if_false]
        · simp (decide := true) only [hA_sA, and_self, false_and, if_true, if_false]
        · by_cases e : k = m
          · subst e
            simp (decide := true) only [hA_sA, and_self, false_and, if_true, if_false, upN, hb, true_and]
            omega
          · obtain ⟨q1, q2, q3⟩ := t3 k (by omega)
            simp (decide := true) only [hA_sA, and_self, false_and, and_false, if_true, if_false, upN, e]
            exact ⟨q1, q2, q3⟩
  · have em' := fun τ => (em τ).trans (by rw [if_neg ha])
    refine opN I (-2) ?_ ?_
    · unfold f_X5_feed
      by_cases c1 : a < 1
      · simp only [c1, chk_p, lt_p, bd_p, bc_p, oc_n, oc_s, and_self, and_true, true_and, if_true, if_false, isO_sA', isO_sB', isO_rA', hlen_sA, hlen_sB, hlen_rA, hR_sA, hR_sB, hR_rA, Typ_sA', Typ_sB', Typ_rA']
      · have c2 : ¬ a ≤ 127 := by rw [i_lt, z1] at c1; rw [i_le, z127]; omega
        simp only [c1, c2, chk_p, lt_p, bd_p, bc_p, oc_n, oc_s, and_self, and_true, true_and, if_true, if_false, isO_sA', isO_sB', isO_rA', hlen_sA, hlen_sB, hlen_rA, hR_sA, hR_sB, hR_rA, Typ_sA', Typ_sB', Typ_rA', if_false]
    · unfold f_X6_feed
      simp only [em', chk_p, lt_p, bd_p, bc_p, oc_n, oc_s, and_self, and_true, true_and, if_true, if_false, isO_sA', isO_sB', isO_rA', hlen_sA, hlen_sB, hlen_rA, hR_sA, hR_sB, hR_rA, Typ_sA', Typ_sB', Typ_rA']
theorem op_drop : OpOK (f_X5_drop 0) (f_X6_drop 48) := by
  intro σ V S C n FS I
  have t := I.1
  obtain ⟨-, h1, ⟨h6, hg, e1, e2, ex, em, er⟩, ⟨m, B, ht⟩, ⟨p, PS, PW, PV, h4⟩, h5, h6', h7⟩ := I
  by_cases n0 : n = 0
  · subst n0
    refine opN ⟨t, h1, ⟨h6, hg, e1, e2, ex, em, er⟩, ⟨m, B, ht⟩, ⟨p, PS, PW, PV, h4⟩, h5, h6', h7⟩ (-3) ?_ ?_
    · unfold f_X5_drop
      simp (decide := true) only [chk_p, lt_p, bd_p, bc_p, oc_n, oc_s, and_self, and_true, true_and, if_true, if_false, isO_sA', isO_sB', isO_rA', hlen_sA, hlen_sB, hlen_rA, hR_sA, hR_sB, hR_rA, Typ_sA', Typ_sB', Typ_rA', O0, r0_0, r0_1, r0_3, r0_4, r0_5, r0_6, r0_7, O1, r1_0, r1_1, r1_2, r1_3, r1_5, r1_6, r1_7, t, e1, if_false]
    · unfold f_X6_drop
      simp (decide := true) only [chk_p, lt_p, bd_p, bc_p, oc_n, oc_s, and_self, and_true, true_and, if_true, if_false, isO_sA', isO_sB', isO_rA', hlen_sA, hlen_sB, hlen_rA, hR_sA, hR_sB, hR_rA, Typ_sA', Typ_sB', Typ_rA', O48, r48_0, r48_1, r48_2, r48_3, r48_4, r48_5, r48_6, r48_8, r48_9, r48_10, r48_11, r48_12, r48_15, r48_21, r48_22, r48_23, r48_24, r48_25, r48_28, r48_30, r48_31, r48_32, r48_35, r48_37, r48_39, r48_40, r48_41, t, e2]
  · obtain ⟨k, rfl⟩ : ∃ k, n = k + 1 := ⟨n - 1, by omega⟩
    have l0 : 0 < nI (k + 1) := by rw [i_lt, nT (by omega), z320]; omega
    have ne : ¬ nI (k + 1) = 0 := fun z => by have := (nE (a := k + 1) (b := 0) (by omega) (by omega)).mp z; omega
    have ie := inbE (i := k) (n := 6) (by omega) (by omega)
    have ci := cl1000 (i := k) (by omega)
    have q : KL [1, 48] [7] [5] σ (sA (sR (sA σ 1 4 (nI k)) 5 k none) 48 7 (nI k)) := ((KL_sA (by decide) (by decide) (by decide) (fun z => by omega)).seq (KL_sR (by decide) (by decide) (by decide) (by rw [show hty (sA σ 1 4 (nI k)) 5 = hty σ 5 from rfl, (o5 t).2]; decide))).seq (KL_sA (by decide) (by decide) (by decide) (fun _ => by decide))
    have t' : Typ (sA (sR (sA σ 1 4 (nI k)) 5 k none) 48 7 (nI k)) := Kq.typ q t
    refine ⟨nI k, sR (sA σ 1 4 (nI k)) 5 k none, sA (sR (sA σ 1 4 (nI k)) 5 k none) 48 7 (nI k), ?_, t', Nat.le_refl _, ?_, Nat.le_refl _, V, S, C, k, FS, t', Kq.src q t (by decide) (by decide) (by decide) (by decide) (by decide) (by decide) h1, ?_, ⟨m, B, Kq.tap q t (by decide) (by decide) (by decide) (by decide) ht⟩, ⟨p, PS, PW, PV, Kq.pl q t (by decide) (by decide) (by decide) (by decide) (by simp (decide := true) only [hA_sA, hA_sR, false_and, and_false, if_false]) (by decide) (by decide) (by decide) (by decide) h4⟩, Kq.lst q t (by decide) (by decide) (lst4 (by decide)) (by decide) h5, Kq.way q t (Kq.A q (Nat.lt_of_lt_of_le (by decide) t.1) (by decide) 8) (by decide) (by decide) (by decide) h6', Kq.img q t (Kq.A q (Nat.lt_of_lt_of_le (by decide) t.1) (by decide) 2) (by decide) (by decide) (by decide) (by decide) (imgrows (by decide)) h7⟩
    · unfold f_X5_drop
      simp (decide := true) only [chk_p, lt_p, bd_p, bc_p, oc_n, oc_s, and_self, and_true, true_and, if_true, if_false, isO_sA', isO_sB', isO_rA', hlen_sA, hlen_sB, hlen_rA, hR_sA, hR_sB, hR_rA, Typ_sA', Typ_sB', Typ_rA', O0, r0_0, r0_1, r0_3, r0_4, r0_5, r0_6, r0_7, O1, r1_0, r1_1, r1_2, r1_3, r1_5, r1_6, r1_7, O5, l5, t, e1, l0, ie, ci, nI_pred, hA_sA, hA_sR, hR_sR, okF, false_and, if_false, isO_sR', hlen_sR, Typ_sR5]
    · unfold f_X6_drop
      simp (decide := true) only [chk_p, lt_p, bd_p, bc_p, oc_n, oc_s, and_self, and_true, true_and, if_true, if_false, isO_sA', isO_sB', isO_rA', hlen_sA, hlen_sB, hlen_rA, hR_sA, hR_sB, hR_rA, Typ_sA', Typ_sB', Typ_rA', O48, r48_0, r48_1, r48_2, r48_3, r48_4, r48_5, r48_6, r48_8, r48_9, r48_10, r48_11, r48_12, r48_15, r48_21, r48_22, r48_23, r48_24, r48_25, r48_28, r48_30, r48_31, r48_32, r48_35, r48_37, r48_39, r48_40, r48_41, t, hA_sA, hA_sR, e2, ne, nI_pred, false_and, if_false, isO_sR']
    · refine ⟨by omega, fun i hi => hg i (by omega), ?_, ?_, fun i hi => ?_, fun f hf => ?_, fun i hi => ?_⟩
      · simp (decide := true) only [hA_sA, hA_sR, and_self, false_and, if_true, if_false]
      · simp (decide := true) only [hA_sA, and_self, if_true]
      · obtain ⟨φ, g1, g2, g3⟩ := ex i (by omega)
        refine ⟨φ, ?_, Kq.xf q g2, Kq.xi q g2 g3⟩
        rw [hR_sA, hR_sR, if_neg (by omega)]; exact g1
      · obtain ⟨m1, m2⟩ := em f (by omega)
        refine ⟨(Kq.A q (Nat.lt_of_lt_of_le (by decide) t.1) (by decide) _).trans m1, fun i hi => ?_⟩
        obtain ⟨q1, q2, q3, q4⟩ := m2 i hi
        exact ⟨(Kq.A q (Nat.lt_of_lt_of_le (by decide) t.1) (by decide) _).trans q1, (Kq.A q (Nat.lt_of_lt_of_le (by decide) t.1) (by decide) _).trans q2, (Kq.A q (Nat.lt_of_lt_of_le (by decide) t.1) (by decide) _).trans q3, (Kq.A q (Nat.lt_of_lt_of_le (by decide) t.1) (by decide) _).trans q4⟩
      · rw [hR_sA, hR_sR]
        by_cases e : 5 = 5 ∧ i = k
        · rw [if_pos e]; rfl
        · rw [if_neg e]; exact Kq.okk q (er i hi)
