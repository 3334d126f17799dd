/-! image, undo, plan: the calls -/
theorem KL.mono {S qs ts S' qs' ts' : List Nat} {σ σ' : HS} (h : KL S qs ts σ σ') (hs : lows S' = true) (ht : tsok ts' = true) (h1 : S.all (fun j => S'.contains j) = true) (h2 : qs.all (fun j => qs'.contains j) = true) (h3 : ts.all (fun j => ts'.contains j) = true) : KL S' qs' ts' σ σ' := by
  have g : ∀ (A B : List Nat), A.all (fun j => B.contains j) = true → ∀ j, B.contains j = false → A.contains j = false := fun A B hh j hj => by
    cases hc : A.contains j with
    | false => rfl
    | true => exact absurd ((List.all_eq_true.mp hh j (List.contains_iff_mem.mp hc)).symm.trans hj) (by decide)
  obtain ⟨a1, a2, a3, a4, a5, a6, a7⟩ := h
  exact ⟨a1, a2, fun j hj => a3 j (by rcases hj with z | z
                                      · exact Or.inl ⟨z.1, g _ _ h3 j z.2⟩
                                      · exact Or.inr z), fun j hj hp => a4 j hj (g _ _ h1 j hp), fun k hk => a5 k (g _ _ h2 k hk), fun _ hj => cont_76 hs hj, fun _ _ h => tsok_e ht h⟩
theorem op_image : OpOK (f_X5_image 0) (f_X6_image 48) := by
  intro σ V S C n FS I
  have t := I.1
  obtain ⟨-, h1, h2, ⟨m, B, ht⟩, ⟨p, PS, PW, PV, h4⟩, h5, h6, h7⟩ := I
  obtain ⟨σ1, e1, q1, n1, b1, b2, b3, b4, b5⟩ := bl9_ok t h2.2.2.2.2.2.2
  have t1 : Typ σ1 := Kq.typ q1 t
  obtain ⟨σ2, g1, q2, n2, i14, i13, i38, c0, c1, c2, c3, c4, c5, c6⟩ := mimage_ok (σ := sA σ1 0 2 1) t1
  have A1 := fun {j : Nat} (hj : j < 76) h k => Kq.A q1 (j := j) (Nat.lt_of_lt_of_le hj t.1) h k
  have A2 := fun {j : Nat} (hj : j < 76) h k => Kq.A q2 (j := j) (Nat.lt_of_lt_of_le hj t1.1) h k
  have q12 : KL [0, 9, 10, 11, 12, 14, 15, 16, 48, 50, 56, 57, 58, 59, 60, 72] [13, 38, 14] [13] σ (sA σ1 0 2 1) := (q1.mono (by decide) (by decide) (by decide) (by decide) (by decide)).seq (KL_sA (by decide) (by decide) (by decide) (by decide))
  have q : KL [0, 9, 10, 11, 12, 14, 15, 16, 48, 50, 56, 57, 58, 59, 60, 72] [13, 38, 14] [13] σ σ2 := q12.seq (q2.mono (by decide) (by decide) (by decide) (by decide) (by decide))
  have o8 : hA σ2 0 8 = hA σ 0 8 := (A2 (by decide) (by decide) 8).trans (by rw [hA_sA, if_neg (by decide)]; exact A1 (by decide) (by decide) 8)
  have e48 : ∀ k, k ≠ 13 → k ≠ 38 → k ≠ 14 → hA σ2 48 k = hA σ 48 k := fun k k1 k2 k3 => q.2.2.2.2.1 k (by simp [k1, k2, k3])
  refine ⟨hA σ 1 4, sA σ1 0 2 1, σ2, ?_, t1, Nat.le_of_eq n1.symm, ?_, Nat.le_of_eq n2.symm, V, S, C, n, FS, Kq.typ q t, Kq.src q t (by decide) (by decide) (by decide) (by decide) (by decide) (by decide) h1, Kq.fm q t (by decide) (by decide) (by decide) (by decide) (Kq.A q (Nat.lt_of_lt_of_le (by decide) t.1) (by decide) 4) (by decide) (by decide) (by decide) (by decide) (by decide) h2, ⟨m, B, Kq.tap q t (by decide) (by decide) (by decide) (by decide) ht⟩, ⟨p, PS, PW, PV, Kq.pl q t (by decide) (by decide) (by decide) (by decide) (Kq.A q (Nat.lt_of_lt_of_le (by decide) t.1) (by decide) 8) (by decide) (by decide) (by decide) (by decide) h4⟩, Kq.lst q t (by decide) (by decide) (lst4 (by decide)) (by decide) h5, Kq.way q t o8 (by decide) (by decide) (by decide) h6, Or.inr ⟨⟨?_, i14⟩, ⟨V, S, C, fun s hs => ?_⟩, ⟨n, FS, ?_⟩, ⟨p, PS, PW, PV, ?_⟩⟩⟩
  · unfold f_X5_image
    simp (decide := true) only [chk_p, lt_p, bd_p, bc_p, oc_n, oc_s, and_self, and_true, true_and, if_true, if_false, isO_sA', isO_sB', isO_rA', hlen_sA, hlen_sB, hlen_rA, hR_sA, hR_sB, hR_rA, Typ_sA', Typ_sB', Typ_rA', O0, r0_0, r0_1, r0_3, r0_4, r0_5, r0_6, r0_7, O1, r1_0, r1_1, r1_2, r1_3, r1_5, r1_6, r1_7, O9, r9_0, r9_1, r9_2, r9_3, r9_5, r9_6, r9_7, t, t1, e1, hA_sA, if_false, false_and]
    rw [A1 (by decide) (by decide) 4]
  · rw [g1]
    rw [show hA (sA σ1 0 2 1) 48 7 = hA σ1 48 7 from rfl, q1.2.2.2.2.1 7 (by decide), h2.2.2.2.1, h2.2.2.1]
  · exact (A2 (by decide) (by decide) 2).trans (by rw [hA_sA, if_pos ⟨rfl, rfl⟩])
  · obtain ⟨⟨a1, a2, a3⟩, ⟨d1, d2, d3⟩, r⟩ := h1 s hs
    obtain ⟨w1, w2, w3⟩ := b2 s hs
    have ec : ∀ k, k < 18 → hA σ2 50 k = hA σ 49 k := fun k hk => (c0 k hk).trans (A1 (by decide) (by decide) k)
    have er : ∀ j, j < 76 → (j = 10 ∨ j = 11 ∨ j = 12) → hA σ2 j s = hA σ1 j s := fun j hj h3 => (A2 hj (by rcases h3 with z | z | z <;> subst z <;> decide) s).trans (by rw [hA_sA, if_neg (by omega)])
    exact ⟨⟨(er 10 (by decide) (by decide)).trans (w1.trans a1), (er 11 (by decide) (by decide)).trans (w2.trans a2), (er 12 (by decide) (by decide)).trans (w3.trans a3)⟩, ⟨(ec _ (by omega)).trans d1, (ec _ (by omega)).trans d2, (ec _ (by omega)).trans d3⟩, r⟩
  · obtain ⟨f1, f2, f3, f4, f5, f6, f7⟩ := h2
    have er : ∀ k, hR σ2 13 k = hR σ1 13 k := fun k => congrFun (q2.2.2.1 13 (Or.inl ⟨by decide, by decide⟩)) k
    refine ⟨f1, f2, ?_, ?_, fun k hk => ?_, fun f hf => ?_, fun k hk => ?_⟩
    · exact (A2 (by decide) (by decide) 4).trans (by rw [hA_sA, if_neg (by decide)]; exact b3.trans f3)
    · rw [i13, show hA (sA σ1 0 2 1) 48 7 = hA σ1 48 7 from rfl, q1.2.2.2.2.1 7 (by decide)]; exact f4
    · obtain ⟨φ, p1, p2, p3⟩ := f5 k hk
      exact ⟨φ, (er k).trans ((b1 k (by omega)).trans p1), Kq.xf q p2, Kq.xi q p2 p3⟩
    · obtain ⟨m1, m2⟩ := f6 f hf
      refine ⟨(c5 f (by omega)).trans ((A1 (by decide) (by decide) _).trans m1), fun i hi => ?_⟩
      obtain ⟨z1, z2, z3, z4⟩ := m2 i hi
      have w60 := (f2 f hf).1.2.1
      exact ⟨(c1 _ (by omega)).trans ((A1 (by decide) (by decide) _).trans z1), (c2 _ (by omega)).trans ((A1 (by decide) (by decide) _).trans z2), (c3 _ (by omega)).trans ((A1 (by decide) (by decide) _).trans z3), (c4 _ (by omega)).trans ((A1 (by decide) (by decide) _).trans z4)⟩
    · rw [er k, b1 k hk]; exact Kq.okk q (f7 k hk)
  · obtain ⟨p1, p2, p3, p4⟩ := h4
    refine ⟨p1, ?_, ?_, fun k hk => ?_⟩
    · exact (A2 (by decide) (by decide) 8).trans (by rw [hA_sA, if_neg (by decide)]; exact b4.trans p2)
    · rw [i38, show hA (sA σ1 0 2 1) 48 36 = hA σ1 48 36 from rfl, q1.2.2.2.2.1 36 (by decide)]; exact p3
    · obtain ⟨⟨a1, a2, a3⟩, ⟨d1, d2, d3⟩, r⟩ := p4 k hk
      obtain ⟨w1, w2, w3⟩ := b5 k (by omega)
      have ec : ∀ k, k < 24 → hA σ2 72 k = hA σ 71 k := fun k hk => (c6 k hk).trans (A1 (by decide) (by decide) k)
      have er : ∀ j, j < 76 → (j = 14 ∨ j = 15 ∨ j = 16) → hA σ2 j k = hA σ1 j k := fun j hj h3 => (A2 hj (by rcases h3 with z | z | z <;> subst z <;> decide) k).trans (by rw [hA_sA, if_neg (by omega)])
      exact ⟨⟨(er 14 (by decide) (by decide)).trans (w1.trans a1), (er 15 (by decide) (by decide)).trans (w2.trans a2), (er 16 (by decide) (by decide)).trans (w3.trans a3)⟩, ⟨(ec _ (by omega)).trans d1, (ec _ (by omega)).trans d2, (ec _ (by omega)).trans d3⟩, r⟩
theorem op_undo : OpOK (f_X5_undo 0) (f_X6_undo 48) := by
  intro σ V S C n FS I
  have t := I.1
  have I0 := I
  obtain ⟨-, h1, h2, ⟨m, B, ht⟩, ⟨p, PS, PW, PV, h4⟩, h5, h6, h7⟩ := I
  rcases h7 with ⟨x1, x2⟩ | ⟨⟨x1, x2⟩, ⟨V', S', C', k1⟩, ⟨n', FS', k2⟩, ⟨p', PS', PW', PV', k4⟩⟩
  · refine opN I0 (-3) ?_ ?_
    · unfold f_X5_undo
      simp only [chk_p, lt_p, bd_p, bc_p, oc_n, oc_s, and_self, and_true, true_and, if_true, if_false, isO_sA', isO_sB', isO_rA', hlen_sA, hlen_sB, hlen_rA, hR_sA, hR_sB, hR_rA, Typ_sA', Typ_sB', Typ_rA', O0, r0_0, r0_1, r0_3, r0_4, r0_5, r0_6, r0_7, t, x1]
    · unfold f_X6_undo
      simp only [chk_p, lt_p, bd_p, bc_p, oc_n, oc_s, and_self, and_true, true_and, if_true, if_false, isO_sA', isO_sB', isO_rA', hlen_sA, hlen_sB, hlen_rA, hR_sA, hR_sB, hR_rA, Typ_sA', Typ_sB', Typ_rA', O48, r48_0, r48_1, r48_2, r48_3, r48_4, r48_5, r48_6, r48_8, r48_9, r48_10, r48_11, r48_12, r48_15, r48_21, r48_22, r48_23, r48_24, r48_25, r48_28, r48_30, r48_31, r48_32, r48_35, r48_37, r48_39, r48_40, r48_41, t, x2]
  have I7 : ImgI σ := Or.inr ⟨⟨x1, x2⟩, ⟨V', S', C', k1⟩, ⟨n', FS', k2⟩, ⟨p', PS', PW', PV', k4⟩⟩
  obtain ⟨σ1, e1, q1, n1, b1, b2, b3, b4, b5⟩ := bl1_ok t k2.2.2.2.2.2.2
  have t1 : Typ σ1 := Kq.typ q1 t
  have A1 := fun {j : Nat} (hj : j < 76) h k => Kq.A q1 (j := j) (Nat.lt_of_lt_of_le hj t.1) h k
  obtain ⟨σ2, g1, q2, n2, i7, i36, c0, c1, c2, c3, c4, c5, c6⟩ := mundo_ok (σ := σ1) t1 ((q1.2.2.2.2.1 14 (by decide)).trans x2)
  have A2 := fun {j : Nat} (hj : j < 76) h k => Kq.A q2 (j := j) (Nat.lt_of_lt_of_le hj t1.1) h k
  have q : KL [1, 2, 3, 4, 6, 7, 8, 48, 49, 51, 52, 53, 54, 55, 71] [7, 36] [5] σ σ2 := (q1.mono (by decide) (by decide) (by decide) (by decide) (by decide)).seq (q2.mono (by decide) (by decide) (by decide) (by decide) (by decide))
  refine ⟨hA σ 9 4, σ1, σ2, ?_, t1, Nat.le_of_eq n1.symm, ?_, Nat.le_of_eq n2.symm, V', S', C', n', FS', Kq.typ q t, fun s hs => ?_, ?_, ⟨m, B, Kq.tap q t (by decide) (by decide) (by decide) (by decide) ht⟩, ⟨p', PS', PW', PV', ?_⟩, Kq.lst q t (by decide) (by decide) (lst4 (by decide)) (by decide) h5, Kq.way q t (Kq.A q (Nat.lt_of_lt_of_le (by decide) t.1) (by decide) 8) (by decide) (by decide) (by decide) h6, Kq.img q t (Kq.A q (Nat.lt_of_lt_of_le (by decide) t.1) (by decide) 2) (by decide) (by decide) (by decide) (by decide) (imgrows (by decide)) I7⟩
  · unfold f_X5_undo
    simp (decide := true) only [chk_p, lt_p, bd_p, bc_p, oc_n, oc_s, and_self, and_true, true_and, if_true, if_false, isO_sA', isO_sB', isO_rA', hlen_sA, hlen_sB, hlen_rA, hR_sA, hR_sB, hR_rA, Typ_sA', Typ_sB', Typ_rA', O0, r0_0, r0_1, r0_3, r0_4, r0_5, r0_6, r0_7, O1, r1_0, r1_1, r1_2, r1_3, r1_5, r1_6, r1_7, O9, r9_0, r9_1, r9_2, r9_3, r9_5, r9_6, r9_7, t, t1, x1, e1, if_false]
    rw [b3]
  · rw [g1, q1.2.2.2.2.1 13 (by decide), k2.2.2.2.1, k2.2.2.1]
  · obtain ⟨⟨a1, a2, a3⟩, ⟨d1, d2, d3⟩, r⟩ := k1 s hs
    obtain ⟨w1, w2, w3⟩ := b2 s hs
    have ec : ∀ k, k < 18 → hA σ2 49 k = hA σ 50 k := fun k hk => (c0 k hk).trans (A1 (by decide) (by decide) k)
    have er : ∀ j, j < 76 → (j = 2 ∨ j = 3 ∨ j = 4) → hA σ2 j s = hA σ1 j s := fun j hj h3 => A2 hj (by rcases h3 with z | z | z <;> subst z <;> decide) s
    exact ⟨⟨(er 2 (by decide) (by decide)).trans (w1.trans a1), (er 3 (by decide) (by decide)).trans (w2.trans a2), (er 4 (by decide) (by decide)).trans (w3.trans a3)⟩, ⟨(ec _ (by omega)).trans d1, (ec _ (by omega)).trans d2, (ec _ (by omega)).trans d3⟩, r⟩
  · obtain ⟨f1, f2, f3, f4, f5, f6, f7⟩ := k2
    have er : ∀ k, hR σ2 5 k = hR σ1 5 k := fun k => congrFun (q2.2.2.1 5 (Or.inl ⟨by decide, by decide⟩)) k
    refine ⟨f1, f2, ?_, ?_, fun k hk => ?_, fun f hf => ?_, fun k hk => ?_⟩
    · exact (A2 (by decide) (by decide) 4).trans (b3.trans f3)
    · rw [i7, q1.2.2.2.2.1 13 (by decide)]; exact f4
    · obtain ⟨φ, p1, p2, p3⟩ := f5 k hk
      exact ⟨φ, (er k).trans ((b1 k (by omega)).trans p1), Kq.xf q p2, Kq.xi q p2 p3⟩
    · obtain ⟨m1, m2⟩ := f6 f hf
      refine ⟨(c5 f (by omega)).trans ((A1 (by decide) (by decide) _).trans m1), fun i hi => ?_⟩
      obtain ⟨z1, z2, z3, z4⟩ := m2 i hi
      have w60 := (f2 f hf).1.2.1
      exact ⟨(c1 _ (by omega)).trans ((A1 (by decide) (by decide) _).trans z1), (c2 _ (by omega)).trans ((A1 (by decide) (by decide) _).trans z2), (c3 _ (by omega)).trans ((A1 (by decide) (by decide) _).trans z3), (c4 _ (by omega)).trans ((A1 (by decide) (by decide) _).trans z4)⟩
    · rw [er k, b1 k hk]; exact Kq.okk q (f7 k hk)
  · obtain ⟨p1, p2, p3, p4⟩ := k4
    refine ⟨p1, ?_, ?_, fun k hk => ?_⟩
    · exact (A2 (by decide) (by decide) 8).trans (b4.trans p2)
    · rw [i36, q1.2.2.2.2.1 38 (by decide)]; exact p3
    · obtain ⟨⟨a1, a2, a3⟩, ⟨d1, d2, d3⟩, r⟩ := p4 k hk
      obtain ⟨w1, w2, w3⟩ := b5 k (by omega)
      have ec : ∀ k, k < 24 → hA σ2 71 k = hA σ 72 k := fun k hk => (c6 k hk).trans (A1 (by decide) (by decide) k)
      have er : ∀ j, j < 76 → (j = 6 ∨ j = 7 ∨ j = 8) → hA σ2 j k = hA σ1 j k := fun j hj h3 => A2 hj (by rcases h3 with z | z | z <;> subst z <;> decide) k
      exact ⟨⟨(er 6 (by decide) (by decide)).trans (w1.trans a1), (er 7 (by decide) (by decide)).trans (w2.trans a2), (er 8 (by decide) (by decide)).trans (w3.trans a3)⟩, ⟨(ec _ (by omega)).trans d1, (ec _ (by omega)).trans d2, (ec _ (by omega)).trans d3⟩, r⟩
