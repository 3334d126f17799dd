/-! Thought's methods: sources in thought, a formula carried -/
theorem le6 {i : Nat} (h : i < 1000) : ((6 : Int32) ≤ nI i) = (6 ≤ i) := propext (nI_leI (a := 6) (by omega) (by omega))
theorem nI_s (i : Nat) : nI i + (1 : Int32) = nI (i + 1) := nI_1 i
theorem lowOf_ok {σ : HS} (h : Typ σ) {s : Nat} (hs : s < 6) : f_X2_lowOf 1 (nI s) σ = some (hA σ 2 s - hA σ 3 s, σ) := by
  have i1 := eq_true (inb1000 (i := s) (n := 6) hs (by omega))
  have c1 := cl1000 (i := s) (by omega)
  have e1 := eq_true (o1 h)
  have e2 := eq_true (o2 h)
  have e3 := eq_true (o3 h)
  simp only [f_X2_lowOf, chk_p, bd_p, lt_p, e1, e2, e3, l2 h, l3 h, r1_0 h, r1_1 h, i1, c1, and_self]
theorem highOf_ok {σ : HS} (h : Typ σ) {s : Nat} (hs : s < 6) : f_X2_highOf 1 (nI s) σ = some (hA σ 2 s + hA σ 3 s, σ) := by
  have i1 := eq_true (inb1000 (i := s) (n := 6) hs (by omega))
  have c1 := cl1000 (i := s) (by omega)
  have e1 := eq_true (o1 h)
  have e2 := eq_true (o2 h)
  have e3 := eq_true (o3 h)
  simp only [f_X2_highOf, chk_p, bd_p, lt_p, e1, e2, e3, l2 h, l3 h, r1_0 h, r1_1 h, i1, c1, and_self]
theorem stand_ok {σ : HS} (h : Typ σ) {s : Nat} (hs : s < 6) (a b : Int32) : f_X4_stand 24 (nI s) a b σ = some ((), sA (sA σ 25 s a) 26 s b) := by
  have i1 := eq_true (inb1000 (i := s) (n := 6) hs (by omega))
  have c1 := cl1000 (i := s) (by omega)
  have e1 := eq_true (o24 h)
  have e2 := eq_true (o25 h)
  have e3 := eq_true (o26 h)
  simp only [f_X4_stand, chk_p, bd_p, lt_p, isO_sA', hR_sA, hlen_sA, e1, e2, e3, l25 h, l26 h, r24_0 h, r24_1 h, i1, c1, and_self]
