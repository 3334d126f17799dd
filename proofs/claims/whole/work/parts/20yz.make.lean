/-! a formula made -/
theorem copyOf_ok {σ : HS} {a n : Nat} (ha : isO σ 10 a) (hl : hlen σ a = 60) (hn : n ≤ 60) : ∃ σ', f_J7_copyOf_59c91 a (nI n) σ = some (some (hN σ), σ') ∧ hN σ' = hN σ + 1 ∧ EX (hN σ) σ σ' ∧ isO σ' 10 (hN σ) ∧ hlen σ' (hN σ) = n ∧ ∀ x, x < n → hA σ' (hN σ) x = hA σ a x := by
  have c := cl1000 (i := n) (by omega)
  have ee : (nI n = Int32.ofNat 60) = (n = 60) := nE (b := 60) (by omega) (by omega)
  unfold f_J7_copyOf_59c91
  rw [chk_p ha, hl, lt_p]
  by_cases e : n = 60
  · rw [if_pos (of_eq_true (ee.trans (eq_true e))), chk_p ⟨ha, Nat.le_refl _⟩, lt_p, lt_p]
    exact ⟨_, rfl, rfl, EX_nwc (Nat.le_refl _), ⟨Nat.lt_succ_self _, nwc_ty _ _ _ _⟩, (nwc_len _ _ _ _).trans e.symm, fun x _ => by rw [nwc_A]⟩
  · have n0 : ¬ nI n < 0 := by rw [i_lt, nT (by omega), z320]; omega
    have l60 : (nI n < Int32.ofNat 60) = True := eq_true ((nI_ltI (b := 60) (by omega) (by omega)).mpr (by omega))
    have z0 : (0 : Int32).toNatClampNeg = 0 := rfl
    have zz : ¬ (0 : Int32) < 0 := by decide
    have hne : a ≠ hN σ := by have := ha.1; omega
    have x0 : EX (hN σ) σ (nw σ 10 n) := EX_nw (Nat.le_refl _)
    rw [if_neg (of_eq_false (ee.trans (eq_false e))), chk_p ⟨n0, by rw [c]; exact hn⟩, lt_p, c, lt_p, x0.len ha.1, hl, lt_p, if_pos (of_eq_true l60), lt_p, chk_p ⟨⟨x0.isO ha.1 ha, Nat.lt_succ_self _, nw_ty _ _ _⟩, ⟨zz, zz, n0⟩, by rw [z0, c, Nat.zero_add, nw_len]; exact ⟨hn, Nat.le_refl _⟩⟩, lt_p]
    refine ⟨_, rfl, rfl, x0.seq (EX_rA (Nat.le_refl _)), ⟨Nat.lt_succ_self _, nw_ty σ 10 n⟩, nw_len σ 10 n, fun x hx => ?_⟩
    rw [z0, c]
    show hA (cpy (nw σ 10 n) a (hN σ) n) (hN σ) x = _
    rw [hA_cpy, if_pos rfl, if_pos hx, x0.A ha.1]
def C5 (σ0 : HS) (φ n k : Nat) (σ : HS) : Prop := hN σ = φ + 1 + k ∧ EX φ σ0 σ ∧ isO σ 0 φ ∧ hA σ φ 0 = nI n ∧ ∀ i, i < k → hR σ φ (i + 1) = some (φ + 1 + i) ∧ isO σ 10 (φ + 1 + i) ∧ hlen σ (φ + 1 + i) = n ∧ ∀ x, x < n → hA σ (φ + 1 + i) x = hA σ0 (19 + i) x
theorem c5_step {σ0 : HS} {φ n k : Nat} {σ : HS} (t0 : Typ σ0) (hφ : 76 ≤ φ) (h : C5 σ0 φ n k σ) (hk : k < 5) (hn : n ≤ 60) : ∃ σ18, isO σ 3 17 ∧ hR σ 17 (3 + k) = some (19 + k) ∧ hA σ φ 0 = nI n ∧ f_J7_copyOf_59c91 (19 + k) (nI n) σ = some (some (φ + 1 + k), σ18) ∧ isO σ18 0 φ ∧ φ + 1 + k < hN σ18 ∧ C5 σ0 φ n (k + 1) (sR σ18 φ (k + 1) (some (φ + 1 + k))) := by
  obtain ⟨h1, h2, h3, h4, h5⟩ := h
  have t := h2.typ hφ t0
  have k5 : k = 0 ∨ k = 1 ∨ k = 2 ∨ k = 3 ∨ k = 4 := by omega
  have q : hR σ 17 (3 + k) = some (19 + k) ∧ isO σ 10 (19 + k) ∧ hlen σ (19 + k) = 60 := by
    rcases k5 with z | z | z | z | z <;> subst z
    · exact ⟨r17_3 t, o19 t, l19 t⟩
    · exact ⟨r17_4 t, o20 t, l20 t⟩
    · exact ⟨r17_5 t, o21 t, l21 t⟩
    · exact ⟨r17_6 t, o22 t, l22 t⟩
    · exact ⟨r17_7 t, o23 t, l23 t⟩
  obtain ⟨q1, q2, q3⟩ := q
  obtain ⟨σ', e1, e2, e3, e4, e5, e6⟩ := copyOf_ok q2 q3 hn
  rw [h1] at e1 e3 e4 e5 e6
  refine ⟨σ', o17 t, q1, h4, e1, e3.isO (by omega) h3, by omega, ?_, ((h2.seq (e3.mono (by omega))).seq (EX_sR (Nat.le_refl _))), e3.isO (by omega) h3, (e3.A (by omega) 0).trans h4, fun i hi => ?_⟩
  · show hN σ' = _; omega
  · by_cases z : i = k
    · subst z
      refine ⟨by rw [hR_sR, if_pos ⟨rfl, rfl⟩], e4, e5, fun x hx => ?_⟩
      rw [hA_sR, e6 x hx]
      exact h2.A (by omega) x
    · obtain ⟨a1, a2, a3, a4⟩ := h5 i (by omega)
      refine ⟨by rw [hR_sR, if_neg (by omega), e3.R (by omega)]; exact a1, e3.isO (by omega) a2, (e3.len (by omega)).trans a3, fun x hx => ?_⟩
      rw [hA_sR, e3.A (by omega)]
      exact a4 x hx
theorem XF.ex {σ σ' : HS} {b φ : Nat} {Φ : FM} (h : XF σ φ Φ) (g : EX b σ σ') (hb : φ + 6 ≤ b) : XF σ' φ Φ := by
  obtain ⟨⟨h0, h1, ⟨a1, a2, a3⟩, ⟨b1, b2, b3⟩, ⟨c1, c2, c3⟩, ⟨d1, d2, d3⟩, ⟨e1, e2, e3⟩⟩, hn, hc⟩ := h
  have er : ∀ k, hR σ' φ k = hR σ φ k := fun k => g.R (by omega) k
  refine ⟨⟨h0, g.isO (by omega) h1, ⟨(er _).trans a1, g.isO (by omega) a2, (g.len (by omega)).trans a3⟩, ⟨(er _).trans b1, g.isO (by omega) b2, (g.len (by omega)).trans b3⟩, ⟨(er _).trans c1, g.isO (by omega) c2, (g.len (by omega)).trans c3⟩, ⟨(er _).trans d1, g.isO (by omega) d2, (g.len (by omega)).trans d3⟩, ⟨(er _).trans e1, g.isO (by omega) e2, (g.len (by omega)).trans e3⟩⟩, (g.A (by omega) 0).trans hn, fun i hi => ?_⟩
  obtain ⟨q1, q2, q3, q4, q5⟩ := hc i hi
  exact ⟨(g.A (by omega) i).trans q1, (g.A (by omega) i).trans q2, (g.A (by omega) i).trans q3, (g.A (by omega) i).trans q4, (g.A (by omega) i).trans q5⟩
theorem XF.sa {σ : HS} {φ k : Nat} {Φ : FM} {v : Int32} (h : XF σ φ Φ) (hk : 1 ≤ k) : XF (sA σ φ k v) φ Φ := by
  obtain ⟨ft, hn, hc⟩ := h
  refine ⟨ft, by rw [hA_sA, if_neg (by omega)]; exact hn, fun i hi => ?_⟩
  obtain ⟨q1, q2, q3, q4, q5⟩ := hc i hi
  exact ⟨by rw [hA_sA, if_neg (by omega)]; exact q1, by rw [hA_sA, if_neg (by omega)]; exact q2, by rw [hA_sA, if_neg (by omega)]; exact q3, by rw [hA_sA, if_neg (by omega)]; exact q4, by rw [hA_sA, if_neg (by omega)]; exact q5⟩
def XC (σ0 : HS) (φ : Nat) (Φ : FM) (σ : HS) : Prop := Typ σ ∧ TPr σ Φ ∧ isO σ 0 φ ∧ XF σ φ Φ ∧ φ + 6 ≤ hN σ ∧ EX φ σ0 σ
theorem XC.ex {σ0 σ σ' : HS} {φ : Nat} {Φ : FM} (hφ : 76 ≤ φ) (h : XC σ0 φ Φ σ) (g : EX (hN σ) σ σ') : XC σ0 φ Φ σ' := by
  obtain ⟨h1, h2, h3, h4, h5, h6⟩ := h
  exact ⟨g.typ (by omega) h1, g.tpr (by omega) h2, g.isO (by omega) h3, h4.ex g h5, Nat.le_trans h5 g.1, h6.seq (g.mono (by omega))⟩
theorem XC.sa {σ0 σ : HS} {φ k : Nat} {Φ : FM} {v : Int32} (hφ : 76 ≤ φ) (h : XC σ0 φ Φ σ) (hk : 1 ≤ k) : XC σ0 φ Φ (sA σ φ k v) := by
  obtain ⟨h1, h2, h3, h4, h5, h6⟩ := h
  exact ⟨h1, (EX_sA (Nat.le_refl φ)).tpr hφ h2, h3, h4.sa hk, h5, h6.seq (EX_sA (Nat.le_refl φ))⟩
theorem x_init {σ0 : HS} {Φ : FM} (t0 : Typ σ0) (hT : TPr σ0 Φ) (hg : Good Φ) : ∃ σ', f_X0_init (hN σ0) 17 (nw σ0 0 0) = some ((), σ') ∧ EX (hN σ0) σ0 σ' ∧ XF σ' (hN σ0) Φ ∧ XI σ' (hN σ0) Φ := by
  have hφ := t0.1
  obtain ⟨hw, hr, hp⟩ := hg
  have w60 := hw.2.1
  have xn : EX (hN σ0) σ0 (nw σ0 0 0) := EX_nw (Nat.le_refl _)
  have tn := xn.typ hφ t0
  have Tn := xn.tpr hφ hT
  have on : isO (nw σ0 0 0) 0 (hN σ0) := ⟨Nat.lt_succ_self _, nw_ty _ _ _⟩
  have c0 : C5 σ0 (hN σ0) (mN Φ) 0 (sA (nw σ0 0 0) (hN σ0) 0 (nI (mN Φ))) := ⟨rfl, xn.seq (EX_sA (Nat.le_refl _)), on, by rw [hA_sA, if_pos ⟨rfl, rfl⟩], fun i hi => by omega⟩
  obtain ⟨s1, a1, a2, a3, a4, a5, a6, c1⟩ := c5_step t0 hφ c0 (by omega) w60
  obtain ⟨s2, b1, b2, b3, b4, b5, b6, c2⟩ := c5_step t0 hφ c1 (by omega) w60
  obtain ⟨s3, d1, d2, d3, d4, d5, d6, c3⟩ := c5_step t0 hφ c2 (by omega) w60
  obtain ⟨s4, f1, f2, f3, f4, f5, f6, c4⟩ := c5_step t0 hφ c3 (by omega) w60
  obtain ⟨s5, g1, g2, g3, g4, g5, g6, c5⟩ := c5_step t0 hφ c4 (by omega) w60
  unfold f_X0_init
  rw [chk_p (o17 tn), Tn.1, lt_p, chk_p on, lt_p, a2, bd_p, a3, lt_p, a4, bc_p, bd_p, chk_p a5, chk_p a6, lt_p,
    chk_p b1, b2, bd_p, b3, lt_p, b4, bc_p, bd_p, chk_p b5, chk_p b6, lt_p,
    chk_p d1, d2, bd_p, d3, lt_p, d4, bc_p, bd_p, chk_p d5, chk_p d6, lt_p,
    chk_p f1, f2, bd_p, f3, lt_p, f4, bc_p, bd_p, chk_p f5, chk_p f6, lt_p,
    chk_p g1, g2, bd_p, g3, lt_p, g4, bc_p, bd_p, chk_p g5, chk_p g6, lt_p]
  generalize sR s5 (hN σ0) (4 + 1) (some (hN σ0 + 1 + 4)) = σ5 at c5
  obtain ⟨n5, x5, o5', A5, R5⟩ := c5
  have r0 := R5 0 (by omega)
  have r1 := R5 1 (by omega)
  have r2 := R5 2 (by omega)
  have r3 := R5 3 (by omega)
  have r4 := R5 4 (by omega)
  have X5 : XC σ0 (hN σ0) Φ σ5 := ⟨x5.typ hφ t0, x5.tpr hφ hT, o5', ⟨⟨hφ, o5', ⟨r0.1, r0.2.1, r0.2.2.1⟩, ⟨r1.1, r1.2.1, r1.2.2.1⟩, ⟨r2.1, r2.2.1, r2.2.2.1⟩, ⟨r3.1, r3.2.1, r3.2.2.1⟩, ⟨r4.1, r4.2.1, r4.2.2.1⟩⟩, A5, fun i hi => by
    obtain ⟨q1, q2, q3, q4, q5⟩ := hT.2 i hi
    exact ⟨(r0.2.2.2 i hi).trans q1, (r1.2.2.2 i hi).trans q2, (r2.2.2.2 i hi).trans q3, (r3.2.2.2 i hi).trans q4, (r4.2.2.2 i hi).trans q5⟩⟩, by omega, x5⟩
  have e0 : f_X0_sourcesIn 17 σ5 = some (srcs Φ (mN Φ), σ5) := x_srcs X5.1 X5.2.1 hw (mN Φ) 0 (by omega) 1000 (by omega)
  rw [e0, bc_p, chk_p (Nat.le_refl _), chk_p o5', lt_p]
  have X6 := X5.sa (k := 6) (v := srcs Φ (mN Φ)) hφ (by omega)
  have A6 : hA (sA σ5 (hN σ0) 6 (srcs Φ (mN Φ))) (hN σ0) 6 = srcs Φ (mN Φ) := by rw [hA_sA, if_pos ⟨rfl, rfl⟩]
  generalize sA σ5 (hN σ0) 6 (srcs Φ (mN Φ)) = σ6 at X6 A6
  obtain ⟨σ7, e7, y7, m7⟩ := x_dep hw hr X6.1 X6.2.1
  have X7 := X6.ex hφ y7
  rw [chk_p (Nat.lt_of_lt_of_le (by decide) X6.1.1), e7, bc_p, chk_p X7.2.2.1, lt_p]
  have A7 := (y7.A (Nat.lt_of_lt_of_le (by omega) X6.2.2.2.2.1) 6).trans A6
  have X8 := X7.sa (k := 7) (v := nI (depI Φ 61 (mN Φ - 1))) hφ (by omega)
  have A8 : hA (sA σ7 (hN σ0) 7 (nI (depI Φ 61 (mN Φ - 1)))) (hN σ0) 6 = srcs Φ (mN Φ) ∧ hA (sA σ7 (hN σ0) 7 (nI (depI Φ 61 (mN Φ - 1)))) (hN σ0) 7 = nI (depI Φ 61 (mN Φ - 1)) := ⟨by rw [hA_sA, if_neg (by omega)]; exact A7, by rw [hA_sA, if_pos ⟨rfl, rfl⟩]⟩
  generalize sA σ7 (hN σ0) 7 (nI (depI Φ 61 (mN Φ - 1))) = σ8 at X8 A8
  obtain ⟨σ9, e9, y9, m9, ll⟩ := x_lik hw X8.1 X8.2.1
  have X9 := X8.ex hφ y9
  have h8 := X8.2.2.2.2.1
  have A9 : hA σ9 (hN σ0) 6 = srcs Φ (mN Φ) ∧ hA σ9 (hN σ0) 7 = nI (depI Φ 61 (mN Φ - 1)) := ⟨(y9.A (by omega) 6).trans A8.1, (y9.A (by omega) 7).trans A8.2⟩
  rw [chk_p (Nat.lt_of_lt_of_le (by decide) X8.1.1), e9, bc_p, bd_p, x_unl hw ll.2.2.1 ll.2.2.2.1 ll.2.2.2.2, bc_p, chk_p (Nat.le_refl _), chk_p X9.2.2.1, lt_p]
  have hL : hN σ8 < hN (sA σ9 (hN σ0) 8 (nI (unlN Φ))) := by show hN σ8 < hN σ9; omega
  have l1 : isO (sA σ9 (hN σ0) 8 (nI (unlN Φ))) 10 (hN σ8) := ll.2.2.1
  have l2 : hlen (sA σ9 (hN σ0) 8 (nI (unlN Φ))) (hN σ8) = mN Φ := ll.2.2.2.1
  have l3 : ∀ x, x < mN Φ → hA (sA σ9 (hN σ0) 8 (nI (unlN Φ))) (hN σ8) x = nI (lik Φ x) := fun x hx => by rw [hA_sA, if_neg (by omega)]; exact ll.2.2.2.2 x hx
  have X10 := X9.sa (k := 8) (v := nI (unlN Φ)) hφ (by omega)
  have A10 : hA (sA σ9 (hN σ0) 8 (nI (unlN Φ))) (hN σ0) 6 = srcs Φ (mN Φ) ∧ hA (sA σ9 (hN σ0) 8 (nI (unlN Φ))) (hN σ0) 7 = nI (depI Φ 61 (mN Φ - 1)) ∧ hA (sA σ9 (hN σ0) 8 (nI (unlN Φ))) (hN σ0) 8 = nI (unlN Φ) := ⟨by rw [hA_sA, if_neg (by omega)]; exact A9.1, by rw [hA_sA, if_neg (by omega)]; exact A9.2, by rw [hA_sA, if_pos ⟨rfl, rfl⟩]⟩
  generalize sA σ9 (hN σ0) 8 (nI (unlN Φ)) = σ10 at X10 A10 hL l1 l2 l3
  obtain ⟨σ11, e11, y11, m11⟩ := x_mal hw l1 l2 l3
  have X11 := X10.ex hφ y11
  have h10 := X10.2.2.2.2.1
  rw [chk_p hL, chk_p (Nat.lt_of_lt_of_le (by decide) X10.1.1), e11, bc_p, chk_p X11.2.2.1, lt_p]
  have X12 := X11.sa (k := 9) (v := nI (malN Φ)) hφ (by omega)
  refine ⟨_, rfl, X12.2.2.2.2.2, X12.2.2.2.1, ?_, ?_, ?_, ?_⟩
  · rw [hA_sA, if_neg (by omega), y11.A (by omega)]; exact A10.1
  · rw [hA_sA, if_neg (by omega), y11.A (by omega)]; exact A10.2.1
  · rw [hA_sA, if_neg (by omega), y11.A (by omega)]; exact A10.2.2
  · rw [hA_sA, if_pos ⟨rfl, rfl⟩]
