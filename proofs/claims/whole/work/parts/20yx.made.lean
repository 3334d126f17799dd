/-! new cells, the old ones kept -/
def EX (b : Nat) (σ σ' : HS) : Prop := hN σ ≤ hN σ' ∧ ∀ j, j < b → hty σ' j = hty σ j ∧ hlen σ' j = hlen σ j ∧ hA σ' j = hA σ j ∧ hB σ' j = hB σ j ∧ hR σ' j = hR σ j
theorem EX.rf {b : Nat} {σ : HS} : EX b σ σ := ⟨Nat.le_refl _, fun _ _ => ⟨rfl, rfl, rfl, rfl, rfl⟩⟩
theorem EX.seq {b : Nat} {σ σ' σ'' : HS} (h : EX b σ σ') (g : EX b σ' σ'') : EX b σ σ'' := ⟨Nat.le_trans h.1 g.1, fun j hj => by
  obtain ⟨a1, a2, a3, a4, a5⟩ := h.2 j hj
  obtain ⟨b1, b2, b3, b4, b5⟩ := g.2 j hj
  exact ⟨b1.trans a1, b2.trans a2, b3.trans a3, b4.trans a4, b5.trans a5⟩⟩
theorem EX.mono {b c : Nat} {σ σ' : HS} (h : EX b σ σ') (hc : c ≤ b) : EX c σ σ' := ⟨h.1, fun j hj => h.2 j (by omega)⟩
theorem EX_nw {b : Nat} {σ : HS} {t n : Nat} (h : b ≤ hN σ) : EX b σ (nw σ t n) := ⟨Nat.le_succ _, fun j hj => by
  have e : j ≠ hN σ := by omega
  exact ⟨if_neg e, if_neg e, if_neg e, if_neg e, if_neg e⟩⟩
theorem EX_nwc {b : Nat} {σ : HS} {t n : Nat} {g : Nat → Int32} (h : b ≤ hN σ) : EX b σ (nwc σ t n g) := ⟨Nat.le_succ _, fun j hj => by
  have e : j ≠ hN σ := by omega
  exact ⟨if_neg e, if_neg e, if_neg e, if_neg e, if_neg e⟩⟩
theorem EX_sA {b : Nat} {σ : HS} {j k : Nat} {v : Int32} (h : b ≤ j) : EX b σ (sA σ j k v) := ⟨Nat.le_refl _, fun i hi => ⟨rfl, rfl, up2_ne (by omega), rfl, rfl⟩⟩
theorem EX_sR {b : Nat} {σ : HS} {j k : Nat} {v : Option Nat} (h : b ≤ j) : EX b σ (sR σ j k v) := ⟨Nat.le_refl _, fun i hi => ⟨rfl, rfl, rfl, rfl, up2_ne (by omega)⟩⟩
theorem EX_rA {b : Nat} {σ : HS} {j : Nat} {g : Nat → Int32} (h : b ≤ j) : EX b σ (rA σ j g) := ⟨Nat.le_refl _, fun i hi => ⟨rfl, rfl, upr_ne (by omega), rfl, rfl⟩⟩
theorem EX.A {b : Nat} {σ σ' : HS} (h : EX b σ σ') {j : Nat} (hj : j < b) (k : Nat) : hA σ' j k = hA σ j k := congrFun (h.2 j hj).2.2.1 k
theorem EX.isO {b : Nat} {σ σ' : HS} (h : EX b σ σ') {t j : Nat} (hj : j < b) (g : isO σ t j) : isO σ' t j := ⟨Nat.lt_of_lt_of_le g.1 h.1, (h.2 j hj).1.trans g.2⟩
theorem EX.len {b : Nat} {σ σ' : HS} (h : EX b σ σ') {j : Nat} (hj : j < b) : hlen σ' j = hlen σ j := (h.2 j hj).2.1
theorem EX.R {b : Nat} {σ σ' : HS} (h : EX b σ σ') {j : Nat} (hj : j < b) (k : Nat) : hR σ' j k = hR σ j k := congrFun (h.2 j hj).2.2.2.2 k
theorem EX.typ {b : Nat} {σ σ' : HS} (h : EX b σ σ') (hb : 76 ≤ b) (ht : Typ σ) : Typ σ' := ht.cong h.1 (fun j hj => ⟨(h.2 j (by omega)).1, (h.2 j (by omega)).2.1, fun _ _ => (h.2 j (by omega)).2.2.2.2⟩)
theorem EX.tpr {b : Nat} {σ σ' : HS} (h : EX b σ σ') (hb : 76 ≤ b) {Φ : FM} (ht : TPr σ Φ) : TPr σ' Φ := by
  refine ⟨(h.A (by omega) _).trans ht.1, fun i hi => ?_⟩
  obtain ⟨a1, a2, a3, a4, a5⟩ := ht.2 i hi
  exact ⟨(h.A (by omega) _).trans a1, (h.A (by omega) _).trans a2, (h.A (by omega) _).trans a3, (h.A (by omega) _).trans a4, (h.A (by omega) _).trans a5⟩
theorem EX.kl {S qs ts : List Nat} {σ σ' : HS} (h : EX (hN σ) σ σ') (ht : Typ σ) (hs : lows S = true) (hts : tsok ts = true) : KL S qs ts σ σ' := by
  have t76 := ht.1
  exact ⟨h.1, fun j hj => ⟨(h.2 j hj).1, (h.2 j hj).2.1⟩, fun j hj => (h.2 j (by rcases hj with z | z <;> omega)).2.2.2.2, fun j hj _ => ⟨(h.2 j hj).2.2.1, (h.2 j hj).2.2.2.1⟩, fun k _ => h.A (by omega) k, fun _ hj => cont_76 hs hj, fun _ _ z => tsok_e hts z⟩
theorem nI_max {a b : Nat} (ha : a < 1000) (hb : b < 1000) : (if nI a < nI b then nI b else nI a) = nI (max a b) := by
  have l : (nI a < nI b) = (a < b) := propext (nI_ltI (by omega) (by omega))
  by_cases c : a < b
  · rw [if_pos (of_eq_true (l.trans (eq_true c))), Nat.max_eq_right (by omega)]
  · rw [if_neg (of_eq_false (l.trans (eq_false c))), Nat.max_eq_left (by omega)]
theorem x_srcs {σ : HS} (t : Typ σ) {Φ : FM} (hT : TPr σ Φ) (hw : WF Φ) : ∀ d i, i + d = mN Φ → ∀ nf, d < nf → lp_X0_sourcesIn_4 nf 17 (srcs Φ i) (nI i) σ = some (srcs Φ (mN Φ), σ) := by
  have w60 := hw.2.1
  have hn := hT.1
  intro d
  induction d with
  | zero =>
    intro i hd nf hnf
    obtain ⟨nf, rfl⟩ : ∃ k, nf = k + 1 := ⟨nf - 1, by omega⟩
    have : i = mN Φ := by omega
    subst this
    have le : (nI (mN Φ) ≤ nI (mN Φ)) = True := eq_true (Int32.le_refl _)
    show lp_X0_sourcesIn_4_b (lp_X0_sourcesIn_4 nf) 17 _ (nI (mN Φ)) σ = _
    unfold lp_X0_sourcesIn_4_b
    simp only [chk_p, lt_p, bd_p, bc_p, oc_n, oc_s, and_self, and_true, true_and, if_true, if_false, isO_sA', isO_sB', isO_rA', hlen_sA, hlen_sB, hlen_rA, hR_sA, hR_sB, hR_rA, Typ_sA', Typ_sB', Typ_rA', O17, r17_0, r17_3, r17_4, r17_5, r17_6, r17_7, t, hn, le]
  | succ d ih =>
    intro i hd nf hnf
    obtain ⟨nf, rfl⟩ : ∃ k, nf = k + 1 := ⟨nf - 1, by omega⟩
    have hi : i < mN Φ := by omega
    obtain ⟨c1, c2, c3, c4, c5⟩ := hT.2 i hi
    obtain ⟨k5, ku0, ku1, ku, kv, kv0, kp⟩ := hw.2.2 i hi
    have pe := inbE (i := i) (n := 60) (by omega) (by omega)
    have cp := cl1000 (i := i) (by omega)
    have le := nle (a := mN Φ) (b := i) (by omega) (by omega)
    have g := ih (i + 1) (by omega) nf (by omega)
    have k0 : (nI (mK Φ i) = 0) = (mK Φ i = 0) := nE (b := 0) (by omega) (by omega)
    rw [← g]
    rw [show srcs Φ (i + 1) = srcs Φ i ||| (if mK Φ i = 0 then (1 : Int32) <<< (nI (mU Φ i)) else 0) from rfl]
    show lp_X0_sourcesIn_4_b (lp_X0_sourcesIn_4 nf) 17 _ (nI i) σ = _
    unfold lp_X0_sourcesIn_4_b
    by_cases c : mK Φ i = 0
    · have k1 : mK Φ i ≤ 1 := by omega
      rw [if_pos c]
      simp only [chk_p, lt_p, bd_p, bc_p, oc_n, oc_s, and_self, and_true, true_and, if_true, if_false, isO_sA', isO_sB', isO_rA', hlen_sA, hlen_sB, hlen_rA, hR_sA, hR_sB, hR_rA, Typ_sA', Typ_sB', Typ_rA', O17, r17_0, r17_3, r17_4, r17_5, r17_6, r17_7, O19, l19, O23, l23, t, hn, le, pe, cp, c1, c5, k0.trans (eq_true c), k1, and31 _ (ku0 c), nI_s]
    · rw [if_neg c, show srcs Φ i ||| 0 = srcs Φ i from Int32.or_zero]
      simp only [chk_p, lt_p, bd_p, bc_p, oc_n, oc_s, and_self, and_true, true_and, if_true, if_false, isO_sA', isO_sB', isO_rA', hlen_sA, hlen_sB, hlen_rA, hR_sA, hR_sB, hR_rA, Typ_sA', Typ_sB', Typ_rA', O17, r17_0, r17_3, r17_4, r17_5, r17_6, r17_7, O19, l19, O23, l23, t, hn, le, pe, cp, c1, k0.trans (eq_false c), nI_s]
theorem made_ok {k : Nat} (h : k ≤ 5) (σ : HS) : f_X0_isMade (nI k) σ = some (if k ≤ 1 then 0 else 1, σ) := by
  have l : (nI k ≤ 1) = (k ≤ 1) := propext (nI_leI (b := 1) (by omega) (by omega))
  unfold f_X0_isMade
  by_cases c : k ≤ 1
  · rw [if_pos (of_eq_true (l.trans (eq_true c))), if_pos c]
  · rw [if_neg (of_eq_false (l.trans (eq_false c))), if_neg c]
def LD (σ : HS) (Φ : FM) (D i : Nat) : Prop := Typ σ ∧ TPr σ Φ ∧ isO σ 10 D ∧ hlen σ D = mN Φ ∧ ∀ x, x < mN Φ → hA σ D x = if x < i then nI (dp Φ x) else 0
theorem x_dep1 {Φ : FM} (hw : WF Φ) {D : Nat} (hD : 76 ≤ D) : ∀ d i (σ : HS), i + d = mN Φ → LD σ Φ D i → ∀ nf, d < nf → ∃ σ', lp_X0_depthOf_11 nf 17 D (nI (maxN (dp Φ) i)) (nI i) σ = some (nI (maxN (dp Φ) (mN Φ)), σ') ∧ EX D σ σ' ∧ hN σ' = hN σ := by
  have w60 := hw.2.1
  intro d
  induction d with
  | zero =>
    intro i σ hd h nf hnf
    obtain ⟨nf, rfl⟩ : ∃ k, nf = k + 1 := ⟨nf - 1, by omega⟩
    obtain ⟨t, hT, h1, h2, h3⟩ := h
    have : i = mN Φ := by omega
    subst this
    have le : (nI (mN Φ) ≤ nI (mN Φ)) = True := eq_true (Int32.le_refl _)
    refine ⟨σ, ?_, EX.rf, rfl⟩
    show lp_X0_depthOf_11_b (lp_X0_depthOf_11 nf) 17 D _ (nI (mN Φ)) σ = _
    unfold lp_X0_depthOf_11_b
    simp only [chk_p, lt_p, bd_p, bc_p, oc_n, oc_s, and_self, and_true, true_and, if_true, if_false, isO_sA', isO_sB', isO_rA', hlen_sA, hlen_sB, hlen_rA, hR_sA, hR_sB, hR_rA, Typ_sA', Typ_sB', Typ_rA', O17, r17_0, r17_3, r17_4, r17_5, r17_6, r17_7, t, hT.1, le]
  | succ d ih =>
    intro i σ hd h nf hnf
    obtain ⟨nf, rfl⟩ : ∃ k, nf = k + 1 := ⟨nf - 1, by omega⟩
    obtain ⟨t, hT, h1, h2, h3⟩ := h
    have hi : i < mN Φ := by omega
    obtain ⟨c1, c2, c3, c4, c5⟩ := hT.2 i hi
    obtain ⟨k5, ku0, ku1, ku, kv, kv0, kp⟩ := hw.2.2 i hi
    have pe := inbE (i := i) (n := 60) (by omega) (by omega)
    have pn := inbE (i := i) (n := mN Φ) hi (by omega)
    have cp := cl1000 (i := i) (by omega)
    have le := nle (a := mN Φ) (b := i) (by omega) (by omega)
    have mk := made_ok (k := mK Φ i) k5
    have h1' := eq_true h1
    have mx : maxN (dp Φ) i ≤ 60 := maxN_ub _ (fun x hx => by have := dp_le hw (i := x) (by omega); omega)
    have ds := dp_s hw hi
    have dl := dp_le hw hi
    have rfle := fun a : Nat => eq_true (Nat.le_refl a)
    rw [show maxN (dp Φ) i = maxN (dp Φ) i from rfl]
    show ∃ σ', lp_X0_depthOf_11_b (lp_X0_depthOf_11 nf) 17 D _ (nI i) σ = _ ∧ _
    unfold lp_X0_depthOf_11_b
    by_cases c : mK Φ i ≤ 1
    · have e0 : dp Φ i = 0 := by rw [ds, if_pos c]
      have hx := h3 i hi
      rw [if_neg (by omega)] at hx
      obtain ⟨σ', e1, e2, e3⟩ := ih (i + 1) σ (by omega) ⟨t, hT, h1, h2, fun x hx' => by
        rw [h3 x hx']
        by_cases z : x < i
        · rw [if_pos z, if_pos (by omega)]
        · rw [if_neg z]
          by_cases z2 : x < i + 1
          · have : x = i := by omega
            rw [if_pos z2, this, e0]; rfl
          · rw [if_neg z2]⟩ nf (by omega)
      refine ⟨σ', ?_, e2, e3⟩
      rw [show maxN (dp Φ) (i + 1) = max (maxN (dp Φ) i) 0 from by rw [← e0]; rfl] at e1
      rw [if_pos c] at mk
      have m0 := nI_max (a := maxN (dp Φ) i) (b := 0) (by omega) (by omega)
      rw [show nI 0 = (0 : Int32) from rfl] at m0
      simp only [chk_p, lt_p, bd_p, bc_p, oc_n, oc_s, and_self, and_true, true_and, if_true, if_false, isO_sA', isO_sB', isO_rA', hlen_sA, hlen_sB, hlen_rA, hR_sA, hR_sB, hR_rA, Typ_sA', Typ_sB', Typ_rA', O17, r17_0, r17_3, r17_4, r17_5, r17_6, r17_7, O19, l19, t, hT.1, le, pe, cp, c1, mk, rfle, h1', h2, pn, hx, m0, nI_s]
      exact e1
    · have u := ku (by omega)
      obtain ⟨w, hwv, hwi, hwd⟩ : ∃ w, hA σ 22 i = nI w ∧ w < i ∧ dp Φ i = 1 + max (dp Φ (mU Φ i)) (dp Φ w) := by
        by_cases c2 : mK Φ i = 2
        · refine ⟨mU Φ i, ?_, u, ?_⟩
          · rw [c4, if_neg c, if_pos c2]
          · rw [ds, if_neg c, if_pos c2, Nat.max_self]
        · refine ⟨mV Φ i, ?_, kv (by omega), ?_⟩
          · rw [c4, if_neg c, if_neg c2]
          · rw [ds, if_neg c, if_neg c2]
      rw [if_neg c] at mk c3
      have du := dp_le hw (i := mU Φ i) (by omega)
      have dw := dp_le hw (i := w) (by omega)
      have hu := h3 (mU Φ i) (by omega)
      have hv := h3 w (by omega)
      rw [if_pos u] at hu
      rw [if_pos hwi] at hv
      have un := inbE (i := mU Φ i) (n := mN Φ) (by omega) (by omega)
      have wn := inbE (i := w) (n := mN Φ) (by omega) (by omega)
      have cu := cl1000 (i := mU Φ i) (by omega)
      have cw := cl1000 (i := w) (by omega)
      have m1 := nI_max (a := dp Φ (mU Φ i)) (b := dp Φ w) (by omega) (by omega)
      have m2 := nI_max (a := maxN (dp Φ) i) (b := dp Φ i) (by omega) (by omega)
      have s1 : (1 : Int32) + nI (max (dp Φ (mU Φ i)) (dp Φ w)) = nI (dp Φ i) := by rw [hwd, show (1 : Int32) = nI 1 from rfl, nI_plus]
      have z10 : ((1 : Int32) = 0) = False := eq_false (by decide)
      obtain ⟨σ', e1, e2, e3⟩ := ih (i + 1) (sA σ D i (nI (dp Φ i))) (by omega) ⟨t, (EX_sA (Nat.le_refl D)).tpr hD hT, h1, h2, fun x hx' => by
        rw [hA_sA]
        by_cases z : x = i
        · rw [if_pos ⟨rfl, z⟩, if_pos (by omega), z]
        · rw [if_neg (fun y => z y.2), h3 x hx']
          by_cases z2 : x < i
          · rw [if_pos z2, if_pos (by omega)]
          · rw [if_neg z2, if_neg (by omega)]⟩ nf (by omega)
      refine ⟨σ', ?_, (EX_sA (Nat.le_refl D)).seq e2, e3⟩
      rw [show maxN (dp Φ) (i + 1) = max (maxN (dp Φ) i) (dp Φ i) from rfl] at e1
      simp only [chk_p, lt_p, bd_p, bc_p, oc_n, oc_s, and_self, and_true, true_and, if_true, if_false, isO_sA', isO_sB', isO_rA', hlen_sA, hlen_sB, hlen_rA, hR_sA, hR_sB, hR_rA, Typ_sA', Typ_sB', Typ_rA', O17, r17_0, r17_3, r17_4, r17_5, r17_6, r17_7, O19, l19, O21, l21, O22, l22, t, hT.1, le, pe, cp, c1, mk, rfle, z10, h1', h2, pn, c3, hwv, un, wn, cu, cw, hu, hv, m1, s1, hA_sA, m2, nI_s]
      exact e1
theorem x_dep {Φ : FM} (hw : WF Φ) (hr : RCH Φ) {σ : HS} (t : Typ σ) (hT : TPr σ Φ) : ∃ σ', f_X0_depthOf 17 σ = some (nI (depI Φ 61 (mN Φ - 1)), σ') ∧ EX (hN σ) σ σ' ∧ hN σ' = hN σ + 1 := by
  have w60 := hw.2.1
  have n0 : ¬ nI (mN Φ) < 0 := by rw [i_lt, nT (by omega), z320]; omega
  have c := cl1000 (i := mN Φ) (by omega)
  have x0 : EX (hN σ) σ (nw σ 10 (mN Φ)) := EX_nw (Nat.le_refl _)
  obtain ⟨σ', e1, e2, e3⟩ := x_dep1 hw (D := hN σ) t.1 (mN Φ) 0 (nw σ 10 (mN Φ)) (by omega) ⟨x0.typ t.1 t, x0.tpr t.1 hT, ⟨Nat.lt_succ_self _, nw_ty _ _ _⟩, nw_len _ _ _, fun x _ => by rw [nw_A, if_neg (by omega)]⟩ 1000 (by omega)
  refine ⟨σ', ?_, x0.seq e2, e3⟩
  unfold f_X0_depthOf
  rw [chk_p (o17 t), hT.1, lt_p, chk_p ⟨n0, by rw [c]; exact w60⟩, lt_p, c, lt_p, lt_p, lt_p]
  rw [dp_max hw hr] at e1
  exact e1
