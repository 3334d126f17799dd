/-! the class's likenesses -/
def LL (σ : HS) (Φ : FM) (L i : Nat) : Prop := Typ σ ∧ TPr σ Φ ∧ isO σ 10 L ∧ hlen σ L = mN Φ ∧ ∀ x, x < i → hA σ L x = nI (lik Φ x)
theorem xal_ok {Φ : FM} (hw : WF Φ) {L i j : Nat} {σ : HS} (h : LL σ Φ L i) (hj : j < i) (hi : i < mN Φ) : f_X0_areAlike 17 L (nI j) (nI i) σ = some (if alF Φ i j = true then 1 else 0, σ) := by
  have w60 := hw.2.1
  obtain ⟨t, hT, h1, h2, h3⟩ := h
  have h1' := eq_true h1
  obtain ⟨a1, a2, a3, a4, a5⟩ := hT.2 i hi
  obtain ⟨b1, b2, b3, b4, b5⟩ := hT.2 j (by omega)
  obtain ⟨k5, ku0, ku1, ku, kv, kv0, kp⟩ := hw.2.2 i hi
  obtain ⟨q5, qu0, qu1, qu, qv, qv0, qp⟩ := hw.2.2 j (by omega)
  have pi := inbE (i := i) (n := 60) (by omega) (by omega)
  have ci := cl1000 (i := i) (by omega)
  have pj := inbE (i := j) (n := 60) (by omega) (by omega)
  have cj := cl1000 (i := j) (by omega)
  have al := alF_s hw (i := i) (j := j) hi
  have kk : (nI (mK Φ j) = nI (mK Φ i)) = (mK Φ j = mK Φ i) := nE (by omega) (by omega)
  unfold f_X0_areAlike
  by_cases c1 : mK Φ j = mK Φ i
  · have kt := kk.trans (eq_true c1)
    by_cases c2 : mK Φ i ≤ 1
    · have c2' : mK Φ j ≤ 1 := by omega
      have mk := made_ok (k := mK Φ i) k5 σ
      rw [if_pos c2] at mk
      have uu : mU Φ i ≤ 9999 := by
        have : mK Φ i = 0 ∨ mK Φ i = 1 := by omega
        rcases this with z | z
        · have := ku0 z; omega
        · exact ku1 z
      have vv : mU Φ j ≤ 9999 := by
        have : mK Φ j = 0 ∨ mK Φ j = 1 := by omega
        rcases this with z | z
        · have := qu0 z; omega
        · exact qu1 z
      have ue : (nI (mU Φ j) = nI (mU Φ i)) = (mU Φ j = mU Φ i) := propext ⟨fun z => by
        have := congrArg Int32.toInt z
        rw [nI_toInt (by omega), nI_toInt (by omega)] at this; omega, fun z => by rw [z]⟩
      rw [if_pos c2] at a5
      rw [if_pos c2'] at b5
      by_cases c3 : mU Φ j = mU Φ i
      · rw [if_pos (al.mpr ⟨c1.symm, fun _ => c3.symm, fun z => by omega, fun z => by omega⟩)]
        simp only [chk_p, lt_p, bd_p, bc_p, oc_n, oc_s, and_self, and_true, true_and, if_true, if_false, isO_sA', isO_sB', isO_rA', hlen_sA, hlen_sB, hlen_rA, hR_sA, hR_sB, hR_rA, Typ_sA', Typ_sB', Typ_rA', O17, r17_0, r17_3, r17_4, r17_5, r17_6, r17_7, O19, l19, O23, l23, t, pi, ci, pj, cj, a1, b1, kt, a5, b5, ue.trans (eq_true c3), c1, mk]
      · rw [if_neg (fun z => c3 ((al.mp z).2.1 c2).symm)]
        simp only [chk_p, lt_p, bd_p, bc_p, oc_n, oc_s, and_self, and_true, true_and, if_true, if_false, isO_sA', isO_sB', isO_rA', hlen_sA, hlen_sB, hlen_rA, hR_sA, hR_sB, hR_rA, Typ_sA', Typ_sB', Typ_rA', O17, r17_0, r17_3, r17_4, r17_5, r17_6, r17_7, O19, l19, O23, l23, t, pi, ci, pj, cj, a1, b1, kt, a5, b5, ue.trans (eq_false c3)]
    · have c2' : ¬ mK Φ j ≤ 1 := by omega
      have mk := made_ok (k := mK Φ i) k5 σ
      rw [if_neg c2] at mk a3 a5
      rw [if_neg c2'] at b3 b5
      have u := ku (by omega)
      have v := qu (by omega)
      obtain ⟨w, w1, w2, w3⟩ : ∃ w, hA σ 22 i = nI w ∧ w < i ∧ (mK Φ i = 2 → w = mU Φ i) ∧ (3 ≤ mK Φ i → w = mV Φ i) := by
        by_cases c3 : mK Φ i = 2
        · exact ⟨mU Φ i, by rw [a4, if_neg c2, if_pos c3], u, fun _ => rfl, fun z => by omega⟩
        · exact ⟨mV Φ i, by rw [a4, if_neg c2, if_neg c3], kv (by omega), fun z => by omega, fun _ => rfl⟩
      obtain ⟨y, y1, y2, y3⟩ : ∃ y, hA σ 22 j = nI y ∧ y < j ∧ (mK Φ j = 2 → y = mU Φ j) ∧ (3 ≤ mK Φ j → y = mV Φ j) := by
        by_cases c3 : mK Φ j = 2
        · exact ⟨mU Φ j, by rw [b4, if_neg c2', if_pos c3], v, fun _ => rfl, fun z => by omega⟩
        · exact ⟨mV Φ j, by rw [b4, if_neg c2', if_neg c3], qv (by omega), fun z => by omega, fun _ => rfl⟩
      have e1 := h3 (mU Φ i) u
      have e2 := h3 (mU Φ j) (by omega)
      have e3 := h3 w w2
      have e4 := h3 y (by omega)
      have l1 := (lik_ok hw (i := mU Φ i) (by omega)).1
      have l2 := (lik_ok hw (i := mU Φ j) (by omega)).1
      have l3 := (lik_ok hw (i := w) (by omega)).1
      have l4 := (lik_ok hw (i := y) (by omega)).1
      have f1 : (nI (lik Φ (mU Φ j)) = nI (lik Φ (mU Φ i))) = (lik Φ (mU Φ j) = lik Φ (mU Φ i)) := nE (by omega) (by omega)
      have f2 : (nI (lik Φ y) = nI (lik Φ w)) = (lik Φ y = lik Φ w) := nE (by omega) (by omega)
      have g1 := lik_iff hw (i := mU Φ i) (j := mU Φ j) (by omega) (by omega)
      have g2 := lik_iff hw (i := w) (j := y) (by omega) (by omega)
      have un := inbE (i := mU Φ i) (n := mN Φ) (by omega) (by omega)
      have vn := inbE (i := mU Φ j) (n := mN Φ) (by omega) (by omega)
      have wn := inbE (i := w) (n := mN Φ) (by omega) (by omega)
      have yn := inbE (i := y) (n := mN Φ) (by omega) (by omega)
      have uc := cl1000 (i := mU Φ i) (by omega)
      have vc := cl1000 (i := mU Φ j) (by omega)
      have wc := cl1000 (i := w) (by omega)
      have yc := cl1000 (i := y) (by omega)
      have z10 : ((1 : Int32) = 0) = False := eq_false (by decide)
      have z00 : ((0 : Int32) = 0) = True := eq_true rfl
      by_cases d1 : lik Φ (mU Φ j) = lik Φ (mU Φ i)
      · have d1' := g1.mp d1.symm
        by_cases d2 : lik Φ y = lik Φ w
        · have d2' := g2.mp d2.symm
          rw [if_pos (al.mpr ⟨c1.symm, fun z => absurd z c2, fun _ => d1', fun z => by rw [← w3.2 z, ← y3.2 (by omega)]; exact d2'⟩)]
          simp only [chk_p, lt_p, bd_p, bc_p, oc_n, oc_s, and_self, and_true, true_and, if_true, if_false, isO_sA', isO_sB', isO_rA', hlen_sA, hlen_sB, hlen_rA, hR_sA, hR_sB, hR_rA, Typ_sA', Typ_sB', Typ_rA', O17, r17_0, r17_3, r17_4, r17_5, r17_6, r17_7, O19, l19, O21, l21, O22, l22, O23, l23, t, h1', h2, pi, ci, pj, cj, a1, b1, kt, a5, b5, c1, mk, z10, z00, a3, b3, un, vn, uc, vc, e1, e2, f1.trans (eq_true d1), w1, y1, wn, yn, wc, yc, e3, e4, f2.trans (eq_true d2)]
        · have : ¬ alF Φ i j = true := fun z => by
            obtain ⟨_, _, z1, z2⟩ := al.mp z
            apply d2
            refine (g2.mpr ?_).symm
            by_cases c3 : mK Φ i = 2
            · rw [w3.1 c3, y3.1 (by omega)]; exact z1 (by omega)
            · rw [w3.2 (by omega), y3.2 (by omega)]; exact z2 (by omega)
          rw [if_neg this]
          simp only [chk_p, lt_p, bd_p, bc_p, oc_n, oc_s, and_self, and_true, true_and, if_true, if_false, isO_sA', isO_sB', isO_rA', hlen_sA, hlen_sB, hlen_rA, hR_sA, hR_sB, hR_rA, Typ_sA', Typ_sB', Typ_rA', O17, r17_0, r17_3, r17_4, r17_5, r17_6, r17_7, O19, l19, O21, l21, O22, l22, O23, l23, t, h1', h2, pi, ci, pj, cj, a1, b1, kt, a5, b5, c1, mk, z10, z00, a3, b3, un, vn, uc, vc, e1, e2, f1.trans (eq_true d1), w1, y1, wn, yn, wc, yc, e3, e4, f2.trans (eq_false d2)]
      · rw [if_neg (fun z => d1 (g1.mpr ((al.mp z).2.2.1 (by omega))).symm)]
        simp only [chk_p, lt_p, bd_p, bc_p, oc_n, oc_s, and_self, and_true, true_and, if_true, if_false, isO_sA', isO_sB', isO_rA', hlen_sA, hlen_sB, hlen_rA, hR_sA, hR_sB, hR_rA, Typ_sA', Typ_sB', Typ_rA', O17, r17_0, r17_3, r17_4, r17_5, r17_6, r17_7, O19, l19, O21, l21, O22, l22, O23, l23, t, h1', h2, pi, ci, pj, cj, a1, b1, kt, a5, b5, c1, mk, z10, z00, a3, b3, un, vn, uc, vc, e1, e2, f1.trans (eq_false d1)]
  · rw [if_neg (fun z => c1 (al.mp z).1.symm)]
    simp only [chk_p, lt_p, bd_p, bc_p, oc_n, oc_s, and_self, and_true, true_and, if_true, if_false, isO_sA', isO_sB', isO_rA', hlen_sA, hlen_sB, hlen_rA, hR_sA, hR_sB, hR_rA, Typ_sA', Typ_sB', Typ_rA', O17, r17_0, r17_3, r17_4, r17_5, r17_6, r17_7, O19, l19, t, pi, ci, pj, cj, a1, b1, kk.trans (eq_false c1)]
theorem x_lik2 {Φ : FM} (hw : WF Φ) {L i : Nat} (hL : 76 ≤ L) (hi : i < mN Φ) (K9 : Nat → Nat → Int32 → HS → Option ((Option Nat) × HS)) {σ : HS} (h : LL σ Φ L i) : ∀ d j, j + d = i → ∀ nf, d < nf → lp_X0_likenessIn_19 K9 nf 17 L (nI i) (nI j) σ = K9 17 L (nI (i + 1)) (sA σ L i (nI (lkF Φ i d j))) := by
  have w60 := hw.2.1
  obtain ⟨t, hT, h1, h2, h3⟩ := h
  have h1' := eq_true h1
  have pn := inbE (i := i) (n := mN Φ) hi (by omega)
  have ci := cl1000 (i := i) (by omega)
  intro d
  induction d with
  | zero =>
    intro j hj nf hnf
    obtain ⟨nf, rfl⟩ : ∃ k, nf = k + 1 := ⟨nf - 1, by omega⟩
    have : j = i := by omega
    subst this
    have le : (nI j ≤ nI j) = True := eq_true (Int32.le_refl _)
    show lp_X0_likenessIn_19_b K9 (lp_X0_likenessIn_19 K9 nf) 17 L (nI j) (nI j) σ = _
    unfold lp_X0_likenessIn_19_b
    simp only [chk_p, lt_p, bd_p, bc_p, oc_n, oc_s, and_self, and_true, true_and, if_true, if_false, isO_sA', isO_sB', isO_rA', hlen_sA, hlen_sB, hlen_rA, hR_sA, hR_sB, hR_rA, Typ_sA', Typ_sB', Typ_rA', le, h1', h2, pn, ci, nI_s]
    rfl
  | succ d ih =>
    intro j hj nf hnf
    obtain ⟨nf, rfl⟩ : ∃ k, nf = k + 1 := ⟨nf - 1, by omega⟩
    have le := nle (a := i) (b := j) (by omega) (by omega)
    have rfle := fun a : Nat => eq_true (Nat.le_refl a)
    have al := xal_ok hw ⟨t, hT, h1, h2, h3⟩ (j := j) (by omega) hi
    rw [show lkF Φ i (d + 1) j = (if alF Φ i j = true then j else lkF Φ i d (j + 1)) from rfl]
    show lp_X0_likenessIn_19_b K9 (lp_X0_likenessIn_19 K9 nf) 17 L (nI i) (nI j) σ = _
    unfold lp_X0_likenessIn_19_b
    have z10 : ((1 : Int32) = 0) = False := eq_false (by decide)
    have z00 : ((0 : Int32) = 0) = True := eq_true rfl
    by_cases c : alF Φ i j = true
    · rw [if_pos c] at al ⊢
      simp only [chk_p, lt_p, bd_p, bc_p, oc_n, oc_s, and_self, and_true, true_and, if_true, if_false, isO_sA', isO_sB', isO_rA', hlen_sA, hlen_sB, hlen_rA, hR_sA, hR_sB, hR_rA, Typ_sA', Typ_sB', Typ_rA', le, al, z10, rfle, h1', h2, pn, ci, nI_s]
    · rw [if_neg c] at al ⊢
      simp only [chk_p, lt_p, bd_p, bc_p, oc_n, oc_s, and_self, and_true, true_and, if_true, if_false, isO_sA', isO_sB', isO_rA', hlen_sA, hlen_sB, hlen_rA, hR_sA, hR_sB, hR_rA, Typ_sA', Typ_sB', Typ_rA', le, al, z00, rfle, nI_s]
      exact ih (j + 1) (by omega) nf (by omega)
theorem x_lik1 {Φ : FM} (hw : WF Φ) {L : Nat} (hL : 76 ≤ L) : ∀ d i (σ : HS), i + d = mN Φ → LL σ Φ L i → ∀ nf, d < nf → ∃ σ', lp_X0_likenessIn_9 nf 17 L (nI i) σ = some (some L, σ') ∧ EX L σ σ' ∧ hN σ' = hN σ ∧ LL σ' Φ L (mN Φ) := by
  have w60 := hw.2.1
  intro d
  induction d with
  | zero =>
    intro i σ hd h nf hnf
    obtain ⟨nf, rfl⟩ : ∃ k, nf = k + 1 := ⟨nf - 1, by omega⟩
    have : i = mN Φ := by omega
    subst this
    have t := h.1
    have le : (nI (mN Φ) ≤ nI (mN Φ)) = True := eq_true (Int32.le_refl _)
    refine ⟨σ, ?_, EX.rf, rfl, h⟩
    show lp_X0_likenessIn_9_b (lp_X0_likenessIn_9 nf) 17 L (nI (mN Φ)) σ = _
    unfold lp_X0_likenessIn_9_b
    simp only [chk_p, lt_p, bd_p, bc_p, oc_n, oc_s, and_self, and_true, true_and, if_true, if_false, isO_sA', isO_sB', isO_rA', hlen_sA, hlen_sB, hlen_rA, hR_sA, hR_sB, hR_rA, Typ_sA', Typ_sB', Typ_rA', O17, r17_0, r17_3, r17_4, r17_5, r17_6, r17_7, t, h.2.1.1, le]
  | succ d ih =>
    intro i σ hd h nf hnf
    obtain ⟨nf, rfl⟩ : ∃ k, nf = k + 1 := ⟨nf - 1, by omega⟩
    have hi : i < mN Φ := by omega
    have t := h.1
    have le := nle (a := mN Φ) (b := i) (by omega) (by omega)
    obtain ⟨σ', e1, e2, e3, e4⟩ := ih (i + 1) (sA σ L i (nI (lik Φ i))) (by omega) ⟨t, (EX_sA (Nat.le_refl L)).tpr hL h.2.1, h.2.2.1, h.2.2.2.1, fun x hx => by
      rw [hA_sA]
      by_cases z : x = i
      · rw [if_pos ⟨rfl, z⟩, z]
      · rw [if_neg (fun y => z y.2)]; exact h.2.2.2.2 x (by omega)⟩ nf (by omega)
    refine ⟨σ', ?_, (EX_sA (Nat.le_refl L)).seq e2, e3, e4⟩
    show lp_X0_likenessIn_9_b (lp_X0_likenessIn_9 nf) 17 L (nI i) σ = _
    unfold lp_X0_likenessIn_9_b
    rw [chk_p (o17 t), h.2.1.1, lt_p, if_neg (of_eq_false le), lt_p]
    exact (x_lik2 hw hL hi (lp_X0_likenessIn_9 nf) h i 0 (by omega) 1000 (by omega)).trans e1
theorem x_lik {Φ : FM} (hw : WF Φ) {σ : HS} (t : Typ σ) (hT : TPr σ Φ) : ∃ σ', f_X0_likenessIn 17 σ = some (some (hN σ), σ') ∧ EX (hN σ) σ σ' ∧ hN σ' = hN σ + 1 ∧ LL σ' Φ (hN σ) (mN Φ) := by
  have w60 := hw.2.1
  have n0 : ¬ nI (mN Φ) < 0 := by rw [i_lt, nT (by omega), z320]; omega
  have c := cl1000 (i := mN Φ) (by omega)
  have x0 : EX (hN σ) σ (nw σ 10 (mN Φ)) := EX_nw (Nat.le_refl _)
  obtain ⟨σ', e1, e2, e3, e4⟩ := x_lik1 hw (L := hN σ) t.1 (mN Φ) 0 (nw σ 10 (mN Φ)) (by omega) ⟨x0.typ t.1 t, x0.tpr t.1 hT, ⟨Nat.lt_succ_self _, nw_ty _ _ _⟩, nw_len _ _ _, fun x _ => by omega⟩ 1000 (by omega)
  refine ⟨σ', ?_, x0.seq e2, e3, e4⟩
  unfold f_X0_likenessIn
  rw [chk_p (o17 t), hT.1, lt_p, chk_p ⟨n0, by rw [c]; exact w60⟩, lt_p, c, lt_p, lt_p]
  exact e1
theorem x_unl1 {Φ : FM} (hw : WF Φ) {L : Nat} {σ : HS} (h1 : isO σ 10 L) (h2 : hlen σ L = mN Φ) (h3 : ∀ x, x < mN Φ → hA σ L x = nI (lik Φ x)) : ∀ d i, i + d = mN Φ → ∀ nf, d < nf → lp_X0_unlikeIn_4 nf L (nI (cntB (fun i => allB (fun j => !(alF Φ i j)) i) i)) (nI i) σ = some (nI (unlN Φ), σ) := by
  have w60 := hw.2.1
  have h1' := eq_true h1
  have hn : Int32.ofNat (mN Φ) = nI (mN Φ) := rfl
  intro d
  induction d with
  | zero =>
    intro i hd nf hnf
    obtain ⟨nf, rfl⟩ : ∃ k, nf = k + 1 := ⟨nf - 1, by omega⟩
    have : i = mN Φ := by omega
    subst this
    have le : (nI (mN Φ) ≤ nI (mN Φ)) = True := eq_true (Int32.le_refl _)
    show lp_X0_unlikeIn_4_b (lp_X0_unlikeIn_4 nf) L _ (nI (mN Φ)) σ = _
    unfold lp_X0_unlikeIn_4_b
    simp only [chk_p, lt_p, bd_p, bc_p, oc_n, oc_s, and_self, and_true, true_and, if_true, if_false, isO_sA', isO_sB', isO_rA', hlen_sA, hlen_sB, hlen_rA, hR_sA, hR_sB, hR_rA, Typ_sA', Typ_sB', Typ_rA', h1', h2, hn, le]
    rfl
  | succ d ih =>
    intro i hd nf hnf
    obtain ⟨nf, rfl⟩ : ∃ k, nf = k + 1 := ⟨nf - 1, by omega⟩
    have hi : i < mN Φ := by omega
    have le := nle (a := mN Φ) (b := i) (by omega) (by omega)
    have pn := inbE (i := i) (n := mN Φ) hi (by omega)
    have ci := cl1000 (i := i) (by omega)
    have l0 := (lik_ok hw hi).1
    have ee : (nI (lik Φ i) = nI i) = (lik Φ i = i) := nE (by omega) (by omega)
    have g := ih (i + 1) (by omega) nf (by omega)
    have hv := h3 i hi
    have ls := lik_self hw hi
    rw [← g]
    show lp_X0_unlikeIn_4_b (lp_X0_unlikeIn_4 nf) L _ (nI i) σ = lp_X0_unlikeIn_4 nf L (nI (cntB (fun i => allB (fun j => !(alF Φ i j)) i) i + (if allB (fun j => !(alF Φ i j)) i = true then 1 else 0))) (nI (i + 1)) σ
    unfold lp_X0_unlikeIn_4_b
    by_cases c : lik Φ i = i
    · rw [if_pos (ls.mp c)]
      simp only [chk_p, lt_p, bd_p, bc_p, oc_n, oc_s, and_self, and_true, true_and, if_true, if_false, isO_sA', isO_sB', isO_rA', hlen_sA, hlen_sB, hlen_rA, hR_sA, hR_sB, hR_rA, Typ_sA', Typ_sB', Typ_rA', h1', h2, hn, le, pn, ci, hv, ee.trans (eq_true c), nI_s]
    · rw [if_neg (fun z => c (ls.mpr z))]
      simp only [chk_p, lt_p, bd_p, bc_p, oc_n, oc_s, and_self, and_true, true_and, if_true, if_false, isO_sA', isO_sB', isO_rA', hlen_sA, hlen_sB, hlen_rA, hR_sA, hR_sB, hR_rA, Typ_sA', Typ_sB', Typ_rA', h1', h2, hn, le, pn, ci, hv, ee.trans (eq_false c), nI_s, Int32.add_zero, Nat.add_zero]
theorem x_unl {Φ : FM} (hw : WF Φ) {L : Nat} {σ : HS} (h1 : isO σ 10 L) (h2 : hlen σ L = mN Φ) (h3 : ∀ x, x < mN Φ → hA σ L x = nI (lik Φ x)) : f_X0_unlikeIn L σ = some (nI (unlN Φ), σ) := by
  have w60 := hw.2.1
  exact x_unl1 hw h1 h2 h3 (mN Φ) 0 (by omega) 1000 (by omega)
def LM (σ : HS) (Φ : FM) (L M i : Nat) : Prop := (isO σ 10 L ∧ hlen σ L = mN Φ ∧ ∀ x, x < mN Φ → hA σ L x = nI (lik Φ x)) ∧ isO σ 10 M ∧ hlen σ M = mN Φ ∧ ∀ x, x < mN Φ → hA σ M x = nI (clk Φ i x)
theorem x_mal1 {Φ : FM} (hw : WF Φ) {L M : Nat} (hLM : L < M) : ∀ d i (σ : HS), i + d = mN Φ → LM σ Φ L M i → ∀ nf, d < nf → ∃ σ', lp_X0_mostAlikeIn_16 nf L M (nI (maxN (clk Φ i) (mN Φ))) L (nI (mN Φ)) (nI i) σ = some (nI (malN Φ), σ') ∧ EX M σ σ' ∧ hN σ' = hN σ := by
  have w60 := hw.2.1
  intro d
  induction d with
  | zero =>
    intro i σ hd h nf hnf
    obtain ⟨nf, rfl⟩ : ∃ k, nf = k + 1 := ⟨nf - 1, by omega⟩
    have : i = mN Φ := by omega
    subst this
    have le : (nI (mN Φ) ≤ nI (mN Φ)) = True := eq_true (Int32.le_refl _)
    refine ⟨σ, ?_, EX.rf, rfl⟩
    show lp_X0_mostAlikeIn_16_b (lp_X0_mostAlikeIn_16 nf) L M _ L (nI (mN Φ)) (nI (mN Φ)) σ = _
    unfold lp_X0_mostAlikeIn_16_b
    rw [if_pos (of_eq_true le), mal_cl hw]
  | succ d ih =>
    intro i σ hd h nf hnf
    obtain ⟨nf, rfl⟩ : ∃ k, nf = k + 1 := ⟨nf - 1, by omega⟩
    obtain ⟨⟨h1, h2, h3⟩, h4, h5, h6⟩ := h
    have h1' := eq_true h1
    have h4' := eq_true h4
    have hi : i < mN Φ := by omega
    have le := nle (a := mN Φ) (b := i) (by omega) (by omega)
    have pn := inbE (i := i) (n := mN Φ) hi (by omega)
    have ci := cl1000 (i := i) (by omega)
    have l0 := (lik_ok hw hi).1
    have ln := inbE (i := lik Φ i) (n := mN Φ) (by omega) (by omega)
    have lc := cl1000 (i := lik Φ i) (by omega)
    have hv := h3 i hi
    have hm := h6 (lik Φ i) (by omega)
    have up := max_up (w := clk Φ i) (v := clk Φ (i + 1)) (j := lik Φ i) (fun x hx => by rw [cl_s, if_neg hx]) (by rw [cl_s, if_pos rfl]; omega) (mN Φ) (by omega)
    have b1 : maxN (clk Φ i) (mN Φ) ≤ 60 := maxN_ub _ (fun x _ => by have := cntB_lt (fun y => decide (lik Φ y = x)) i; show cntB _ i ≤ 60; omega)
    have b2 : clk Φ (i + 1) (lik Φ i) ≤ 61 := by have := cntB_lt (fun y => decide (lik Φ y = lik Φ i)) (i + 1); show cntB _ (i + 1) ≤ 61; omega
    have mx := nI_max (a := maxN (clk Φ i) (mN Φ)) (b := clk Φ (i + 1) (lik Φ i)) (by omega) (by omega)
    have sc : clk Φ i (lik Φ i) + 1 = clk Φ (i + 1) (lik Φ i) := by rw [cl_s, if_pos rfl]
    obtain ⟨σ', e1, e2, e3⟩ := ih (i + 1) (sA σ M (lik Φ i) (nI (clk Φ (i + 1) (lik Φ i)))) (by omega) ⟨⟨h1, h2, fun x hx => by rw [hA_sA, if_neg (by omega)]; exact h3 x hx⟩, h4, h5, fun x hx => by
      rw [hA_sA]
      by_cases z : x = lik Φ i
      · rw [if_pos ⟨rfl, z⟩, z]
      · rw [if_neg (fun y => z y.2), cl_s, if_neg z]; exact h6 x hx⟩ nf (by omega)
    refine ⟨σ', ?_, (EX_sA (Nat.le_refl M)).seq e2, e3⟩
    rw [up] at e1
    show lp_X0_mostAlikeIn_16_b (lp_X0_mostAlikeIn_16 nf) L M _ L (nI (mN Φ)) (nI i) σ = _
    unfold lp_X0_mostAlikeIn_16_b
    simp only [chk_p, lt_p, bd_p, bc_p, oc_n, oc_s, and_self, and_true, true_and, if_true, if_false, isO_sA', isO_sB', isO_rA', hlen_sA, hlen_sB, hlen_rA, hR_sA, hR_sB, hR_rA, Typ_sA', Typ_sB', Typ_rA', le, h1', h2, h4', h5, pn, ci, hv, ln, lc, hm, nI_s, sc, hA_sA, mx]
    exact e1
theorem x_mal {Φ : FM} (hw : WF Φ) {L : Nat} {σ : HS} (h1 : isO σ 10 L) (h2 : hlen σ L = mN Φ) (h3 : ∀ x, x < mN Φ → hA σ L x = nI (lik Φ x)) : ∃ σ', f_X0_mostAlikeIn L σ = some (nI (malN Φ), σ') ∧ EX (hN σ) σ σ' ∧ hN σ' = hN σ + 1 := by
  have w60 := hw.2.1
  have n0 : ¬ nI (mN Φ) < 0 := by rw [i_lt, nT (by omega), z320]; omega
  have c := cl1000 (i := mN Φ) (by omega)
  have x0 : EX (hN σ) σ (nw σ 10 (mN Φ)) := EX_nw (Nat.le_refl _)
  have z0 : maxN (clk Φ 0) (mN Φ) = 0 := Nat.le_zero.mp (maxN_ub _ (fun x _ => Nat.le_refl _))
  obtain ⟨σ', e1, e2, e3⟩ := x_mal1 hw (L := L) (M := hN σ) h1.1 (mN Φ) 0 (nw σ 10 (mN Φ)) (by omega) ⟨⟨x0.isO h1.1 h1, (x0.len h1.1).trans h2, fun x hx => (x0.A h1.1 x).trans (h3 x hx)⟩, ⟨Nat.lt_succ_self _, nw_ty _ _ _⟩, nw_len _ _ _, fun x _ => by rw [nw_A]; rfl⟩ 1000 (by omega)
  refine ⟨σ', ?_, x0.seq e2, e3⟩
  have hl := (x0.len h1.1).trans h2
  unfold f_X0_mostAlikeIn
  rw [chk_p h1, h2, lt_p, show Int32.ofNat (mN Φ) = nI (mN Φ) from rfl, chk_p ⟨n0, by rw [c]; exact w60⟩, lt_p, c, lt_p, lt_p, hl, lt_p, lt_p]
  rw [z0] at e1
  exact e1
