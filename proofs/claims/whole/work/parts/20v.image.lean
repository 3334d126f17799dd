/-! image, undo -/
def cpy (σ : HS) (a b n : Nat) : HS := rA σ b (va_cpy (hA σ a) (hA σ b) 0 0 n)
theorem hA_cpy (σ : HS) (a b n x k : Nat) : hA (cpy σ a b n) x k = if x = b then (if k < n then hA σ a k else hA σ b k) else hA σ x k := by
  unfold cpy
  rw [hA_rA]
  by_cases e : x = b
  · rw [if_pos e, if_pos e]
    unfold va_cpy
    by_cases e2 : k < n
    · rw [if_pos (by omega), if_pos e2]; congr 1; omega
    · rw [if_neg (by omega), if_neg e2]
  · rw [if_neg e, if_neg e]
theorem hB_cpy (σ : HS) (a b n x k : Nat) : hB (cpy σ a b n) x k = hB σ x k := rfl
theorem hR_cpy (σ : HS) (a b n x k : Nat) : hR (cpy σ a b n) x k = hR σ x k := rfl
theorem hlen_cpy (σ : HS) (a b n x : Nat) : hlen (cpy σ a b n) x = hlen σ x := rfl
theorem isO_cpy (σ : HS) (a b n t x : Nat) : isO (cpy σ a b n) t x = isO σ t x := rfl
theorem Typ_cpy (σ : HS) (a b n : Nat) : Typ (cpy σ a b n) = Typ σ := rfl
theorem cpy6 (σ : HS) (a b : Nat) : rA σ b (va_cpy (hA σ a) (hA σ b) (0 : Int32).toNatClampNeg (0 : Int32).toNatClampNeg (6 : Int32).toNatClampNeg) = cpy σ a b 6 := rfl
theorem cpy8 (σ : HS) (a b : Nat) : rA σ b (va_cpy (hA σ a) (hA σ b) (0 : Int32).toNatClampNeg (0 : Int32).toNatClampNeg (8 : Int32).toNatClampNeg) = cpy σ a b 8 := rfl
theorem KL_cpy {S qs ts : List Nat} {σ : HS} {a b n : Nat} (hs : lows S = true) (ht : tsok ts = true) (hj : S.contains b = true) (h48 : b ≠ 48) : KL S qs ts σ (cpy σ a b n) := KL_rA hs ht hj h48
theorem copies_ok {σ : HS} {a b la lb n : Nat} {w : Int32} (ha : isO σ 10 a) (hb : isO σ 10 b) (l1 : hlen σ a = la) (l2 : hlen σ b = lb) (hw : w = nI n) (hn : n < 1000) (h1 : n ≤ la) (h2 : n ≤ lb) : f_X6_copies a b w σ = some ((), cpy σ a b n) := by
  subst hw
  have c := cl1000 (i := n) hn
  have n0 : ¬ nI n < 0 := by rw [i_lt, nT hn, z320]; omega
  have z0 : (0 : Int32).toNatClampNeg = 0 := rfl
  have ha := eq_true ha
  have hb := eq_true hb
  unfold f_X6_copies
  simp (decide := true) only [ha, hb, l1, l2, c, n0, z0, Nat.zero_add, h1, h2, chk_p, lt_p, bd_p, bc_p, oc_n, oc_s, and_self, and_true, true_and, if_true, if_false, isO_sA', isO_sB', isO_rA', hlen_sA, hlen_sB, hlen_rA, hR_sA, hR_sB, hR_rA, Typ_sA', Typ_sB', Typ_rA', not_false_iff]
  rfl
theorem hN_cpy (σ : HS) (a b n : Nat) : hN (cpy σ a b n) = hN σ := rfl
theorem bl9_lp {E : Nat → Option Nat} : ∀ (d i : Nat) (σ : HS), Typ σ → (∀ k, k < 6 → okF σ (E k) = true ∧ hR σ 5 k = E k) → (∀ k, k < i → hR σ 13 k = E k) → i + d = 6 → ∀ nf, d < nf → ∃ σ', lp_X2_becomeLike_47 nf 9 1 (nI i) σ = some ((), σ') ∧ KL [9, 10, 11, 12, 14, 15, 16] [] [13] σ σ' ∧ hN σ' = hN σ ∧ (∀ k, k < 6 → hR σ' 13 k = E k) ∧ (∀ k, hA σ' 10 k = hA σ 10 k ∧ hA σ' 11 k = hA σ 11 k ∧ hA σ' 12 k = hA σ 12 k) ∧ hA σ' 9 4 = hA σ 1 4 ∧ hA σ' 9 8 = hA σ 1 8 ∧ ∀ k, k < 8 → hA σ' 14 k = hA σ 6 k ∧ hA σ' 15 k = hA σ 7 k ∧ hA σ' 16 k = hA σ 8 k := by
  intro d
  induction d with
  | zero =>
    intro i σ t hE hi' he nf hnf
    obtain ⟨nf, rfl⟩ : ∃ k, nf = k + 1 := ⟨nf - 1, by omega⟩
    have hi : i = 6 := by omega
    subst hi
    refine ⟨sA (cpy (cpy (cpy (sA σ 9 4 (hA σ 1 4)) 6 14 8) 7 15 8) 8 16 8) 9 8 (hA σ 1 8), ?_, ((((KL_sA (by decide) (by decide) (by decide) (by decide)).seq (KL_cpy (by decide) (by decide) (by decide) (by decide))).seq (KL_cpy (by decide) (by decide) (by decide) (by decide))).seq (KL_cpy (by decide) (by decide) (by decide) (by decide))).seq (KL_sA (by decide) (by decide) (by decide) (by decide)), rfl, fun k hk => hi' k hk, fun k => ⟨?_, ?_, ?_⟩, ?_, ?_, fun k hk => ⟨?_, ?_, ?_⟩⟩
    · show lp_X2_becomeLike_47_b (lp_X2_becomeLike_47 nf) 9 1 (nI 6) σ = _
      unfold lp_X2_becomeLike_47_b
      rw [if_pos (by decide)]
      simp (decide := true) only [chk_p, lt_p, bd_p, bc_p, oc_n, oc_s, and_self, and_true, true_and, if_true, if_false, isO_sA', isO_sB', isO_rA', hlen_sA, hlen_sB, hlen_rA, hR_sA, hR_sB, hR_rA, Typ_sA', Typ_sB', Typ_rA', O1, r1_0, r1_1, r1_2, r1_3, r1_5, r1_6, r1_7, O6, l6, O7, l7, O8, l8, O9, r9_0, r9_1, r9_2, r9_3, r9_5, r9_6, r9_7, O14, l14, O15, l15, O16, l16, t, cpy8, isO_cpy, hlen_cpy, Typ_cpy, hR_cpy, hA_cpy, hA_sA, not_false_iff, if_false, false_and, and_false]
    all_goals first | simp (decide := true) only [hA_sA, hA_cpy, hk, if_true, if_false, false_and, and_false, and_self] | simp (decide := true) only [hA_sA, hA_cpy, if_true, if_false, false_and, and_false, and_self]
  | succ d ih =>
    intro i σ t hE hi' he nf hnf
    obtain ⟨nf, rfl⟩ : ∃ k, nf = k + 1 := ⟨nf - 1, by omega⟩
    have t1 : Typ (sR σ 13 i (hR σ 5 i)) := of_eq_true (Typ_sR13 t)
    have ok : ∀ o, okF (sR σ 13 i (hR σ 5 i)) o = okF σ o := fun o => rfl
    obtain ⟨σ', e1, e2, e2', e3, e4, e5, e6, e7⟩ := ih (i + 1) (sR σ 13 i (hR σ 5 i)) t1 (fun k hk => ⟨(ok _).trans (hE k hk).1, by rw [hR_sR, if_neg (by omega)]; exact (hE k hk).2⟩) (fun k hk => by
      rw [hR_sR]
      by_cases e : k = i
      · subst e; rw [if_pos ⟨rfl, rfl⟩]; exact (hE k (by omega)).2
      · rw [if_neg (by omega)]; exact hi' k (by omega)) (by omega) nf (by omega)
    refine ⟨σ', ?_, (KL_sR (by decide) (by decide) (by decide) (by rw [(o13 t).2]; decide)).seq e2, e2', e3, e4, e5, e6, e7⟩
    show lp_X2_becomeLike_47_b (lp_X2_becomeLike_47 nf) 9 1 (nI i) σ = _
    unfold lp_X2_becomeLike_47_b
    have le : (6 : Int32) ≤ nI i ↔ False := by rw [show (6 : Int32) = nI 6 from rfl, nle (a := 6) (b := i) (by omega) (by omega)]
    have le := eq_false (fun z => le.mp z)
    have ie := inbE (i := i) (n := 6) (by omega) (by omega)
    have ci := cl1000 (i := i) (by omega)
    have og : okF σ (hR σ 5 i) = true := by rw [(hE i (by omega)).2]; exact (hE i (by omega)).1
    simp only [le, if_false, chk_p, lt_p, bd_p, bc_p, oc_n, oc_s, and_self, and_true, true_and, if_true, if_false, isO_sA', isO_sB', isO_rA', hlen_sA, hlen_sB, hlen_rA, hR_sA, hR_sB, hR_rA, Typ_sA', Typ_sB', Typ_rA', O1, r1_0, r1_1, r1_2, r1_3, r1_5, r1_6, r1_7, O9, r9_0, r9_1, r9_2, r9_3, r9_5, r9_6, r9_7, O5, l5, O13, l13, t, ie, ci, og, nI_s, e1]
theorem bl9_ok {σ : HS} (t : Typ σ) (hE : ∀ k, k < 6 → okF σ (hR σ 5 k) = true) : ∃ σ', f_X2_becomeLike 9 1 σ = some ((), σ') ∧ KL [9, 10, 11, 12, 14, 15, 16] [] [13] σ σ' ∧ hN σ' = hN σ ∧ (∀ k, k < 6 → hR σ' 13 k = hR σ 5 k) ∧ (∀ k, k < 6 → hA σ' 10 k = hA σ 2 k ∧ hA σ' 11 k = hA σ 3 k ∧ hA σ' 12 k = hA σ 4 k) ∧ hA σ' 9 4 = hA σ 1 4 ∧ hA σ' 9 8 = hA σ 1 8 ∧ ∀ k, k < 8 → hA σ' 14 k = hA σ 6 k ∧ hA σ' 15 k = hA σ 7 k ∧ hA σ' 16 k = hA σ 8 k := by
  obtain ⟨σ', e1, e2, e2', e3, e4, e5, e6, e7⟩ := bl9_lp (E := fun k => hR σ 5 k) 6 0 (cpy (cpy (cpy σ 2 10 6) 3 11 6) 4 12 6) t (fun k hk => ⟨hE k hk, rfl⟩) (fun k hk => by omega) (by omega) 1000 (by omega)
  refine ⟨σ', ?_, (((KL_cpy (by decide) (by decide) (by decide) (by decide)).seq (KL_cpy (by decide) (by decide) (by decide) (by decide))).seq (KL_cpy (by decide) (by decide) (by decide) (by decide))).seq e2, e2', e3, fun k hk => ?_, ?_, ?_, fun k hk => ?_⟩
  · unfold f_X2_becomeLike
    simp (decide := true) only [chk_p, lt_p, bd_p, bc_p, oc_n, oc_s, and_self, and_true, true_and, if_true, if_false, isO_sA', isO_sB', isO_rA', hlen_sA, hlen_sB, hlen_rA, hR_sA, hR_sB, hR_rA, Typ_sA', Typ_sB', Typ_rA', O1, r1_0, r1_1, r1_2, r1_3, r1_5, r1_6, r1_7, O2, l2, O3, l3, O4, l4, O9, r9_0, r9_1, r9_2, r9_3, r9_5, r9_6, r9_7, O10, l10, O11, l11, O12, l12, t, cpy6, isO_cpy, hlen_cpy, Typ_cpy, hR_cpy, not_false_iff]
    exact e1
  · obtain ⟨a, b, c⟩ := e4 k
    rw [a, b, c]
    simp (decide := true) only [hA_cpy, hk, if_true, if_false, and_self]
  · rw [e5]; simp (decide := true) only [hA_cpy, if_false]
  · rw [e6]; simp (decide := true) only [hA_cpy, if_false]
  · obtain ⟨a, b, c⟩ := e7 k hk
    rw [a, b, c]
    simp (decide := true) only [hA_cpy, if_false, and_self]
theorem bl1_lp {E : Nat → Option Nat} : ∀ (d i : Nat) (σ : HS), Typ σ → (∀ k, k < 6 → okF σ (E k) = true ∧ hR σ 13 k = E k) → (∀ k, k < i → hR σ 5 k = E k) → i + d = 6 → ∀ nf, d < nf → ∃ σ', lp_X2_becomeLike_47 nf 1 9 (nI i) σ = some ((), σ') ∧ KL [1, 2, 3, 4, 6, 7, 8] [] [5] σ σ' ∧ hN σ' = hN σ ∧ (∀ k, k < 6 → hR σ' 5 k = E k) ∧ (∀ k, hA σ' 2 k = hA σ 2 k ∧ hA σ' 3 k = hA σ 3 k ∧ hA σ' 4 k = hA σ 4 k) ∧ hA σ' 1 4 = hA σ 9 4 ∧ hA σ' 1 8 = hA σ 9 8 ∧ ∀ k, k < 8 → hA σ' 6 k = hA σ 14 k ∧ hA σ' 7 k = hA σ 15 k ∧ hA σ' 8 k = hA σ 16 k := by
  intro d
  induction d with
  | zero =>
    intro i σ t hE hi' he nf hnf
    obtain ⟨nf, rfl⟩ : ∃ k, nf = k + 1 := ⟨nf - 1, by omega⟩
    have hi : i = 6 := by omega
    subst hi
    refine ⟨sA (cpy (cpy (cpy (sA σ 1 4 (hA σ 9 4)) 14 6 8) 15 7 8) 16 8 8) 1 8 (hA σ 9 8), ?_, ((((KL_sA (by decide) (by decide) (by decide) (by decide)).seq (KL_cpy (by decide) (by decide) (by decide) (by decide))).seq (KL_cpy (by decide) (by decide) (by decide) (by decide))).seq (KL_cpy (by decide) (by decide) (by decide) (by decide))).seq (KL_sA (by decide) (by decide) (by decide) (by decide)), rfl, fun k hk => hi' k hk, fun k => ⟨?_, ?_, ?_⟩, ?_, ?_, fun k hk => ⟨?_, ?_, ?_⟩⟩
    · show lp_X2_becomeLike_47_b (lp_X2_becomeLike_47 nf) 1 9 (nI 6) σ = _
      unfold lp_X2_becomeLike_47_b
      rw [if_pos (by decide)]
      simp (decide := true) only [chk_p, lt_p, bd_p, bc_p, oc_n, oc_s, and_self, and_true, true_and, if_true, if_false, isO_sA', isO_sB', isO_rA', hlen_sA, hlen_sB, hlen_rA, hR_sA, hR_sB, hR_rA, Typ_sA', Typ_sB', Typ_rA', O9, r9_0, r9_1, r9_2, r9_3, r9_5, r9_6, r9_7, O14, l14, O15, l15, O16, l16, O1, r1_0, r1_1, r1_2, r1_3, r1_5, r1_6, r1_7, O6, l6, O7, l7, O8, l8, t, cpy8, isO_cpy, hlen_cpy, Typ_cpy, hR_cpy, hA_cpy, hA_sA, not_false_iff, if_false, false_and, and_false]
    all_goals first | simp (decide := true) only [hA_sA, hA_cpy, hk, if_true, if_false, false_and, and_false, and_self] | simp (decide := true) only [hA_sA, hA_cpy, if_true, if_false, false_and, and_false, and_self]
  | succ d ih =>
    intro i σ t hE hi' he nf hnf
    obtain ⟨nf, rfl⟩ : ∃ k, nf = k + 1 := ⟨nf - 1, by omega⟩
    have t1 : Typ (sR σ 5 i (hR σ 13 i)) := of_eq_true (Typ_sR5 t)
    have ok : ∀ o, okF (sR σ 5 i (hR σ 13 i)) o = okF σ o := fun o => rfl
    obtain ⟨σ', e1, e2, e2', e3, e4, e5, e6, e7⟩ := ih (i + 1) (sR σ 5 i (hR σ 13 i)) t1 (fun k hk => ⟨(ok _).trans (hE k hk).1, by rw [hR_sR, if_neg (by omega)]; exact (hE k hk).2⟩) (fun k hk => by
      rw [hR_sR]
      by_cases e : k = i
      · subst e; rw [if_pos ⟨rfl, rfl⟩]; exact (hE k (by omega)).2
      · rw [if_neg (by omega)]; exact hi' k (by omega)) (by omega) nf (by omega)
    refine ⟨σ', ?_, (KL_sR (by decide) (by decide) (by decide) (by rw [(o5 t).2]; decide)).seq e2, e2', e3, e4, e5, e6, e7⟩
    show lp_X2_becomeLike_47_b (lp_X2_becomeLike_47 nf) 1 9 (nI i) σ = _
    unfold lp_X2_becomeLike_47_b
    have le : (6 : Int32) ≤ nI i ↔ False := by rw [show (6 : Int32) = nI 6 from rfl, nle (a := 6) (b := i) (by omega) (by omega)]
    have le := eq_false (fun z => le.mp z)
    have ie := inbE (i := i) (n := 6) (by omega) (by omega)
    have ci := cl1000 (i := i) (by omega)
    have og : okF σ (hR σ 13 i) = true := by rw [(hE i (by omega)).2]; exact (hE i (by omega)).1
    simp only [le, if_false, chk_p, lt_p, bd_p, bc_p, oc_n, oc_s, and_self, and_true, true_and, if_true, if_false, isO_sA', isO_sB', isO_rA', hlen_sA, hlen_sB, hlen_rA, hR_sA, hR_sB, hR_rA, Typ_sA', Typ_sB', Typ_rA', O9, r9_0, r9_1, r9_2, r9_3, r9_5, r9_6, r9_7, O1, r1_0, r1_1, r1_2, r1_3, r1_5, r1_6, r1_7, O13, l13, O5, l5, t, ie, ci, og, nI_s, e1]
theorem bl1_ok {σ : HS} (t : Typ σ) (hE : ∀ k, k < 6 → okF σ (hR σ 13 k) = true) : ∃ σ', f_X2_becomeLike 1 9 σ = some ((), σ') ∧ KL [1, 2, 3, 4, 6, 7, 8] [] [5] σ σ' ∧ hN σ' = hN σ ∧ (∀ k, k < 6 → hR σ' 5 k = hR σ 13 k) ∧ (∀ k, k < 6 → hA σ' 2 k = hA σ 10 k ∧ hA σ' 3 k = hA σ 11 k ∧ hA σ' 4 k = hA σ 12 k) ∧ hA σ' 1 4 = hA σ 9 4 ∧ hA σ' 1 8 = hA σ 9 8 ∧ ∀ k, k < 8 → hA σ' 6 k = hA σ 14 k ∧ hA σ' 7 k = hA σ 15 k ∧ hA σ' 8 k = hA σ 16 k := by
  obtain ⟨σ', e1, e2, e2', e3, e4, e5, e6, e7⟩ := bl1_lp (E := fun k => hR σ 13 k) 6 0 (cpy (cpy (cpy σ 10 2 6) 11 3 6) 12 4 6) t (fun k hk => ⟨hE k hk, rfl⟩) (fun k hk => by omega) (by omega) 1000 (by omega)
  refine ⟨σ', ?_, (((KL_cpy (by decide) (by decide) (by decide) (by decide)).seq (KL_cpy (by decide) (by decide) (by decide) (by decide))).seq (KL_cpy (by decide) (by decide) (by decide) (by decide))).seq e2, e2', e3, fun k hk => ?_, ?_, ?_, fun k hk => ?_⟩
  · unfold f_X2_becomeLike
    simp (decide := true) only [chk_p, lt_p, bd_p, bc_p, oc_n, oc_s, and_self, and_true, true_and, if_true, if_false, isO_sA', isO_sB', isO_rA', hlen_sA, hlen_sB, hlen_rA, hR_sA, hR_sB, hR_rA, Typ_sA', Typ_sB', Typ_rA', O9, r9_0, r9_1, r9_2, r9_3, r9_5, r9_6, r9_7, O10, l10, O11, l11, O12, l12, O1, r1_0, r1_1, r1_2, r1_3, r1_5, r1_6, r1_7, O2, l2, O3, l3, O4, l4, t, cpy6, isO_cpy, hlen_cpy, Typ_cpy, hR_cpy, not_false_iff]
    exact e1
  · obtain ⟨a, b, c⟩ := e4 k
    rw [a, b, c]
    simp (decide := true) only [hA_cpy, hk, if_true, if_false, and_self]
  · rw [e5]; simp (decide := true) only [hA_cpy, if_false]
  · rw [e6]; simp (decide := true) only [hA_cpy, if_false]
  · obtain ⟨a, b, c⟩ := e7 k hk
    rw [a, b, c]
    simp (decide := true) only [hA_cpy, if_false, and_self]
theorem mimage_ok {σ : HS} (t : Typ σ) : ∃ σ', f_X6_image 48 σ = some (hA σ 48 7, σ') ∧ KL [50, 56, 57, 58, 59, 60, 72, 48] [13, 38, 14] [] σ σ' ∧ hN σ' = hN σ ∧ hA σ' 48 14 = 1 ∧ hA σ' 48 13 = hA σ 48 7 ∧ hA σ' 48 38 = hA σ 48 36 ∧ (∀ k, k < 18 → hA σ' 50 k = hA σ 49 k) ∧ (∀ k, k < 360 → hA σ' 56 k = hA σ 51 k) ∧ (∀ k, k < 360 → hA σ' 57 k = hA σ 52 k) ∧ (∀ k, k < 360 → hA σ' 58 k = hA σ 53 k) ∧ (∀ k, k < 360 → hA σ' 59 k = hA σ 54 k) ∧ (∀ k, k < 6 → hA σ' 60 k = hA σ 55 k) ∧ (∀ k, k < 24 → hA σ' 72 k = hA σ 71 k) := by
  have c0 := copies_ok (σ := σ) (a := 49) (b := 50) (n := 18) (w := 18) (o49 t) (o50 t) (l49 t) (l50 t) rfl (by decide) (by decide) (by decide)
  have c1 := copies_ok (σ := (cpy σ 49 50 18)) (a := 51) (b := 56) (n := 360) (w := 360) (o51 t) (o56 t) (l51 t) (l56 t) rfl (by decide) (by decide) (by decide)
  have c2 := copies_ok (σ := (cpy (cpy σ 49 50 18) 51 56 360)) (a := 52) (b := 57) (n := 360) (w := 360) (o52 t) (o57 t) (l52 t) (l57 t) rfl (by decide) (by decide) (by decide)
  have c3 := copies_ok (σ := (cpy (cpy (cpy σ 49 50 18) 51 56 360) 52 57 360)) (a := 53) (b := 58) (n := 360) (w := 360) (o53 t) (o58 t) (l53 t) (l58 t) rfl (by decide) (by decide) (by decide)
  have c4 := copies_ok (σ := (cpy (cpy (cpy (cpy σ 49 50 18) 51 56 360) 52 57 360) 53 58 360)) (a := 54) (b := 59) (n := 360) (w := 360) (o54 t) (o59 t) (l54 t) (l59 t) rfl (by decide) (by decide) (by decide)
  have c5 := copies_ok (σ := (cpy (cpy (cpy (cpy (cpy σ 49 50 18) 51 56 360) 52 57 360) 53 58 360) 54 59 360)) (a := 55) (b := 60) (n := 6) (w := 6) (o55 t) (o60 t) (l55 t) (l60 t) rfl (by decide) (by decide) (by decide)
  have c6 := copies_ok (σ := (cpy (cpy (cpy (cpy (cpy (cpy σ 49 50 18) 51 56 360) 52 57 360) 53 58 360) 54 59 360) 55 60 6)) (a := 71) (b := 72) (n := 24) (w := 24) (o71 t) (o72 t) (l71 t) (l72 t) rfl (by decide) (by decide) (by decide)
  refine ⟨sA (sA (sA (cpy (cpy (cpy (cpy (cpy (cpy (cpy σ 49 50 18) 51 56 360) 52 57 360) 53 58 360) 54 59 360) 55 60 6) 71 72 24) 48 13 (hA σ 48 7)) 48 38 (hA σ 48 36)) 48 14 1, ?_, ((((((((((KL_cpy (by decide) (by decide) (by decide) (by decide)).seq (KL_cpy (by decide) (by decide) (by decide) (by decide))).seq (KL_cpy (by decide) (by decide) (by decide) (by decide))).seq (KL_cpy (by decide) (by decide) (by decide) (by decide))).seq (KL_cpy (by decide) (by decide) (by decide) (by decide))).seq (KL_cpy (by decide) (by decide) (by decide) (by decide))).seq (KL_cpy (by decide) (by decide) (by decide) (by decide))).seq (KL_sA (by decide) (by decide) (by decide) (fun _ => by decide))).seq (KL_sA (by decide) (by decide) (by decide) (fun _ => by decide))).seq (KL_sA (by decide) (by decide) (by decide) (fun _ => by decide))), rfl, ?_, ?_, ?_, fun k hk => ?_, fun k hk => ?_, fun k hk => ?_, fun k hk => ?_, fun k hk => ?_, fun k hk => ?_, fun k hk => ?_⟩
  · unfold f_X6_image
    simp (decide := true) only [chk_p, lt_p, bd_p, bc_p, oc_n, oc_s, and_self, and_true, true_and, if_true, if_false, isO_sA', isO_sB', isO_rA', hlen_sA, hlen_sB, hlen_rA, hR_sA, hR_sB, hR_rA, Typ_sA', Typ_sB', Typ_rA', O48, r48_0, r48_1, r48_2, r48_3, r48_4, r48_5, r48_6, r48_8, r48_9, r48_10, r48_11, r48_12, r48_15, r48_21, r48_22, r48_23, r48_24, r48_25, r48_28, r48_30, r48_31, r48_32, r48_35, r48_37, r48_39, r48_40, r48_41, O49, l49, O51, l51, O52, l52, O53, l53, O54, l54, O55, l55, O71, l71, O50, l50, O56, l56, O57, l57, O58, l58, O59, l59, O60, l60, O72, l72, t, c0, c1, c2, c3, c4, c5, c6, isO_cpy, hlen_cpy, Typ_cpy, hR_cpy, hA_cpy, hA_sA, if_false, and_false, false_and]
  all_goals first | simp (decide := true) only [hA_sA, hA_cpy, hk, if_true, if_false, false_and, and_false, and_self] | simp (decide := true) only [hA_sA, hA_cpy, if_true, if_false, false_and, and_false, and_self]
theorem mundo_ok {σ : HS} (t : Typ σ) (hi : hA σ 48 14 = 1) : ∃ σ', f_X6_undo 48 σ = some (hA σ 48 13, σ') ∧ KL [49, 51, 52, 53, 54, 55, 71, 48] [7, 36] [] σ σ' ∧ hN σ' = hN σ ∧ hA σ' 48 7 = hA σ 48 13 ∧ hA σ' 48 36 = hA σ 48 38 ∧ (∀ k, k < 18 → hA σ' 49 k = hA σ 50 k) ∧ (∀ k, k < 360 → hA σ' 51 k = hA σ 56 k) ∧ (∀ k, k < 360 → hA σ' 52 k = hA σ 57 k) ∧ (∀ k, k < 360 → hA σ' 53 k = hA σ 58 k) ∧ (∀ k, k < 360 → hA σ' 54 k = hA σ 59 k) ∧ (∀ k, k < 6 → hA σ' 55 k = hA σ 60 k) ∧ (∀ k, k < 24 → hA σ' 71 k = hA σ 72 k) := by
  have c0 := copies_ok (σ := σ) (a := 50) (b := 49) (n := 18) (w := 18) (o50 t) (o49 t) (l50 t) (l49 t) rfl (by decide) (by decide) (by decide)
  have c1 := copies_ok (σ := (cpy σ 50 49 18)) (a := 56) (b := 51) (n := 360) (w := 360) (o56 t) (o51 t) (l56 t) (l51 t) rfl (by decide) (by decide) (by decide)
  have c2 := copies_ok (σ := (cpy (cpy σ 50 49 18) 56 51 360)) (a := 57) (b := 52) (n := 360) (w := 360) (o57 t) (o52 t) (l57 t) (l52 t) rfl (by decide) (by decide) (by decide)
  have c3 := copies_ok (σ := (cpy (cpy (cpy σ 50 49 18) 56 51 360) 57 52 360)) (a := 58) (b := 53) (n := 360) (w := 360) (o58 t) (o53 t) (l58 t) (l53 t) rfl (by decide) (by decide) (by decide)
  have c4 := copies_ok (σ := (cpy (cpy (cpy (cpy σ 50 49 18) 56 51 360) 57 52 360) 58 53 360)) (a := 59) (b := 54) (n := 360) (w := 360) (o59 t) (o54 t) (l59 t) (l54 t) rfl (by decide) (by decide) (by decide)
  have c5 := copies_ok (σ := (cpy (cpy (cpy (cpy (cpy σ 50 49 18) 56 51 360) 57 52 360) 58 53 360) 59 54 360)) (a := 60) (b := 55) (n := 6) (w := 6) (o60 t) (o55 t) (l60 t) (l55 t) rfl (by decide) (by decide) (by decide)
  have c6 := copies_ok (σ := (cpy (cpy (cpy (cpy (cpy (cpy σ 50 49 18) 56 51 360) 57 52 360) 58 53 360) 59 54 360) 60 55 6)) (a := 72) (b := 71) (n := 24) (w := 24) (o72 t) (o71 t) (l72 t) (l71 t) rfl (by decide) (by decide) (by decide)
  refine ⟨sA (sA (cpy (cpy (cpy (cpy (cpy (cpy (cpy σ 50 49 18) 56 51 360) 57 52 360) 58 53 360) 59 54 360) 60 55 6) 72 71 24) 48 7 (hA σ 48 13)) 48 36 (hA σ 48 38), ?_, (((((((((KL_cpy (by decide) (by decide) (by decide) (by decide)).seq (KL_cpy (by decide) (by decide) (by decide) (by decide))).seq (KL_cpy (by decide) (by decide) (by decide) (by decide))).seq (KL_cpy (by decide) (by decide) (by decide) (by decide))).seq (KL_cpy (by decide) (by decide) (by decide) (by decide))).seq (KL_cpy (by decide) (by decide) (by decide) (by decide))).seq (KL_cpy (by decide) (by decide) (by decide) (by decide))).seq (KL_sA (by decide) (by decide) (by decide) (fun _ => by decide))).seq (KL_sA (by decide) (by decide) (by decide) (fun _ => by decide))), rfl, ?_, ?_, fun k hk => ?_, fun k hk => ?_, fun k hk => ?_, fun k hk => ?_, fun k hk => ?_, fun k hk => ?_, fun k hk => ?_⟩
  · unfold f_X6_undo
    simp (decide := true) only [chk_p, lt_p, bd_p, bc_p, oc_n, oc_s, and_self, and_true, true_and, if_true, if_false, isO_sA', isO_sB', isO_rA', hlen_sA, hlen_sB, hlen_rA, hR_sA, hR_sB, hR_rA, Typ_sA', Typ_sB', Typ_rA', O48, r48_0, r48_1, r48_2, r48_3, r48_4, r48_5, r48_6, r48_8, r48_9, r48_10, r48_11, r48_12, r48_15, r48_21, r48_22, r48_23, r48_24, r48_25, r48_28, r48_30, r48_31, r48_32, r48_35, r48_37, r48_39, r48_40, r48_41, O50, l50, O56, l56, O57, l57, O58, l58, O59, l59, O60, l60, O72, l72, O49, l49, O51, l51, O52, l52, O53, l53, O54, l54, O55, l55, O71, l71, t, c0, c1, c2, c3, c4, c5, c6, isO_cpy, hlen_cpy, Typ_cpy, hR_cpy, hA_cpy, hA_sA, if_false, and_false, false_and, hi]
  all_goals first | simp (decide := true) only [hA_sA, hA_cpy, hk, if_true, if_false, false_and, and_false, and_self] | simp (decide := true) only [hA_sA, hA_cpy, if_true, if_false, false_and, and_false, and_self]
