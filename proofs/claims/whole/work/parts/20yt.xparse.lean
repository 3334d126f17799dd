/-! the class's reading of its tape -/
def XS0 (σ : HS) (t : Nat) (B : Nat → Nat) (p : Nat) : Prop := Typ σ ∧ hA σ 17 1 = nI t ∧ (∀ k, k < t → hA σ 18 k = nI (B k)) ∧ hA σ 17 2 = nI p
def TPr (σ : HS) (Φ : FM) : Prop := hA σ 17 8 = nI (mN Φ) ∧ ∀ i, i < mN Φ → hA σ 19 i = nI (mK Φ i) ∧ hA σ 20 i = nI (mP Φ i) ∧ hA σ 21 i = nI (if mK Φ i ≤ 1 then i else mU Φ i) ∧ hA σ 22 i = nI (if mK Φ i ≤ 1 then i else if mK Φ i = 2 then mU Φ i else mV Φ i) ∧ hA σ 23 i = nI (if mK Φ i ≤ 1 then mU Φ i else 0)
def TB (t : Nat) (B : Nat → Nat) : Prop := t ≤ 60 ∧ ∀ k, k < t → 1 ≤ B k ∧ B k ≤ 127
theorem bt_le {t : Nat} {B : Nat → Nat} (h : TB t B) (p : Nat) : bt t B p ≤ 127 := by
  unfold bt
  by_cases c : p < t
  · rw [if_pos c]; exact (h.2 p c).2
  · rw [if_neg c]; omega
abbrev xrows : List Nat := [17, 19, 20, 21, 22, 23]
def CR (t : Nat) (B : Nat → Nat) (σ : HS) (y : Option (Int32 × HS)) (res : RR) : Prop := ∃ r σ', y = some (r, σ') ∧ Fr xrows σ σ' ∧ XS0 σ' t B res.1 ∧ (res.2 = none → r = -1) ∧ ∀ x, res.2 = some x → r = nI x.2 ∧ TPr σ' x.1
theorem here_ok {σ : HS} {t : Nat} {B : Nat → Nat} (hb : TB t B) {p : Nat} (h : XS0 σ t B p) (hp : p ≤ t) : f_X3_here 17 σ = some (nI (bt t B p), σ) := by
  obtain ⟨ty, h1, h2, h3⟩ := h
  have t60 := hb.1
  have p0 : (nI p < 0) = False := by rw [i_lt, nT (by omega), z320]; exact eq_false (by omega)
  have le : (nI t ≤ nI p) = (t ≤ p) := propext (nI_leI (by omega) (by omega))
  unfold f_X3_here
  by_cases c : t ≤ p
  · rw [show bt t B p = 0 from if_neg (by omega)]
    simp only [chk_p, lt_p, bd_p, bc_p, oc_n, oc_s, and_self, and_true, true_and, if_true, if_false, isO_sA', isO_sB', isO_rA', hlen_sA, hlen_sB, hlen_rA, hR_sA, hR_sB, hR_rA, Typ_sA', Typ_sB', Typ_rA', O17, r17_0, r17_3, r17_4, r17_5, r17_6, r17_7, ty, h1, h3, p0, if_false, le.trans (eq_true c)]
    rfl
  · have ie := inbE (i := p) (n := 60) (by omega) (by omega)
    have ci := cl1000 (i := p) (by omega)
    rw [show bt t B p = B p from if_pos (by omega)]
    simp only [chk_p, lt_p, bd_p, bc_p, oc_n, oc_s, and_self, and_true, true_and, if_true, if_false, isO_sA', isO_sB', isO_rA', hlen_sA, hlen_sB, hlen_rA, hR_sA, hR_sB, hR_rA, Typ_sA', Typ_sB', Typ_rA', O17, r17_0, r17_3, r17_4, r17_5, r17_6, r17_7, O18, l18, ty, h1, h3, p0, if_false, le.trans (eq_false c), ie, ci, h2 p (by omega)]
theorem isFig_ok {c : Nat} (h : c < 1000) (σ : HS) : f_X3_isFigure (nI c) σ = some (if 48 ≤ c ∧ c ≤ 57 then 1 else 0, σ) := by
  have l1 : (nI c < 48) = (c < 48) := propext (nI_ltI (b := 48) (by omega) (by omega))
  have l2 : ((57 : Int32) < nI c) = (57 < c) := propext (nI_ltI (a := 57) (by omega) (by omega))
  unfold f_X3_isFigure
  simp only [l1, l2]
  by_cases c1 : c < 48
  · rw [if_pos c1, if_neg (by omega)]
  · rw [if_neg c1]
    by_cases c2 : 57 < c
    · rw [if_pos c2, if_neg (by omega)]
    · rw [if_neg c2, if_pos (by omega)]
/-- the rows as a part comes -/
def xadd (σ : HS) (n : Nat) (k pl w a b : Int32) : HS := sA (sA (sA (sA (sA (sA σ 17 8 (nI (n + 1))) 19 n k) 20 n pl) 23 n w) 21 n a) 22 n b
theorem xadd_fr {σ : HS} {n : Nat} {k pl w a b : Int32} : Fr xrows σ (xadd σ n k pl w a b) := (((((Fr_sA (by simp)).seq (Fr_sA (by simp))).seq (Fr_sA (by simp))).seq (Fr_sA (by simp))).seq (Fr_sA (by simp))).seq (Fr_sA (by simp))
theorem xadd_0 {σ : HS} {t : Nat} {B : Nat → Nat} {p n : Nat} {k pl w a b : Int32} (h : XS0 σ t B p) : XS0 (xadd σ n k pl w a b) t B p := by
  obtain ⟨ty, h1, h2, h3⟩ := h
  unfold xadd
  refine ⟨ty, ?_, fun i hi => ?_, ?_⟩
  · simp (decide := true) only [hA_sA, false_and, and_false, if_false]; exact h1
  · simp (decide := true) only [hA_sA, false_and, and_false, if_false]; exact h2 i hi
  · simp (decide := true) only [hA_sA, false_and, and_false, if_false]; exact h3
theorem xadd_T {σ : HS} {Φ : FM} (h : TPr σ Φ) {k u v pl : Nat} : TPr (xadd σ (mN Φ) (nI k) (nI pl) (nI (if k ≤ 1 then u else 0)) (nI (if k ≤ 1 then mN Φ else u)) (nI (if k ≤ 1 then mN Φ else if k = 2 then u else v))) (addP Φ k u v pl) := by
  obtain ⟨h1, h2⟩ := h
  unfold xadd
  refine ⟨?_, fun i hi => ?_⟩
  · simp (decide := true) only [hA_sA, false_and, and_false, if_false, and_self, if_true]; rfl
  · by_cases z : i = mN Φ
    · subst z
      obtain ⟨e1, e2, e3, e4⟩ := addP_at Φ k u v pl
      rw [e1, e2, e3, e4]
      simp (decide := true) only [hA_sA, false_and, and_false, if_false, and_self, if_true]
    · have hi' : i < mN Φ := by rw [addP_n] at hi; omega
      obtain ⟨e1, e2, e3, e4⟩ := addP_sm Φ k u v pl i hi'
      rw [e1, e2, e3, e4]
      simp (decide := true) only [hA_sA, z, false_and, and_false, if_false]
      exact h2 i hi'
theorem add_ok {σ : HS} (ty : Typ σ) {n : Nat} (h8 : hA σ 17 8 = nI n) (hn : n < 60) (k pl w : Int32) : f_X3_add 17 k pl w σ = some (nI n, xadd σ n k pl w (nI n) (nI n)) := by
  have ie := inbE (i := n) (n := 60) (by omega) (by omega)
  have ci := cl1000 (i := n) (by omega)
  have lt : (nI n < 60) = True := eq_true ((nI_ltI (b := 60) (by omega) (by omega)).mpr hn)
  unfold f_X3_add
  simp (decide := true) only [chk_p, lt_p, bd_p, bc_p, oc_n, oc_s, and_self, and_true, true_and, if_true, if_false, isO_sA', isO_sB', isO_rA', hlen_sA, hlen_sB, hlen_rA, hR_sA, hR_sB, hR_rA, Typ_sA', Typ_sB', Typ_rA', O17, r17_0, r17_3, r17_4, r17_5, r17_6, r17_7, O19, l19, O20, l20, O21, l21, O22, l22, O23, l23, ty, h8, lt, ie, ci, nI_s]
  rfl
theorem sA_c (σ : HS) (j k a b : Nat) (v w : Int32) (h : j ≠ a) : sA (sA σ j k v) a b w = sA (sA σ a b w) j k v := by
  unfold sA
  refine congrArg (fun z => ((σ.1, σ.2.1, σ.2.2.1, z, σ.2.2.2.2.1, σ.2.2.2.2.2) : HS)) (funext fun x => funext fun y => ?_)
  unfold up2
  dsimp only
  by_cases h1 : x = a ∧ y = b
  · rw [if_pos h1, if_neg (fun z => h (z.1.symm.trans h1.1)), if_pos h1]
  · rw [if_neg h1]
    by_cases h2 : x = j ∧ y = k
    · rw [if_pos h2, if_pos h2]
    · rw [if_neg h2, if_neg h2, if_neg h1]
theorem nIm1 {a : Nat} (h : a < 1000) : (nI a = -1) = False := eq_false (fun z => by have := congrArg Int32.toInt z; rw [nT h, m1] at this; omega)
theorem join_ok {σ : HS} (ty : Typ σ) {n : Nat} (h8 : hA σ 17 8 = nI n) (hn : n < 60) (k pl : Int32) {a b : Nat} (ha : a < 1000) (hb : b < 1000) : f_X3_join 17 k pl (nI a) (nI b) σ = some (nI n, xadd σ n k pl 0 (nI a) (nI b)) := by
  have ie := inbE (i := n) (n := 60) (by omega) (by omega)
  have ci := cl1000 (i := n) (by omega)
  have ty2 : Typ (xadd σ n k pl 0 (nI n) (nI n)) := ty
  unfold f_X3_join
  simp only [chk_p, lt_p, bd_p, bc_p, oc_n, oc_s, and_self, and_true, true_and, if_true, if_false, isO_sA', isO_sB', isO_rA', hlen_sA, hlen_sB, hlen_rA, hR_sA, hR_sB, hR_rA, Typ_sA', Typ_sB', Typ_rA', O17, r17_0, r17_3, r17_4, r17_5, r17_6, r17_7, O21, l21, O22, l22, ty, ty2, nIm1 ha, nIm1 hb, nIm1 (show n < 1000 by omega), if_false, add_ok ty h8 hn, ie, ci]
  unfold xadd
  rw [sA_c _ 22 n 21 n _ _ (by decide), sA_sA, sA_sA]
theorem joinF_ok {σ : HS} (k pl a b : Int32) (h : a = -1 ∨ b = -1) : f_X3_join 17 k pl a b σ = some (-1, σ) := by
  unfold f_X3_join
  by_cases c : a = -1
  · rw [if_pos c]
  · rw [if_neg c, if_pos (h.resolve_left c)]
theorem xp_set {σ : HS} {t : Nat} {B : Nat → Nat} {p q : Nat} (h : XS0 σ t B p) : XS0 (sA σ 17 2 (nI q)) t B q ∧ Fr xrows σ (sA σ 17 2 (nI q)) := by
  obtain ⟨ty, h1, h2, h3⟩ := h
  refine ⟨⟨ty, ?_, fun i hi => ?_, ?_⟩, Fr_sA (by simp)⟩
  · rw [hA_sA, if_neg (by omega)]; exact h1
  · rw [hA_sA, if_neg (by omega)]; exact h2 i hi
  · rw [hA_sA, if_pos ⟨rfl, rfl⟩]
theorem xp_T {σ : HS} {Φ : FM} {q : Nat} (h : TPr σ Φ) : TPr (sA σ 17 2 (nI q)) Φ := by
  refine ⟨by rw [hA_sA, if_neg (by omega)]; exact h.1, fun i hi => ?_⟩
  simp (decide := true) only [hA_sA, false_and, if_false]
  exact h.2 i hi
theorem nI_10 (v c : Nat) (h : 48 ≤ c) : nI v * (10 : Int32) + nI c - 48 = nI (10 * v + (c - 48)) := by
  rw [show (10 : Int32) = nI 10 from rfl, show (48 : Int32) = nI 48 from rfl, pk_mul, nI_plus, pk_sub (by omega)]
  congr 1; omega
theorem x_num {t : Nat} {B : Nat → Nat} (hb : TB t B) {Φ : FM} (begin : Nat) : ∀ n p v (σ : HS), n ≤ 4 → XS0 σ t B p → TPr σ Φ → p ≤ t → mN Φ < 60 → ∀ nf, n < nf → ∃ σ', lp_X3_readNumber_9 nf 17 (nI begin) (nI v) (nI (4 - n)) σ = some (nI (mN Φ), σ') ∧ Fr xrows σ σ' ∧ XS0 σ' t B (numN t B n p v).1 ∧ TPr σ' (addP Φ 1 (numN t B n p v).2 0 begin) := by
  intro n
  induction n with
  | zero =>
    intro p v σ hn h hT hp hm nf hnf
    obtain ⟨nf, rfl⟩ : ∃ k, nf = k + 1 := ⟨nf - 1, by omega⟩
    have T := xadd_T hT (k := 1) (u := v) (v := 0) (pl := begin)
    refine ⟨_, ?_, xadd_fr, xadd_0 h, T⟩
    have ty := h.1
    show lp_X3_readNumber_9_b (lp_X3_readNumber_9 nf) 17 (nI begin) (nI v) (nI 4) σ = _
    unfold lp_X3_readNumber_9_b
    rw [if_pos (by decide), chk_p (o17 ty), add_ok ty hT.1 hm, bc_p]
    rfl
  | succ n ih =>
    intro p v σ hn h hT hp hm nf hnf
    obtain ⟨nf, rfl⟩ : ∃ k, nf = k + 1 := ⟨nf - 1, by omega⟩
    have ty := h.1
    have he := here_ok hb h hp
    have bl := bt_le hb p
    have fg := isFig_ok (c := bt t B p) (by omega) σ
    have l4 : ((4 : Int32) ≤ nI (4 - (n + 1))) = False := nle (a := 4) (b := 4 - (n + 1)) (by omega) (by omega)
    have eq : numN t B (n + 1) p v = if 48 ≤ bt t B p ∧ bt t B p ≤ 57 then numN t B n (p + 1) (10 * v + (bt t B p - 48)) else (p, v) := rfl
    rw [eq]
    show ∃ σ', lp_X3_readNumber_9_b (lp_X3_readNumber_9 nf) 17 (nI begin) (nI v) (nI (4 - (n + 1))) σ = _ ∧ _
    unfold lp_X3_readNumber_9_b
    by_cases c : 48 ≤ bt t B p ∧ bt t B p ≤ 57
    · rw [if_pos c] at fg ⊢
      have lt := bt_lt (t := t) (B := B) (p := p) (by omega)
      obtain ⟨s1, s2⟩ := xp_set (q := p + 1) h
      obtain ⟨σ', e1, e2, e3, e4⟩ := ih (p + 1) (10 * v + (bt t B p - 48)) (sA σ 17 2 (nI (p + 1))) (by omega) s1 (xp_T hT) (by omega) hm nf (by omega)
      refine ⟨σ', ?_, s2.seq e2, e3, e4⟩
      rw [if_neg (of_eq_false l4), chk_p (o17 ty), he, bc_p, fg, bc_p, if_neg (by decide), chk_p (o17 ty), he, bc_p, lt_p, chk_p (o17 ty), h.2.2.2, lt_p, lt_p, nI_s, nI_s, lt_p, nI_10 _ _ c.1, show 4 - (n + 1) + 1 = 4 - n by omega]
      exact e1
    · rw [if_neg c] at fg ⊢
      have T := xadd_T hT (k := 1) (u := v) (v := 0) (pl := begin)
      refine ⟨_, ?_, xadd_fr, xadd_0 h, T⟩
      rw [if_neg (of_eq_false l4), chk_p (o17 ty), he, bc_p, fg, bc_p, if_pos rfl, chk_p (o17 ty), add_ok ty hT.1 hm, bc_p]
      rfl
