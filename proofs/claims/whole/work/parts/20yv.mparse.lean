/-! the reference's reading of its tape -/
def MS0 (σ : HS) (t : Nat) (B : Nat → Nat) (p m : Nat) : Prop := Typ σ ∧ hA σ 48 16 = nI t ∧ (∀ k, k < t → hA σ 61 k = nI (B k)) ∧ hA σ 48 17 = nI p ∧ hA σ 48 7 = nI m ∧ m ≤ 6
def MTT (σ : HS) (o m : Nat) (Φ : FM) : Prop := hA σ 48 19 = 1 ∧ hA σ 48 18 = nI o ∧ MF σ m Φ
abbrev mrows : List Nat := [48, 51, 52, 53, 54, 55]
def PF (m : Nat) (σ σ' : HS) : Prop := Fr mrows σ σ' ∧ (∀ k, (k < 17 ∨ 19 < k) → hA σ' 48 k = hA σ 48 k) ∧ (∀ j k, hB σ' j k = hB σ j k) ∧ (∀ j i, 51 ≤ j → j ≤ 54 → (i < 60 * m ∨ 60 * m + 60 ≤ i) → hA σ' j i = hA σ j i) ∧ ∀ i, i ≠ m → hA σ' 55 i = hA σ 55 i
theorem PF.rf {m : Nat} {σ : HS} : PF m σ σ := ⟨Fr.rf, fun _ _ => rfl, fun _ _ => rfl, fun _ _ _ _ _ => rfl, fun _ _ => rfl⟩
theorem PF.seq {m : Nat} {σ σ' σ'' : HS} (h : PF m σ σ') (g : PF m σ' σ'') : PF m σ σ'' := ⟨h.1.seq g.1, fun k hk => (g.2.1 k hk).trans (h.2.1 k hk), fun j k => (g.2.2.1 j k).trans (h.2.2.1 j k), fun j i a b c => (g.2.2.2.1 j i a b c).trans (h.2.2.2.1 j i a b c), fun i hi => (g.2.2.2.2 i hi).trans (h.2.2.2.2 i hi)⟩
theorem PF_s {m : Nat} {σ : HS} {k : Nat} {v : Int32} (h : 17 ≤ k) (h2 : k ≤ 19) : PF m σ (sA σ 48 k v) := ⟨Fr_sA (by simp), fun i hi => by rw [hA_sA, if_neg (by omega)], fun _ _ => rfl, fun j i a b c => by rw [hA_sA, if_neg (by omega)], fun i hi => by rw [hA_sA, if_neg (by omega)]⟩
def madd (σ : HS) (m n : Nat) (k u v pl : Int32) : HS := sA (sA (sA (sA (sA σ 51 (60 * m + n) k) 52 (60 * m + n) u) 53 (60 * m + n) v) 54 (60 * m + n) pl) 55 m (nI (n + 1))
theorem madd_pf {σ : HS} {m n : Nat} {k u v pl : Int32} (hn : n < 60) : PF m σ (madd σ m n k u v pl) := by
  unfold madd
  refine ⟨((((Fr_sA (by simp)).seq (Fr_sA (by simp))).seq (Fr_sA (by simp))).seq (Fr_sA (by simp))).seq (Fr_sA (by simp)), fun i hi => ?_, fun _ _ => rfl, fun j i a b c => ?_, fun i hi => ?_⟩
  · simp (decide := true) only [hA_sA, false_and, if_false]
  · have z : (i = 60 * m + n) = False := eq_false (by omega)
    rw [hA_sA, if_neg (by omega), hA_sA, if_neg (by omega), hA_sA, if_neg (by omega), hA_sA, if_neg (by omega), hA_sA, if_neg (by omega)]
  · simp (decide := true) only [hA_sA, false_and, hi, and_false, if_false]
theorem MS0.pf {σ σ' : HS} {t : Nat} {B : Nat → Nat} {p m : Nat} (h : MS0 σ t B p m) (f : PF m σ σ') (h17 : hA σ' 48 17 = hA σ 48 17) : MS0 σ' t B p m := by
  obtain ⟨ty, h1, h2, h3, h4, h5⟩ := h
  exact ⟨f.1.typ ty, (f.2.1 16 (by omega)).trans h1, fun k hk => (f.1.A (by simp) k).trans (h2 k hk), h17.trans h3, (f.2.1 7 (by omega)).trans h4, h5⟩
theorem madd_0 {σ : HS} {t : Nat} {B : Nat → Nat} {p m n : Nat} {k u v pl : Int32} (hn : n < 60) (h : MS0 σ t B p m) : MS0 (madd σ m n k u v pl) t B p m := h.pf (madd_pf hn) (by unfold madd; simp (decide := true) only [hA_sA, false_and, if_false])
theorem madd_T {σ : HS} {o m : Nat} {Φ : FM} (h : MTT σ o m Φ) {k u v pl : Nat} (hn : mN Φ < 60) : MTT (madd σ m (mN Φ) (nI k) (nI u) (nI v) (nI pl)) o m (addP Φ k u v pl) := by
  obtain ⟨h1, h2, h3, h4⟩ := h
  unfold madd
  refine ⟨?_, ?_, ?_, fun i hi => ?_⟩
  · simp (decide := true) only [hA_sA, false_and, if_false]; exact h1
  · simp (decide := true) only [hA_sA, false_and, if_false]; exact h2
  · simp (decide := true) only [hA_sA, and_self, if_true]; rfl
  · by_cases z : i = mN Φ
    · subst z
      obtain ⟨e1, e2, e3, e4⟩ := addP_at Φ k u v pl
      rw [e1, e2, e3, e4]
      simp (decide := true) only [hA_sA, false_and, if_false, and_self, if_true]
    · have hi' : i < mN Φ := by rw [addP_n] at hi; omega
      obtain ⟨e1, e2, e3, e4⟩ := addP_sm Φ k u v pl i hi'
      have z' : (60 * m + i = 60 * m + mN Φ) = False := eq_false (by omega)
      rw [e1, e2, e3, e4]
      simp (decide := true) only [hA_sA, z', false_and, and_false, if_false]
      exact h4 i hi'
theorem comes_ok {σ : HS} (ty : Typ σ) {m n : Nat} (h7 : hA σ 48 7 = nI m) (hm : m ≤ 6) (h5 : hA σ 55 m = nI n) (hn : n < 60) (k u v pl : Int32) : f_X6_comes 48 k u v pl σ = some (nI n, madd σ m n k u v pl) := by
  have ie := inbE (i := m) (n := 7) (by omega) (by omega)
  have ci := cl1000 (i := m) (by omega)
  have ie2 := inbE (i := 60 * m + n) (n := 420) (by omega) (by omega)
  have ci2 := cl1000 (i := 60 * m + n) (by omega)
  unfold f_X6_comes
  simp (decide := true) only [chk_p, lt_p, bd_p, bc_p, oc_n, oc_s, and_self, and_true, true_and, if_true, if_false, isO_sA', isO_sB', isO_rA', hlen_sA, hlen_sB, hlen_rA, hR_sA, hR_sB, hR_rA, Typ_sA', Typ_sB', Typ_rA', O48, r48_0, r48_1, r48_2, r48_3, r48_4, r48_5, r48_6, r48_8, r48_9, r48_10, r48_11, r48_12, r48_15, r48_21, r48_22, r48_23, r48_24, r48_25, r48_28, r48_30, r48_31, r48_32, r48_35, r48_37, r48_39, r48_40, r48_41, O51, l51, O52, l52, O53, l53, O54, l54, O55, l55, ty, h7, h5, ie, ci, ie2, ci2, at_ok, nI_s, hA_sA, false_and, if_false]
  rfl
theorem next_ok {σ : HS} {t : Nat} {B : Nat → Nat} {m : Nat} (hb : TB t B) {p : Nat} (h : MS0 σ t B p m) (hp : p ≤ t) : f_X6_next 48 σ = some (nI (bt t B p), σ) := by
  obtain ⟨ty, h1, h2, h3, h4, h5⟩ := h
  have t60 := hb.1
  have le : (nI t ≤ nI p) = (t ≤ p) := propext (nI_leI (by omega) (by omega))
  unfold f_X6_next
  by_cases c : t ≤ p
  · rw [show bt t B p = 0 from if_neg (by omega)]
    simp only [chk_p, lt_p, bd_p, bc_p, oc_n, oc_s, and_self, and_true, true_and, if_true, if_false, isO_sA', isO_sB', isO_rA', hlen_sA, hlen_sB, hlen_rA, hR_sA, hR_sB, hR_rA, Typ_sA', Typ_sB', Typ_rA', O48, r48_0, r48_1, r48_2, r48_3, r48_4, r48_5, r48_6, r48_8, r48_9, r48_10, r48_11, r48_12, r48_15, r48_21, r48_22, r48_23, r48_24, r48_25, r48_28, r48_30, r48_31, r48_32, r48_35, r48_37, r48_39, r48_40, r48_41, ty, h1, h3, le.trans (eq_true c)]
    rfl
  · have ie := inbE (i := p) (n := 60) (by omega) (by omega)
    have ci := cl1000 (i := p) (by omega)
    rw [show bt t B p = B p from if_pos (by omega)]
    simp only [chk_p, lt_p, bd_p, bc_p, oc_n, oc_s, and_self, and_true, true_and, if_true, if_false, isO_sA', isO_sB', isO_rA', hlen_sA, hlen_sB, hlen_rA, hR_sA, hR_sB, hR_rA, Typ_sA', Typ_sB', Typ_rA', O48, r48_0, r48_1, r48_2, r48_3, r48_4, r48_5, r48_6, r48_8, r48_9, r48_10, r48_11, r48_12, r48_15, r48_21, r48_22, r48_23, r48_24, r48_25, r48_28, r48_30, r48_31, r48_32, r48_35, r48_37, r48_39, r48_40, r48_41, O61, l61, ty, h1, h3, if_false, le.trans (eq_false c), ie, ci, h2 p (by omega)]
theorem wrong_ok {σ : HS} (ty : Typ σ) : f_X6_wrong 48 σ = some (0, sA σ 48 19 0) := by
  unfold f_X6_wrong
  rw [chk_p (o48 ty), lt_p]
def MR (t : Nat) (B : Nat → Nat) (m o : Nat) (σ : HS) (y : Option (Int32 × HS)) (res : RR) : Prop := ∃ r σ', y = some (r, σ') ∧ PF m σ σ' ∧ MS0 σ' t B res.1 m ∧ (res.2 = none → hA σ' 48 19 = 0) ∧ ∀ x, res.2 = some x → r = nI x.2 ∧ MTT σ' o m x.1
theorem MR.pre {t : Nat} {B : Nat → Nat} {m o : Nat} {σ σ1 : HS} {y : Option (Int32 × HS)} {res : RR} (f : PF m σ σ1) (h : MR t B m o σ1 y res) : MR t B m o σ y res := by
  obtain ⟨r, σ', e, fr, x⟩ := h
  exact ⟨r, σ', e, f.seq fr, x⟩
theorem mp_set {σ : HS} {t : Nat} {B : Nat → Nat} {p m q : Nat} (h : MS0 σ t B p m) : MS0 (sA σ 48 17 (nI q)) t B q m := by
  obtain ⟨ty, h1, h2, h3, h4, h5⟩ := h
  refine ⟨ty, ?_, fun i hi => ?_, ?_, ?_, h5⟩
  · rw [hA_sA, if_neg (by omega)]; exact h1
  · rw [hA_sA, if_neg (by omega)]; exact h2 i hi
  · rw [hA_sA, if_pos ⟨rfl, rfl⟩]
  · rw [hA_sA, if_neg (by omega)]; exact h4
theorem mo_set {σ : HS} {t : Nat} {B : Nat → Nat} {p m k : Nat} {v : Int32} (h : MS0 σ t B p m) (h1 : 18 ≤ k) (h2 : k ≤ 19) : MS0 (sA σ 48 k v) t B p m := h.pf (PF_s (by omega) h2) (by rw [hA_sA, if_neg (by omega)])
theorem MF_s {σ : HS} {m k : Nat} {v : Int32} {Φ : FM} (h : MF σ m Φ) : MF (sA σ 48 k v) m Φ := by
  refine ⟨by rw [hA_sA, if_neg (by omega)]; exact h.1, fun i hi => ?_⟩
  simp (decide := true) only [hA_sA, false_and, if_false]
  exact h.2 i hi
theorem mp_T {σ : HS} {o m : Nat} {Φ : FM} {v : Int32} (h : MTT σ o m Φ) : MTT (sA σ 48 17 v) o m Φ := ⟨by rw [hA_sA, if_neg (by omega)]; exact h.1, by rw [hA_sA, if_neg (by omega)]; exact h.2.1, MF_s h.2.2⟩
theorem mo_T {σ : HS} {o m q : Nat} {Φ : FM} (h : MTT σ o m Φ) : MTT (sA σ 48 18 (nI q)) q m Φ := ⟨by rw [hA_sA, if_neg (by omega)]; exact h.1, by rw [hA_sA, if_pos ⟨rfl, rfl⟩], MF_s h.2.2⟩
theorem MR_wrong {t : Nat} {B : Nat → Nat} {m o p : Nat} {σ : HS} (h : MS0 σ t B p m) : MR t B m o σ (bc (f_X6_wrong 48 σ) fun r σ' => some (r, σ')) (p, none) := by
  rw [wrong_ok h.1, bc_p]
  exact ⟨0, _, rfl, PF_s (by omega) (by omega), mo_set h (by omega) (by omega), fun _ => (by rw [hA_sA, if_pos ⟨rfl, rfl⟩]), fun x hx => by cases hx⟩
abbrev mFF (t : Nat) (B : Nat → Nat) (m : Nat) (F : Nat → Nat → HS → Option (Int32 × HS)) (tg o : Nat) (G : Nat → FM → RR) : Prop := ∀ σ p Φ, MS0 σ t B p m → MTT σ o m Φ → p ≤ t → mN Φ ≤ p → MR t B m o σ (F tg 48 σ) (G p Φ)
theorem m_num {t : Nat} {B : Nat → Nat} (hb : TB t B) {F : Nat → Nat → HS → Option (Int32 × HS)} {m o : Nat} {Φ : FM} (begin : Nat) (x1 : Int32) : ∀ n p v (σ : HS), n ≤ 4 → p + n = begin + 4 → MS0 σ t B p m → MTT σ o m Φ → p ≤ t → mN Φ < 60 → ∀ nf, n < nf → ∃ σ', lp_X6_factor_85 F nf 48 x1 (nI begin) (nI v) σ = some (nI (mN Φ), σ') ∧ PF m σ σ' ∧ MS0 σ' t B (numN t B n p v).1 m ∧ MTT σ' o m (addP Φ 1 (numN t B n p v).2 0 begin) := by
  have t60 := hb.1
  intro n
  induction n with
  | zero =>
    intro p v σ hn hpn h hT hp hm nf hnf
    obtain ⟨nf, rfl⟩ : ∃ k, nf = k + 1 := ⟨nf - 1, by omega⟩
    have T := madd_T hT (k := 1) (u := v) (v := 0) (pl := begin) hm
    refine ⟨_, ?_, madd_pf hm, madd_0 hm h, T⟩
    have ty := h.1
    show lp_X6_factor_85_b F (lp_X6_factor_85 F nf) 48 x1 (nI begin) (nI v) σ = _
    unfold lp_X6_factor_85_b
    rw [chk_p (o48 ty), h.2.2.2.1, lt_p, pk_sub (by omega), show p - begin = 4 by omega, if_pos (by decide), comes_ok ty h.2.2.2.2.1 h.2.2.2.2.2 hT.2.2.1 hm, bc_p]
    rfl
  | succ n ih =>
    intro p v σ hn hpn h hT hp hm nf hnf
    obtain ⟨nf, rfl⟩ : ∃ k, nf = k + 1 := ⟨nf - 1, by omega⟩
    have ty := h.1
    have he := next_ok hb h hp
    have bl := bt_le hb p
    have l4 : ((4 : Int32) ≤ nI (p - begin)) = False := nle (a := 4) (b := p - begin) (by omega) (by omega)
    have l48 : (nI (bt t B p) < 48) = (bt t B p < 48) := propext (nI_ltI (b := 48) (by omega) (by omega))
    have l57 : ((57 : Int32) < nI (bt t B p)) = (57 < bt t B p) := propext (nI_ltI (a := 57) (by omega) (by omega))
    have eq : numN t B (n + 1) p v = if 48 ≤ bt t B p ∧ bt t B p ≤ 57 then numN t B n (p + 1) (10 * v + (bt t B p - 48)) else (p, v) := rfl
    rw [eq]
    show ∃ σ', lp_X6_factor_85_b F (lp_X6_factor_85 F nf) 48 x1 (nI begin) (nI v) σ = _ ∧ _
    unfold lp_X6_factor_85_b
    rw [chk_p (o48 ty), h.2.2.2.1, lt_p, pk_sub (by omega), if_neg (of_eq_false l4), he, bc_p]
    have cm := comes_ok ty h.2.2.2.2.1 h.2.2.2.2.2 hT.2.2.1 hm (nI 1) (nI v) (nI 0) (nI begin)
    have T := madd_T hT (k := 1) (u := v) (v := 0) (pl := begin) hm
    by_cases c1 : bt t B p < 48
    · rw [if_pos (of_eq_true (l48.trans (eq_true c1))), if_neg (show ¬ (48 ≤ bt t B p ∧ bt t B p ≤ 57) by omega), chk_p (o48 ty)]
      refine ⟨_, ?_, madd_pf hm, madd_0 hm h, T⟩
      rw [show (1 : Int32) = nI 1 from rfl, show (0 : Int32) = nI 0 from rfl, cm, bc_p]
    rw [if_neg (of_eq_false (l48.trans (eq_false c1))), chk_p (o48 ty), he, bc_p]
    by_cases c2 : 57 < bt t B p
    · rw [if_pos (of_eq_true (l57.trans (eq_true c2))), if_neg (show ¬ (48 ≤ bt t B p ∧ bt t B p ≤ 57) by omega), chk_p (o48 ty)]
      refine ⟨_, ?_, madd_pf hm, madd_0 hm h, T⟩
      rw [show (1 : Int32) = nI 1 from rfl, show (0 : Int32) = nI 0 from rfl, cm, bc_p]
    rw [if_neg (of_eq_false (l57.trans (eq_false c2))), if_pos (show 48 ≤ bt t B p ∧ bt t B p ≤ 57 by omega)]
    have lt := bt_lt (t := t) (B := B) (p := p) (by omega)
    obtain ⟨σ', e1, e2, e3, e4⟩ := ih (p + 1) (10 * v + (bt t B p - 48)) (sA σ 48 17 (nI (p + 1))) (by omega) (by omega) (mp_set h) (mp_T hT) (by omega) hm nf (by omega)
    refine ⟨σ', ?_, (PF_s (by omega) (by omega)).seq e2, e3, e4⟩
    rw [chk_p (o48 ty), he, bc_p, lt_p, chk_p (o48 ty), h.2.2.2.1, lt_p, nI_s, lt_p, Int32.mul_comm, nI_10 _ _ (by omega)]
    exact e1
/-- one joined on -/
theorem m_step {t : Nat} {B : Nat → Nat} (hb : TB t B) {F : Nat → Nat → HS → Option (Int32 × HS)} {m tg o : Nat} {G : Nat → FM → RR} (hF : mFF t B m F tg o G) (hG : ∀ p Φ, p ≤ t → FA t p Φ (G p Φ)) {K : Nat → Int32 → HS → Option (Int32 × HS)} {sg : Nat → Nat} {k p a : Nat} {Φ : FM} {σ : HS}
    (K0 : ∀ σ' x1, Typ σ' → hA σ' 48 19 = 0 → K 48 x1 σ' = some (x1, σ'))
    (KS : ∀ p1 Φ1 b σ', MS0 σ' t B p1 m → MTT σ' o m Φ1 → p1 ≤ t → mN Φ1 ≤ p1 → b + 1 = mN Φ1 → t ≤ p1 + k → MR t B m o σ' (K 48 (nI b) σ') (jn t B G sg k p1 Φ1 b))
    (h : MS0 σ t B p m) (hT : MTT σ o m Φ) (hm : mN Φ ≤ p) (lt0 : p < t) (htk : t ≤ p + (k + 1)) {kd : Nat} (hk : sg (bt t B p) = kd) (Kd : Int32) (hKd : Kd = nI kd) :
    MR t B m o σ (bc (F tg 48 (sA σ 48 17 (nI (p + 1)))) fun r65 σ66 => chk (isO σ66 6 48) (lt (hA σ66 48 19) fun v71 => (if v71 = 0 then K 48 (nI a) σ66 else bc (f_X6_comes 48 Kd (nI a) r65 (nI p) σ66) fun r76 σ77 => K 48 r76 σ77))) (match G (p + 1) Φ with
      | (p1, none) => (p1, none)
      | (p1, some (Φ1, b)) => jn t B G sg k p1 (addP Φ1 (sg (bt t B p)) a b p) (mN Φ1)) := by
  have t60 := hb.1
  subst hKd
  obtain ⟨r, σ1, e1, f1, x1, n1, y1⟩ := hF (sA σ 48 17 (nI (p + 1))) (p + 1) Φ (mp_set h) (mp_T hT) (by omega) (by omega)
  obtain ⟨g1, g2, g3⟩ := hG (p + 1) Φ (by omega)
  rw [e1, bc_p, chk_p (o48 x1.1)]
  have s2 : PF m σ (sA σ 48 17 (nI (p + 1))) := PF_s (by omega) (by omega)
  cases hG' : G (p + 1) Φ with
  | mk p1 rr =>
    rw [hG'] at x1 n1 y1 g1 g2 g3
    dsimp only at x1 n1 y1 g1 g2 g3
    cases rr with
    | none =>
      have z := n1 rfl
      rw [z, lt_p, if_pos rfl, K0 σ1 _ x1.1 z]
      exact ⟨_, σ1, rfl, s2.seq f1, x1, fun _ => z, fun x hx => by cases hx⟩
    | some x =>
      obtain ⟨Φ1, b⟩ := x
      obtain ⟨w1, w2, w3, w4, w5⟩ := g3 (Φ1, b) rfl
      obtain ⟨r1, r2⟩ := y1 (Φ1, b) rfl
      dsimp only at w1 w2 w3 w4 w5 r1 r2 ⊢
      have hn : mN Φ1 < 60 := by omega
      rw [r2.1, lt_p, if_neg (by decide), r1, comes_ok x1.1 x1.2.2.2.2.1 x1.2.2.2.2.2 r2.2.2.1 hn, bc_p, hk]
      exact ((KS p1 (addP Φ1 kd a b p) (mN Φ1) _ (madd_0 hn x1) (madd_T r2 hn) g2 (by rw [addP_n]; omega) rfl (by omega)).pre (madd_pf hn)).pre (s2.seq f1)
theorem m_sum0 (F : Nat → Nat → HS → Option (Int32 × HS)) {σ : HS} (ty : Typ σ) (h : hA σ 48 19 = 0) (x1 : Int32) : ∀ nf, 1 ≤ nf → lp_X6_sums_5 F nf 48 x1 σ = some (x1, σ) := by
  intro nf hnf
  obtain ⟨nf, rfl⟩ : ∃ k, nf = k + 1 := ⟨nf - 1, by omega⟩
  show lp_X6_sums_5_b F (lp_X6_sums_5 F nf) 48 x1 σ = _
  unfold lp_X6_sums_5_b
  rw [chk_p (o48 ty), h, lt_p, if_pos rfl]
theorem m_prd0 (F : Nat → Nat → HS → Option (Int32 × HS)) {σ : HS} (ty : Typ σ) (h : hA σ 48 19 = 0) (x1 : Int32) : ∀ nf, 1 ≤ nf → lp_X6_products_5 F nf 48 x1 σ = some (x1, σ) := by
  intro nf hnf
  obtain ⟨nf, rfl⟩ : ∃ k, nf = k + 1 := ⟨nf - 1, by omega⟩
  show lp_X6_products_5_b F (lp_X6_products_5 F nf) 48 x1 σ = _
  unfold lp_X6_products_5_b
  rw [chk_p (o48 ty), h, lt_p, if_pos rfl]
theorem mm_sum {t : Nat} {B : Nat → Nat} (hb : TB t B) {F : Nat → Nat → HS → Option (Int32 × HS)} {m o : Nat} {G : Nat → FM → RR} (hF : mFF t B m F 1 o G) (hG : ∀ p Φ, p ≤ t → FA t p Φ (G p Φ)) : ∀ k p Φ a (σ : HS), t ≤ p + k → MS0 σ t B p m → MTT σ o m Φ → p ≤ t → mN Φ ≤ p → a + 1 = mN Φ → ∀ nf, k + 1 < nf → MR t B m o σ (lp_X6_sums_5 F nf 48 (nI a) σ) (jn t B G sgS k p Φ a) := by
  have t60 := hb.1
  have stop : ∀ p Φ a (σ : HS), MS0 σ t B p m → MTT σ o m Φ → p ≤ t → sgS (bt t B p) = 0 → ∀ nf, lp_X6_sums_5 F (nf + 1) 48 (nI a) σ = some (nI a, σ) := fun p Φ a σ h hT hp sg nf => by
    have ty := h.1
    have he := next_ok hb h hp
    have bl := bt_le hb p
    have c43 : (nI (bt t B p) = 43) = (bt t B p = 43) := nEc bl 43 (by decide)
    have c45 : (nI (bt t B p) = 45) = (bt t B p = 45) := nEc bl 45 (by decide)
    have n43 : bt t B p ≠ 43 := fun z => by unfold sgS at sg; rw [if_pos z] at sg; omega
    have n45 : bt t B p ≠ 45 := fun z => by unfold sgS at sg; rw [if_neg n43, if_pos z] at sg; omega
    show lp_X6_sums_5_b F (lp_X6_sums_5 F nf) 48 (nI a) σ = _
    unfold lp_X6_sums_5_b
    rw [chk_p (o48 ty), hT.1, lt_p, if_neg (by decide), he, bc_p, if_neg (of_eq_false (c43.trans (eq_false n43))), chk_p (o48 ty), he, bc_p, if_neg (of_eq_false (c45.trans (eq_false n45)))]
  intro k
  induction k with
  | zero =>
    intro p Φ a σ hj h hT hp hm ha nf hnf
    obtain ⟨nf, rfl⟩ : ∃ k, nf = k + 1 := ⟨nf - 1, by omega⟩
    have b0 : bt t B p = 0 := if_neg (by omega)
    rw [stop p Φ a σ h hT hp (by rw [b0]; rfl) nf]
    exact ⟨nI a, σ, rfl, PF.rf, h, fun z => (by cases z), fun x hx => by cases hx; exact ⟨rfl, hT⟩⟩
  | succ k ih =>
    intro p Φ a σ hj h hT hp hm ha nf hnf
    obtain ⟨nf, rfl⟩ : ∃ k, nf = k + 1 := ⟨nf - 1, by omega⟩
    have ty := h.1
    have he := next_ok hb h hp
    have bl := bt_le hb p
    have c43 : (nI (bt t B p) = 43) = (bt t B p = 43) := nEc bl 43 (by decide)
    have c45 : (nI (bt t B p) = 45) = (bt t B p = 45) := nEc bl 45 (by decide)
    show MR t B m o σ (lp_X6_sums_5 F (nf + 1) 48 (nI a) σ) (if sgS (bt t B p) = 0 then (p, some (Φ, a)) else match G (p + 1) Φ with
      | (p1, none) => (p1, none)
      | (p1, some (Φ1, b)) => jn t B G sgS k p1 (addP Φ1 (sgS (bt t B p)) a b p) (mN Φ1))
    by_cases sg : sgS (bt t B p) = 0
    · rw [if_pos sg, stop p Φ a σ h hT hp sg nf]
      exact ⟨nI a, σ, rfl, PF.rf, h, fun z => (by cases z), fun x hx => by cases hx; exact ⟨rfl, hT⟩⟩
    rw [if_neg sg]
    have lt0 := bt_lt (sgS_ok _ sg).1
    have st : ∀ kd, sgS (bt t B p) = kd → ∀ Kd, Kd = nI kd → _ := fun kd hk => m_step hb hF hG (K := lp_X6_sums_5 F nf) (k := k) (a := a) (fun σ' x1 ty' z => m_sum0 F ty' z x1 nf (by omega)) (fun p1 Φ1 b σ' a1 a2 a3 a4 a5 a6 => ih p1 Φ1 b σ' a6 a1 a2 a3 a4 a5 nf (by omega)) h hT hm lt0 hj hk
    show MR t B m o σ (lp_X6_sums_5_b F (lp_X6_sums_5 F nf) 48 (nI a) σ) _
    unfold lp_X6_sums_5_b
    rw [chk_p (o48 ty), hT.1, lt_p, if_neg (by decide), he, bc_p]
    by_cases z1 : bt t B p = 43
    · have c43' := of_eq_true (c43.trans (eq_true z1))
      have := st 3 (by unfold sgS; rw [if_pos z1]) 3 rfl
      rw [if_pos c43', chk_p (o48 ty), h.2.2.2.1, lt_p, he, bc_p, if_pos c43', lt_p, chk_p (o48 ty), h.2.2.2.1, lt_p, nI_s, lt_p]
      exact this
    · have c43' := of_eq_false (c43.trans (eq_false z1))
      have z2 : bt t B p = 45 := Classical.byContradiction fun z2 => sg (by unfold sgS; rw [if_neg z1, if_neg z2])
      have c45' := of_eq_true (c45.trans (eq_true z2))
      have := st 4 (by unfold sgS; rw [if_neg z1, if_pos z2]) 4 rfl
      rw [if_neg c43', chk_p (o48 ty), he, bc_p, if_pos c45', chk_p (o48 ty), h.2.2.2.1, lt_p, he, bc_p, if_neg c43', lt_p, chk_p (o48 ty), h.2.2.2.1, lt_p, nI_s, lt_p]
      exact this
theorem m_prd {t : Nat} {B : Nat → Nat} (hb : TB t B) {F : Nat → Nat → HS → Option (Int32 × HS)} {m o : Nat} {G : Nat → FM → RR} (hF : mFF t B m F 2 o G) (hG : ∀ p Φ, p ≤ t → FA t p Φ (G p Φ)) : ∀ k p Φ a (σ : HS), t ≤ p + k → MS0 σ t B p m → MTT σ o m Φ → p ≤ t → mN Φ ≤ p → a + 1 = mN Φ → ∀ nf, k + 1 < nf → MR t B m o σ (lp_X6_products_5 F nf 48 (nI a) σ) (jn t B G sgP k p Φ a) := by
  have t60 := hb.1
  have stop : ∀ p Φ a (σ : HS), MS0 σ t B p m → MTT σ o m Φ → p ≤ t → sgP (bt t B p) = 0 → ∀ nf, lp_X6_products_5 F (nf + 1) 48 (nI a) σ = some (nI a, σ) := fun p Φ a σ h hT hp sg nf => by
    have ty := h.1
    have he := next_ok hb h hp
    have bl := bt_le hb p
    have c42 : (nI (bt t B p) = 42) = (bt t B p = 42) := nEc bl 42 (by decide)
    have n42 : bt t B p ≠ 42 := fun z => by unfold sgP at sg; rw [if_pos z] at sg; omega
    show lp_X6_products_5_b F (lp_X6_products_5 F nf) 48 (nI a) σ = _
    unfold lp_X6_products_5_b
    rw [chk_p (o48 ty), hT.1, lt_p, if_neg (by decide), he, bc_p, if_neg (of_eq_false (c42.trans (eq_false n42)))]
  intro k
  induction k with
  | zero =>
    intro p Φ a σ hj h hT hp hm ha nf hnf
    obtain ⟨nf, rfl⟩ : ∃ k, nf = k + 1 := ⟨nf - 1, by omega⟩
    have b0 : bt t B p = 0 := if_neg (by omega)
    rw [stop p Φ a σ h hT hp (by rw [b0]; rfl) nf]
    exact ⟨nI a, σ, rfl, PF.rf, h, fun z => (by cases z), fun x hx => by cases hx; exact ⟨rfl, hT⟩⟩
  | succ k ih =>
    intro p Φ a σ hj h hT hp hm ha nf hnf
    obtain ⟨nf, rfl⟩ : ∃ k, nf = k + 1 := ⟨nf - 1, by omega⟩
    have ty := h.1
    have he := next_ok hb h hp
    have bl := bt_le hb p
    have c42 : (nI (bt t B p) = 42) = (bt t B p = 42) := nEc bl 42 (by decide)
    show MR t B m o σ (lp_X6_products_5 F (nf + 1) 48 (nI a) σ) (if sgP (bt t B p) = 0 then (p, some (Φ, a)) else match G (p + 1) Φ with
      | (p1, none) => (p1, none)
      | (p1, some (Φ1, b)) => jn t B G sgP k p1 (addP Φ1 (sgP (bt t B p)) a b p) (mN Φ1))
    by_cases sg : sgP (bt t B p) = 0
    · rw [if_pos sg, stop p Φ a σ h hT hp sg nf]
      exact ⟨nI a, σ, rfl, PF.rf, h, fun z => (by cases z), fun x hx => by cases hx; exact ⟨rfl, hT⟩⟩
    rw [if_neg sg]
    have lt0 := bt_lt (sgP_ok _ sg).1
    have z1 : bt t B p = 42 := Classical.byContradiction fun z2 => sg (by unfold sgP; rw [if_neg z2])
    have c42' := of_eq_true (c42.trans (eq_true z1))
    have st := m_step hb hF hG (K := lp_X6_products_5 F nf) (k := k) (a := a) (fun σ' x1 ty' z => m_prd0 F ty' z x1 nf (by omega)) (fun p1 Φ1 b σ' a1 a2 a3 a4 a5 a6 => ih p1 Φ1 b σ' a6 a1 a2 a3 a4 a5 nf (by omega)) h hT hm lt0 hj (show sgP (bt t B p) = 5 from if_pos z1) 5 rfl
    show MR t B m o σ (lp_X6_products_5_b F (lp_X6_products_5 F nf) 48 (nI a) σ) _
    unfold lp_X6_products_5_b
    rw [chk_p (o48 ty), hT.1, lt_p, if_neg (by decide), he, bc_p, if_pos c42', chk_p (o48 ty), h.2.2.2.1, lt_p, lt_p, nI_s, lt_p]
    exact st
/-- what opens -/
theorem m_open {t : Nat} {B : Nat → Nat} (hb : TB t B) {F : Nat → Nat → HS → Option (Int32 × HS)} {m o : Nat} {G2 G0 : Nat → FM → RR} (h2 : o < 6 → mFF t B m F 2 (o + 1) G2) (h0 : o < 6 → mFF t B m F 0 (o + 1) G0) (k2 : ∀ p Φ, p ≤ t → FA t p Φ (G2 p Φ)) (k0 : ∀ p Φ, p ≤ t → FA t p Φ (G0 p Φ)) (ho : o ≤ 6) {σ : HS} {p : Nat} {Φ : FM} (h : MS0 σ t B p m) (hT : MTT σ o m Φ) (hp : p ≤ t) (hm : mN Φ ≤ p) (n1 : bt t B p = 40 ∨ bt t B p = 45) : MR t B m o σ (b_X6_opened F 48 σ) (fac t B G2 G0 o p Φ) := by
  have t60 := hb.1
  have bl := bt_le hb p
  have ty := h.1
  have he := next_ok hb h hp
  have c45 : (nI (bt t B p) = 45) = (bt t B p = 45) := nEc bl 45 (by decide)
  have c6 : (nI o = 6) = (o = 6) := nEc (by omega) 6 (by decide)
  have ltp := bt_lt (t := t) (B := B) (p := p) (by omega)
  unfold b_X6_opened fac
  rw [if_neg (show ¬ (97 ≤ bt t B p ∧ bt t B p ≤ 102) by omega), if_neg (show ¬ (48 ≤ bt t B p ∧ bt t B p ≤ 57) by omega), chk_p (o48 ty), h.2.2.2.1, lt_p, he, bc_p]
  have q1 := mo_T (q := o + 1) hT
  have q2 : MS0 (sA (sA σ 48 18 (nI (o + 1))) 48 17 (nI (p + 1))) t B (p + 1) m := mp_set (mo_set h (by omega) (by omega))
  have q3 : MTT (sA (sA σ 48 18 (nI (o + 1))) 48 17 (nI (p + 1))) (o + 1) m Φ := mp_T q1
  have q4 : PF m σ (sA (sA σ 48 18 (nI (o + 1))) 48 17 (nI (p + 1))) := (PF_s (by omega) (by omega)).seq (PF_s (by omega) (by omega))
  have q5 : hA (sA σ 48 18 (nI (o + 1))) 48 17 = nI p := by rw [hA_sA, if_neg (by omega)]; exact h.2.2.2.1
  by_cases z1 : bt t B p = 45
  · rw [if_pos (of_eq_true (c45.trans (eq_true z1))), lt_p, chk_p (o48 ty), hT.2.1, lt_p]
    by_cases w6 : o = 6
    · rw [if_pos (of_eq_true (c6.trans (eq_true w6))), if_pos (show 6 ≤ o by omega)]; exact MR_wrong h
    rw [if_neg (of_eq_false (c6.trans (eq_false w6))), if_neg (show ¬ 6 ≤ o by omega), if_pos z1, lt_p, nI_s, lt_p, q5, lt_p, nI_s, lt_p, if_neg (by decide)]
    obtain ⟨r, σ1, e1, f1, x1, y0, y1⟩ := h2 (by omega) _ (p + 1) Φ q2 q3 (by omega) (by omega)
    obtain ⟨g1, g2, g3⟩ := k2 (p + 1) Φ (by omega)
    rw [e1, bc_p, chk_p (o48 x1.1)]
    cases hG' : G2 (p + 1) Φ with
    | mk p1 rr =>
      rw [hG'] at x1 y0 y1 g1 g2 g3
      dsimp only at x1 y0 y1 g1 g2 g3
      cases rr with
      | none =>
        have z := y0 rfl
        rw [z, lt_p, if_pos rfl]
        exact ⟨_, σ1, rfl, q4.seq f1, x1, fun _ => z, fun x hx => by cases hx⟩
      | some x =>
        obtain ⟨Φ1, b⟩ := x
        obtain ⟨w1, w2, w3, w4, w5⟩ := g3 (Φ1, b) rfl
        obtain ⟨r1, r2⟩ := y1 (Φ1, b) rfl
        dsimp only at w1 w2 w3 w4 w5 r1 r2 ⊢
        have hn : mN Φ1 < 60 := by omega
        have u1 := mo_set (v := nI o) (k := 18) x1 (by omega) (by omega)
        have u2 := mo_T (q := o) r2
        rw [r2.1, lt_p, if_neg (by decide), r2.2.1, lt_p, nI_pred, lt_p, if_neg (by decide), r1, show (2 : Int32) = nI 2 from rfl, show (0 : Int32) = nI 0 from rfl, comes_ok u1.1 u1.2.2.2.2.1 u1.2.2.2.2.2 u2.2.2.1 hn, bc_p]
        exact ⟨_, _, rfl, ((q4.seq f1).seq (PF_s (by omega) (by omega))).seq (madd_pf hn), madd_0 hn u1, fun z => (by cases z), fun x hx => by cases hx; exact ⟨rfl, madd_T u2 hn⟩⟩
  · have z2 : bt t B p = 40 := n1.resolve_right z1
    rw [if_neg (of_eq_false (c45.trans (eq_false z1))), lt_p, chk_p (o48 ty), hT.2.1, lt_p]
    by_cases w6 : o = 6
    · rw [if_pos (of_eq_true (c6.trans (eq_true w6))), if_pos (show 6 ≤ o by omega)]; exact MR_wrong h
    rw [if_neg (of_eq_false (c6.trans (eq_false w6))), if_neg (show ¬ 6 ≤ o by omega), if_neg z1, if_pos z2, lt_p, nI_s, lt_p, q5, lt_p, nI_s, lt_p, if_pos rfl]
    obtain ⟨r, σ1, e1, f1, x1, y0, y1⟩ := h0 (by omega) _ (p + 1) Φ q2 q3 (by omega) (by omega)
    obtain ⟨g1, g2, g3⟩ := k0 (p + 1) Φ (by omega)
    rw [e1, bc_p, chk_p (o48 x1.1)]
    cases hG' : G0 (p + 1) Φ with
    | mk p1 rr =>
      rw [hG'] at x1 y0 y1 g1 g2 g3
      dsimp only at x1 y0 y1 g1 g2 g3
      cases rr with
      | none =>
        have z := y0 rfl
        rw [z, lt_p, if_pos rfl]
        exact ⟨_, σ1, rfl, q4.seq f1, x1, fun _ => z, fun x hx => by cases hx⟩
      | some x =>
        obtain ⟨Φ1, b⟩ := x
        obtain ⟨w1, w2, w3, w4, w5⟩ := g3 (Φ1, b) rfl
        obtain ⟨r1, r2⟩ := y1 (Φ1, b) rfl
        dsimp only at w1 w2 w3 w4 w5 r1 r2 ⊢
        have bl1 := bt_le hb p1
        have c41 : (nI (bt t B p1) = 41) = (bt t B p1 = 41) := nEc bl1 41 (by decide)
        have u1 := mo_set (v := nI o) (k := 18) x1 (by omega) (by omega)
        have u2 := mo_T (q := o) r2
        have u3 : PF m σ (sA σ1 48 18 (nI o)) := (q4.seq f1).seq (PF_s (by omega) (by omega))
        rw [r2.1, lt_p, if_neg (by decide), r2.2.1, lt_p, nI_pred, lt_p, if_pos rfl, next_ok hb u1 g2, bc_p]
        by_cases z3 : bt t B p1 = 41
        · have lt1 := bt_lt (t := t) (B := B) (p := p1) (by omega)
          rw [if_pos (of_eq_true (c41.trans (eq_true z3))), if_pos z3, chk_p (o48 u1.1), u1.2.2.2.1, lt_p, nI_s, lt_p]
          exact ⟨_, _, rfl, u3.seq (PF_s (by omega) (by omega)), mp_set u1, fun z => (by cases z), fun x hx => by cases hx; exact ⟨r1, mp_T u2⟩⟩
        · rw [if_neg (of_eq_false (c41.trans (eq_false z3))), if_neg z3, chk_p (o48 u1.1)]
          exact (MR_wrong u1).pre u3
theorem m_fac {t : Nat} {B : Nat → Nat} (hb : TB t B) {F : Nat → Nat → HS → Option (Int32 × HS)} {m o : Nat} {G2 G0 : Nat → FM → RR} (h3 : ∀ σ p Φ, MS0 σ t B p m → MTT σ o m Φ → p ≤ t → mN Φ ≤ p → (bt t B p = 40 ∨ bt t B p = 45) → MR t B m o σ (F 3 48 σ) (fac t B G2 G0 o p Φ)) (ho : o ≤ 6) {σ : HS} {p : Nat} {Φ : FM} (h : MS0 σ t B p m) (hT : MTT σ o m Φ) (hp : p ≤ t) (hm : mN Φ ≤ p) : MR t B m o σ (b_X6_factor F 48 σ) (fac t B G2 G0 o p Φ) := by
  have t60 := hb.1
  have bl := bt_le hb p
  have ty := h.1
  have he := next_ok hb h hp
  have c40 : (nI (bt t B p) = 40) = (bt t B p = 40) := nEc bl 40 (by decide)
  have c45 : (nI (bt t B p) = 45) = (bt t B p = 45) := nEc bl 45 (by decide)
  have l97 : (nI (bt t B p) < 97) = (bt t B p < 97) := propext (nI_ltI (b := 97) (by omega) (by omega))
  have l48 : (nI (bt t B p) < 48) = (bt t B p < 48) := propext (nI_ltI (b := 48) (by omega) (by omega))
  have l57 : (nI (bt t B p) ≤ 57) = (bt t B p ≤ 57) := propext (nI_leI (b := 57) (by omega) (by omega))
  have l102 : ((102 : Int32) < nI (bt t B p)) = (102 < bt t B p) := propext (nI_ltI (a := 102) (by omega) (by omega))
  have wr : ¬ (97 ≤ bt t B p ∧ bt t B p ≤ 102) → ¬ (48 ≤ bt t B p ∧ bt t B p ≤ 57) → bt t B p ≠ 40 → bt t B p ≠ 45 → MR t B m o σ (bc (f_X6_wrong 48 σ) fun r σ' => some (r, σ')) (fac t B G2 G0 o p Φ) := fun a b c d => by
    have e : fac t B G2 G0 o p Φ = (p, none) := by
      unfold fac
      rw [if_neg a, if_neg b, if_neg d, if_neg c, ite_self]
    rw [e]; exact MR_wrong h
  have op : ∀ {c : Prop}, (bt t B p = 40 ∨ bt t B p = 45) → MR t B m o σ (chk (isO σ 6 48) (bc (F 3 48 σ) fun r12 σ13 => some (r12, σ13))) (fac t B G2 G0 o p Φ) := fun c => by
    obtain ⟨r, σ', e, x⟩ := h3 σ p Φ h hT hp hm c
    rw [chk_p (o48 ty), e, bc_p]
    exact ⟨r, σ', rfl, x⟩
  unfold b_X6_factor
  rw [chk_p (o48 ty), he, bc_p]
  by_cases z1 : bt t B p = 40
  · rw [if_pos (of_eq_true (c40.trans (eq_true z1)))]; exact op (c := True) (Or.inl z1)
  rw [if_neg (of_eq_false (c40.trans (eq_false z1)))]
  by_cases z2 : bt t B p = 45
  · rw [if_pos (of_eq_true (c45.trans (eq_true z2)))]; exact op (c := True) (Or.inr z2)
  rw [if_neg (of_eq_false (c45.trans (eq_false z2)))]
  by_cases c1 : bt t B p < 97
  · rw [if_pos (of_eq_true (l97.trans (eq_true c1)))]
    by_cases c2 : bt t B p < 48
    · rw [if_pos (of_eq_true (l48.trans (eq_true c2))), chk_p (o48 ty)]; exact wr (by omega) (by omega) z1 z2
    rw [if_neg (of_eq_false (l48.trans (eq_false c2)))]
    by_cases c3 : bt t B p ≤ 57
    · have lt0 := bt_lt (t := t) (B := B) (p := p) (by omega)
      obtain ⟨σ', e1, e2, e3, e4⟩ := m_num hb (F := F) p (nI (bt t B p)) 4 p 0 σ (Nat.le_refl _) rfl h hT hp (by omega) 1000 (by omega)
      rw [if_pos (of_eq_true (l57.trans (eq_true c3))), chk_p (o48 ty), h.2.2.2.1, lt_p, lt_p, show (0 : Int32) = nI 0 from rfl, e1]
      unfold fac
      rw [if_neg (show ¬ (97 ≤ bt t B p ∧ bt t B p ≤ 102) by omega), if_pos (show 48 ≤ bt t B p ∧ bt t B p ≤ 57 by omega)]
      exact ⟨_, _, rfl, e2, e3, fun z => (by cases z), fun x hx => by cases hx; exact ⟨rfl, e4⟩⟩
    · rw [if_neg (of_eq_false (l57.trans (eq_false c3))), chk_p (o48 ty)]; exact wr (by omega) (by omega) z1 z2
  rw [if_neg (of_eq_false (l97.trans (eq_false c1)))]
  by_cases c2 : 102 < bt t B p
  · rw [if_pos (of_eq_true (l102.trans (eq_true c2))), if_neg (of_eq_false (l48.trans (eq_false (by omega)))), if_neg (of_eq_false (l57.trans (eq_false (by omega)))), chk_p (o48 ty)]; exact wr (by omega) (by omega) z1 z2
  · have lt0 := bt_lt (t := t) (B := B) (p := p) (by omega)
    have hn : mN Φ < 60 := by omega
    have u1 := mp_set (q := p + 1) h
    have u2 : MTT (sA σ 48 17 (nI (p + 1))) o m Φ := mp_T hT
    rw [if_neg (of_eq_false (l102.trans (eq_false c2))), chk_p (o48 ty), h.2.2.2.1, lt_p, nI_s, lt_p, hA_sA, if_pos ⟨rfl, rfl⟩, lt_p, nI_pred, show (97 : Int32) = nI 97 from rfl, pk_sub (show 97 ≤ bt t B p by omega), show (0 : Int32) = nI 0 from rfl, comes_ok u1.1 u1.2.2.2.2.1 u1.2.2.2.2.2 u2.2.2.1 hn, bc_p]
    unfold fac
    rw [if_pos (show 97 ≤ bt t B p ∧ bt t B p ≤ 102 by omega)]
    exact ⟨_, _, rfl, (PF_s (by omega) (by omega)).seq (madd_pf hn), madd_0 hn u1, fun z => (by cases z), fun x hx => by cases hx; exact ⟨rfl, madd_T u2 hn⟩⟩
theorem m_prs {t : Nat} {B : Nat → Nat} (hb : TB t B) {m : Nat} : ∀ n tag o, tag ≤ 2 → o ≤ 6 → 21 ≤ n + tag + 3 * o → ∀ N, 2 * n ≤ N → mFF t B m (g_MP N) tag o (prs t B n tag o) := by
  have t60 := hb.1
  intro n
  induction n with
  | zero => intro tag o h1 h2 h3 N hN; omega
  | succ n ih =>
    intro tag o h1 h2 h3 N hN σ p Φ h hT hp hm
    obtain ⟨N, rfl⟩ : ∃ k, N = k + 2 := ⟨N - 2, by omega⟩
    have ty := h.1
    rw [show prs t B (n + 1) tag o p Φ = (if tag = 0 then (match prs t B n 1 o p Φ with
      | (p1, none) => (p1, none)
      | (p1, some (Φ1, a)) => jn t B (prs t B n 1 o) sgS 60 p1 Φ1 a)
    else if tag = 1 then (match prs t B n 2 o p Φ with
      | (p1, none) => (p1, none)
      | (p1, some (Φ1, a)) => jn t B (prs t B n 2 o) sgP 60 p1 Φ1 a)
    else fac t B (prs t B n 2 (o + 1)) (prs t B n 0 (o + 1)) o p Φ) from rfl]
    show MR t B m o σ (if tag = 0 then b_X6_sums (g_MP (N + 1)) 48 σ else if tag = 1 then b_X6_products (g_MP (N + 1)) 48 σ else if tag = 2 then b_X6_factor (g_MP (N + 1)) 48 σ else if tag = 3 then b_X6_opened (g_MP (N + 1)) 48 σ else none) _
    by_cases c1 : tag = 0
    · rw [if_pos c1, if_pos c1]
      have hF := ih 1 o (by omega) h2 (by omega) (N + 1) (by omega)
      obtain ⟨r, σ1, e1, f1, x1, y0, y1⟩ := hF σ p Φ h hT hp hm
      obtain ⟨g1, g2, g3⟩ := prs_ok (B := B) t60 n 1 o p Φ hp
      unfold b_X6_sums
      rw [chk_p (o48 ty), e1, bc_p]
      cases hG : prs t B n 1 o p Φ with
      | mk p1 rr =>
        rw [hG] at x1 y0 y1 g1 g2 g3
        dsimp only at x1 y0 y1 g1 g2 g3
        cases rr with
        | none =>
          have z := y0 rfl
          rw [m_sum0 _ x1.1 z r 1000 (by omega)]
          exact ⟨_, σ1, rfl, f1, x1, fun _ => z, fun x hx => by cases hx⟩
        | some x =>
          obtain ⟨Φ1, a⟩ := x
          obtain ⟨w1, w2, w3, w4, w5⟩ := g3 (Φ1, a) rfl
          obtain ⟨r1, r2⟩ := y1 (Φ1, a) rfl
          dsimp only at w1 w2 w3 w4 w5 r1 r2 ⊢
          rw [r1]
          exact (mm_sum hb hF (fun p Φ hp => prs_ok t60 n 1 o p Φ hp) 60 p1 Φ1 a σ1 (by omega) x1 r2 g2 (by omega) w4 1000 (by omega)).pre f1
    rw [if_neg c1, if_neg c1]
    by_cases c2 : tag = 1
    · rw [if_pos c2, if_pos c2]
      have hF := ih 2 o (by omega) h2 (by omega) (N + 1) (by omega)
      obtain ⟨r, σ1, e1, f1, x1, y0, y1⟩ := hF σ p Φ h hT hp hm
      obtain ⟨g1, g2, g3⟩ := prs_ok (B := B) t60 n 2 o p Φ hp
      unfold b_X6_products
      rw [chk_p (o48 ty), e1, bc_p]
      cases hG : prs t B n 2 o p Φ with
      | mk p1 rr =>
        rw [hG] at x1 y0 y1 g1 g2 g3
        dsimp only at x1 y0 y1 g1 g2 g3
        cases rr with
        | none =>
          have z := y0 rfl
          rw [m_prd0 _ x1.1 z r 1000 (by omega)]
          exact ⟨_, σ1, rfl, f1, x1, fun _ => z, fun x hx => by cases hx⟩
        | some x =>
          obtain ⟨Φ1, a⟩ := x
          obtain ⟨w1, w2, w3, w4, w5⟩ := g3 (Φ1, a) rfl
          obtain ⟨r1, r2⟩ := y1 (Φ1, a) rfl
          dsimp only at w1 w2 w3 w4 w5 r1 r2 ⊢
          rw [r1]
          exact (m_prd hb hF (fun p Φ hp => prs_ok t60 n 2 o p Φ hp) 60 p1 Φ1 a σ1 (by omega) x1 r2 g2 (by omega) w4 1000 (by omega)).pre f1
    rw [if_neg c2, if_neg c2, if_pos (show tag = 2 by omega)]
    refine m_fac hb (fun σ p Φ h hT hp hm hc => ?_) h2 h hT hp hm
    exact m_open hb (F := g_MP N) (fun ho => ih 2 (o + 1) (by omega) (by omega) (by omega) N (by omega)) (fun ho => ih 0 (o + 1) (by omega) (by omega) (by omega) N (by omega)) (fun p Φ hp => prs_ok t60 n 2 (o + 1) p Φ hp) (fun p Φ hp => prs_ok t60 n 0 (o + 1) p Φ hp) h2 h hT hp hm hc
