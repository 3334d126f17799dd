/-! sums, products, factors in the class -/
abbrev xF (t : Nat) (B : Nat → Nat) (F : Nat → Nat → Int32 → HS → Option (Int32 × HS)) (tg o : Nat) (G : Nat → FM → RR) : Prop := ∀ σ p Φ, XS0 σ t B p → TPr σ Φ → p ≤ t → mN Φ ≤ p → CR t B σ (F tg 17 (nI o) σ) (G p Φ)
theorem CR.pre {t : Nat} {B : Nat → Nat} {σ σ1 : HS} {y : Option (Int32 × HS)} {res : RR} (f : Fr xrows σ σ1) (h : CR t B σ1 y res) : CR t B σ y res := by
  obtain ⟨r, σ', e, fr, x⟩ := h
  exact ⟨r, σ', e, f.seq fr, x⟩
theorem x_sumF {t : Nat} {B : Nat → Nat} (hb : TB t B) (F : Nat → Nat → Int32 → HS → Option (Int32 × HS)) (o : Int32) (x3 : Int32) {p : Nat} {σ : HS} (h : XS0 σ t B p) (hp : p ≤ t) : ∀ nf, 1 ≤ nf → lp_X3_readSum_8 F nf 17 o (-1) x3 σ = some (-1, σ) := by
  intro nf hnf
  obtain ⟨nf, rfl⟩ : ∃ k, nf = k + 1 := ⟨nf - 1, by omega⟩
  have he := here_ok hb h hp
  show lp_X3_readSum_8_b F (lp_X3_readSum_8 F nf) 17 o (-1) x3 σ = _
  unfold lp_X3_readSum_8_b
  by_cases c : (60 : Int32) ≤ x3
  · rw [if_pos c]
  · rw [if_neg c, chk_p (o17 h.1), he, bc_p, if_pos rfl]
theorem x_prdF (F : Nat → Nat → Int32 → HS → Option (Int32 × HS)) (o : Int32) (x3 : Int32) {σ : HS} : ∀ nf, 1 ≤ nf → lp_X3_readProduct_8 F nf 17 o (-1) x3 σ = some (-1, σ) := by
  intro nf hnf
  obtain ⟨nf, rfl⟩ : ∃ k, nf = k + 1 := ⟨nf - 1, by omega⟩
  show lp_X3_readProduct_8_b F (lp_X3_readProduct_8 F nf) 17 o (-1) x3 σ = _
  unfold lp_X3_readProduct_8_b
  by_cases c : (60 : Int32) ≤ x3
  · rw [if_pos c]
  · rw [if_neg c, if_pos rfl]
theorem nEc {a : Nat} (h : a ≤ 127) (b : Nat) (hb : b ≤ 127) : (nI a = nI b) = (a = b) := nE (by omega) (by omega)
theorem x_sum {t : Nat} {B : Nat → Nat} (hb : TB t B) {F : Nat → Nat → Int32 → HS → Option (Int32 × HS)} {o : Nat} {G : Nat → FM → RR} (hF : xF t B F 1 o G) (hG : ∀ p Φ, p ≤ t → FA t p Φ (G p Φ)) : ∀ k j p Φ a (σ : HS), k + j = 60 → XS0 σ t B p → TPr σ Φ → p ≤ t → mN Φ ≤ p → a + 1 = mN Φ → ∀ nf, k + 1 < nf → CR t B σ (lp_X3_readSum_8 F nf 17 (nI o) (nI a) (nI j) σ) (jn t B G sgS k p Φ a) := by
  have t60 := hb.1
  intro k
  induction k with
  | zero =>
    intro j p Φ a σ hj h hT hp hm ha nf hnf
    obtain ⟨nf, rfl⟩ : ∃ k, nf = k + 1 := ⟨nf - 1, by omega⟩
    refine ⟨nI a, σ, ?_, Fr.rf, h, fun z => (by cases z), fun x hx => by cases hx; exact ⟨rfl, hT⟩⟩
    show lp_X3_readSum_8_b F (lp_X3_readSum_8 F nf) 17 (nI o) (nI a) (nI j) σ = _
    unfold lp_X3_readSum_8_b
    rw [show j = 60 by omega, if_pos (by decide)]
  | succ k ih =>
    intro j p Φ a σ hj h hT hp hm ha nf hnf
    obtain ⟨nf, rfl⟩ : ∃ k, nf = k + 1 := ⟨nf - 1, by omega⟩
    have ty := h.1
    have he := here_ok hb h hp
    have bl := bt_le hb p
    have l60 : ((60 : Int32) ≤ nI j) = False := nle (a := 60) (b := j) (by omega) (by omega)
    have am := nIm1 (a := a) (by omega)
    have c43 : (nI (bt t B p) = 43) = (bt t B p = 43) := nEc bl 43 (by decide)
    have c45 : (nI (bt t B p) = 45) = (bt t B p = 45) := nEc bl 45 (by decide)
    show CR t B σ (lp_X3_readSum_8_b F (lp_X3_readSum_8 F nf) 17 (nI o) (nI a) (nI j) σ) (if sgS (bt t B p) = 0 then (p, some (Φ, a)) else match G (p + 1) Φ with
      | (p1, none) => (p1, none)
      | (p1, some (Φ1, b)) => jn t B G sgS k p1 (addP Φ1 (sgS (bt t B p)) a b p) (mN Φ1))
    unfold lp_X3_readSum_8_b
    rw [if_neg (of_eq_false l60), chk_p (o17 ty), he, bc_p, if_neg (of_eq_false am)]
    obtain ⟨s1, s2⟩ := xp_set (q := p + 1) h
    have step : ∀ kd : Nat, 3 ≤ kd → sgS (bt t B p) = kd → p < t → CR t B σ (bc (F 1 17 (nI o) (sA σ 17 2 (nI (p + 1)))) fun r33 σ34 => bc (f_X3_join 17 (nI kd) (nI p) (nI a) r33 σ34) fun r50 σ51 => lp_X3_readSum_8 F nf 17 (nI o) r50 (nI (j + 1)) σ51) (match G (p + 1) Φ with
      | (p1, none) => (p1, none)
      | (p1, some (Φ1, b)) => jn t B G sgS k p1 (addP Φ1 (sgS (bt t B p)) a b p) (mN Φ1)) := fun kd h3 hk lt => by
      obtain ⟨r, σ1, e1, f1, x1, n1, y1⟩ := hF (sA σ 17 2 (nI (p + 1))) (p + 1) Φ s1 (xp_T hT) (by omega) (by omega)
      obtain ⟨g1, g2, g3⟩ := hG (p + 1) Φ (by omega)
      rw [e1, bc_p]
      cases hG' : G (p + 1) Φ with
      | mk p1 rr =>
        rw [hG'] at x1 n1 y1 g1 g2 g3
        dsimp only at x1 n1 y1 g1 g2 g3
        cases rr with
        | none =>
          rw [n1 rfl, joinF_ok _ _ _ _ (Or.inr rfl), bc_p, x_sumF hb F (nI o) (nI (j + 1)) x1 g2 nf (by omega)]
          exact ⟨-1, σ1, rfl, s2.seq f1, x1, fun _ => rfl, fun x hx => by cases hx⟩
        | some x =>
          obtain ⟨Φ1, b⟩ := x
          obtain ⟨w1, w2, w3, w4, w5⟩ := g3 (Φ1, b) rfl
          obtain ⟨r1, r2⟩ := y1 (Φ1, b) rfl
          dsimp only at w1 w2 w3 w4 w5 r1 r2 ⊢
          rw [r1, join_ok x1.1 r2.1 (by omega) _ _ (by omega) (by omega), bc_p, hk]
          have T := xadd_T r2 (k := kd) (u := a) (v := b) (pl := p)
          rw [if_neg (show ¬ kd ≤ 1 by omega), if_neg (show ¬ kd ≤ 1 by omega), if_neg (show ¬ kd ≤ 1 by omega), if_neg (show ¬ kd = 2 by omega)] at T
          exact ((ih (j + 1) p1 (addP Φ1 kd a b p) (mN Φ1) _ (by omega) (xadd_0 x1) T g2 (by rw [addP_n]; omega) rfl nf (by omega)).pre xadd_fr).pre (s2.seq f1)
    by_cases z1 : bt t B p = 43
    · have sg : sgS (bt t B p) = 3 := if_pos z1
      have lt := bt_lt (t := t) (B := B) (p := p) (by omega)
      have c43' := of_eq_true (c43.trans (eq_true z1))
      rw [if_pos c43', if_neg (show ¬ sgS (bt t B p) = 0 by omega), chk_p (o17 ty), h.2.2.2, lt_p, lt_p, nI_s, lt_p]
      have := step 3 (by omega) sg lt
      obtain ⟨r, σ1, e1, f1, x1, -⟩ := hF (sA σ 17 2 (nI (p + 1))) (p + 1) Φ s1 (xp_T hT) (by omega) (by omega)
      rw [e1, bc_p] at this ⊢
      rw [if_pos c43', chk_p (o17 x1.1)]
      simp only [nI_s, lt_p]
      exact this
    · have c43' := of_eq_false (c43.trans (eq_false z1))
      rw [if_neg c43']
      by_cases z2 : bt t B p = 45
      · have sg : sgS (bt t B p) = 4 := by unfold sgS; rw [if_neg z1, if_pos z2]
        have lt := bt_lt (t := t) (B := B) (p := p) (by omega)
        have c45' := of_eq_true (c45.trans (eq_true z2))
        rw [if_pos c45', if_neg (show ¬ sgS (bt t B p) = 0 by omega), chk_p (o17 ty), h.2.2.2, lt_p, lt_p, nI_s, lt_p]
        have := step 4 (by omega) sg lt
        obtain ⟨r, σ1, e1, f1, x1, -⟩ := hF (sA σ 17 2 (nI (p + 1))) (p + 1) Φ s1 (xp_T hT) (by omega) (by omega)
        rw [e1, bc_p] at this ⊢
        rw [if_neg c43', chk_p (o17 x1.1)]
        simp only [nI_s, lt_p]
        exact this
      · have sg : sgS (bt t B p) = 0 := by unfold sgS; rw [if_neg z1, if_neg z2]
        rw [if_neg (of_eq_false (c45.trans (eq_false z2))), if_pos sg]
        exact ⟨nI a, σ, rfl, Fr.rf, h, fun z => (by cases z), fun x hx => by cases hx; exact ⟨rfl, hT⟩⟩
theorem x_prd {t : Nat} {B : Nat → Nat} (hb : TB t B) {F : Nat → Nat → Int32 → HS → Option (Int32 × HS)} {o : Nat} {G : Nat → FM → RR} (hF : xF t B F 2 o G) (hG : ∀ p Φ, p ≤ t → FA t p Φ (G p Φ)) : ∀ k j p Φ a (σ : HS), k + j = 60 → XS0 σ t B p → TPr σ Φ → p ≤ t → mN Φ ≤ p → a + 1 = mN Φ → ∀ nf, k + 1 < nf → CR t B σ (lp_X3_readProduct_8 F nf 17 (nI o) (nI a) (nI j) σ) (jn t B G sgP k p Φ a) := by
  have t60 := hb.1
  intro k
  induction k with
  | zero =>
    intro j p Φ a σ hj h hT hp hm ha nf hnf
    obtain ⟨nf, rfl⟩ : ∃ k, nf = k + 1 := ⟨nf - 1, by omega⟩
    refine ⟨nI a, σ, ?_, Fr.rf, h, fun z => (by cases z), fun x hx => by cases hx; exact ⟨rfl, hT⟩⟩
    show lp_X3_readProduct_8_b F (lp_X3_readProduct_8 F nf) 17 (nI o) (nI a) (nI j) σ = _
    unfold lp_X3_readProduct_8_b
    rw [show j = 60 by omega, if_pos (by decide)]
  | succ k ih =>
    intro j p Φ a σ hj h hT hp hm ha nf hnf
    obtain ⟨nf, rfl⟩ : ∃ k, nf = k + 1 := ⟨nf - 1, by omega⟩
    have ty := h.1
    have he := here_ok hb h hp
    have bl := bt_le hb p
    have l60 : ((60 : Int32) ≤ nI j) = False := nle (a := 60) (b := j) (by omega) (by omega)
    have am := nIm1 (a := a) (by omega)
    have c42 : (nI (bt t B p) = 42) = (bt t B p = 42) := nEc bl 42 (by decide)
    show CR t B σ (lp_X3_readProduct_8_b F (lp_X3_readProduct_8 F nf) 17 (nI o) (nI a) (nI j) σ) (if sgP (bt t B p) = 0 then (p, some (Φ, a)) else match G (p + 1) Φ with
      | (p1, none) => (p1, none)
      | (p1, some (Φ1, b)) => jn t B G sgP k p1 (addP Φ1 (sgP (bt t B p)) a b p) (mN Φ1))
    unfold lp_X3_readProduct_8_b
    rw [if_neg (of_eq_false l60), if_neg (of_eq_false am), chk_p (o17 ty), he, bc_p]
    obtain ⟨s1, s2⟩ := xp_set (q := p + 1) h
    by_cases z1 : bt t B p = 42
    · have sg : sgP (bt t B p) = 5 := if_pos z1
      have lt := bt_lt (t := t) (B := B) (p := p) (by omega)
      rw [if_pos (of_eq_true (c42.trans (eq_true z1))), if_neg (show ¬ sgP (bt t B p) = 0 by omega), chk_p (o17 ty), h.2.2.2, lt_p, lt_p, nI_s, lt_p]
      obtain ⟨r, σ1, e1, f1, x1, n1, y1⟩ := hF (sA σ 17 2 (nI (p + 1))) (p + 1) Φ s1 (xp_T hT) (by omega) (by omega)
      obtain ⟨g1, g2, g3⟩ := hG (p + 1) Φ (by omega)
      rw [e1, bc_p, chk_p (o17 x1.1)]
      cases hG' : G (p + 1) Φ with
      | mk p1 rr =>
        rw [hG'] at x1 n1 y1 g1 g2 g3
        dsimp only at x1 n1 y1 g1 g2 g3
        cases rr with
        | none =>
          rw [n1 rfl, joinF_ok _ _ _ _ (Or.inr rfl), bc_p, lt_p, nI_s, x_prdF F (nI o) (nI (j + 1)) nf (by omega)]
          exact ⟨-1, σ1, rfl, s2.seq f1, x1, fun _ => rfl, fun x hx => by cases hx⟩
        | some x =>
          obtain ⟨Φ1, b⟩ := x
          obtain ⟨w1, w2, w3, w4, w5⟩ := g3 (Φ1, b) rfl
          obtain ⟨r1, r2⟩ := y1 (Φ1, b) rfl
          dsimp only at w1 w2 w3 w4 w5 r1 r2 ⊢
          rw [r1, join_ok x1.1 r2.1 (by omega) _ _ (by omega) (by omega), bc_p, lt_p, nI_s, sg]
          have T := xadd_T r2 (k := 5) (u := a) (v := b) (pl := p)
          rw [if_neg (show ¬ 5 ≤ 1 by omega), if_neg (show ¬ 5 ≤ 1 by omega), if_neg (show ¬ 5 ≤ 1 by omega), if_neg (show ¬ 5 = 2 by omega)] at T
          exact ((ih (j + 1) p1 (addP Φ1 5 a b p) (mN Φ1) _ (by omega) (xadd_0 x1) T g2 (by rw [addP_n]; omega) rfl nf (by omega)).pre xadd_fr).pre (s2.seq f1)
    · have sg : sgP (bt t B p) = 0 := by unfold sgP; rw [if_neg z1]
      rw [if_neg (of_eq_false (c42.trans (eq_false z1))), if_pos sg]
      exact ⟨nI a, σ, rfl, Fr.rf, h, fun z => (by cases z), fun x hx => by cases hx; exact ⟨rfl, hT⟩⟩
/-- a factor that opens: - or ( ahead of it -/
theorem x_open {t : Nat} {B : Nat → Nat} (hb : TB t B) {F : Nat → Nat → Int32 → HS → Option (Int32 × HS)} {o : Nat} {G2 G0 : Nat → FM → RR} (h2 : o < 6 → xF t B F 2 (o + 1) G2) (h0 : o < 6 → xF t B F 0 (o + 1) G0) (k2 : ∀ p Φ, p ≤ t → FA t p Φ (G2 p Φ)) (k0 : ∀ p Φ, p ≤ t → FA t p Φ (G0 p Φ)) (ho : o ≤ 6) {σ : HS} {p : Nat} {Φ : FM} (h : XS0 σ t B p) (hT : TPr σ Φ) (hp : p ≤ t) (hm : mN Φ ≤ p) (n1 : ¬ (97 ≤ bt t B p ∧ bt t B p ≤ 102)) (n2 : ¬ (48 ≤ bt t B p ∧ bt t B p ≤ 57)) :
    CR t B σ (if (6 : Int32) ≤ nI o then some ((-1 : Int32), σ) else
      (if nI (bt t B p) = (45 : Int32) then
        chk (isO σ 3 17) (lt (hA σ 17 2) fun v25 => lt (hA σ 17 2) fun v27 => lt (sA σ 17 2 (v27 + (1 : Int32))) fun σ29 =>
          (if nI (bt t B p) = (45 : Int32) then bc (F 2 17 (nI o + (1 : Int32)) σ29) fun r58 σ59 => chk (isO σ59 3 17) (bc (f_X3_join 17 (2 : Int32) v25 r58 r58 σ59) fun r64 σ65 => some (r64, σ65))
          else bc (F 0 17 (nI o + (1 : Int32)) σ29) fun r35 σ36 => (if r35 = (-1 : Int32) then some ((-1 : Int32), σ36) else chk (isO σ36 3 17) (bc (f_X3_here 17 σ36) fun r44 σ45 => (if r44 = (41 : Int32) then chk (isO σ45 3 17) (lt (hA σ45 17 2) fun v53 => lt (sA σ45 17 2 (v53 + (1 : Int32))) fun σ55 => some (r35, σ55)) else some ((-1 : Int32), σ45))))))
      else (if nI (bt t B p) = (40 : Int32) then
        chk (isO σ 3 17) (lt (hA σ 17 2) fun v73 => lt (hA σ 17 2) fun v75 => lt (sA σ 17 2 (v75 + (1 : Int32))) fun σ77 =>
          (if nI (bt t B p) = (45 : Int32) then bc (F 2 17 (nI o + (1 : Int32)) σ77) fun r106 σ107 => chk (isO σ107 3 17) (bc (f_X3_join 17 (2 : Int32) v73 r106 r106 σ107) fun r112 σ113 => some (r112, σ113))
          else bc (F 0 17 (nI o + (1 : Int32)) σ77) fun r83 σ84 => (if r83 = (-1 : Int32) then some ((-1 : Int32), σ84) else chk (isO σ84 3 17) (bc (f_X3_here 17 σ84) fun r92 σ93 => (if r92 = (41 : Int32) then chk (isO σ93 3 17) (lt (hA σ93 17 2) fun v101 => lt (sA σ93 17 2 (v101 + (1 : Int32))) fun σ103 => some (r83, σ103)) else some ((-1 : Int32), σ93))))))
        else some ((-1 : Int32), σ)))) (fac t B G2 G0 o p Φ) := by
  have t60 := hb.1
  have bl := bt_le hb p
  have ty := h.1
  have c45 : (nI (bt t B p) = 45) = (bt t B p = 45) := nEc bl 45 (by decide)
  have c40 : (nI (bt t B p) = 40) = (bt t B p = 40) := nEc bl 40 (by decide)
  have l6 : ((6 : Int32) ≤ nI o) = (6 ≤ o) := propext (nI_leI (a := 6) (by omega) (by omega))
  have fault : CR t B σ (some ((-1 : Int32), σ)) (p, none) := ⟨-1, σ, rfl, Fr.rf, h, fun _ => rfl, fun x hx => by cases hx⟩
  unfold fac
  rw [if_neg n1, if_neg n2]
  by_cases c6 : 6 ≤ o
  · rw [if_pos (of_eq_true (l6.trans (eq_true c6))), if_pos c6]; exact fault
  rw [if_neg (of_eq_false (l6.trans (eq_false c6))), if_neg c6]
  obtain ⟨s1, s2⟩ := xp_set (q := p + 1) h
  by_cases z1 : bt t B p = 45
  · have z1' := of_eq_true (c45.trans (eq_true z1))
    have ltp := bt_lt (t := t) (B := B) (p := p) (by omega)
    obtain ⟨r, σ1, e1, f1, x1, y0, y1⟩ := h2 (by omega) (sA σ 17 2 (nI (p + 1))) (p + 1) Φ s1 (xp_T hT) (by omega) (by omega)
    obtain ⟨g1, g2, g3⟩ := k2 (p + 1) Φ (by omega)
    rw [if_pos z1', if_pos z1, chk_p (o17 ty), h.2.2.2, lt_p, lt_p, nI_s, lt_p, if_pos z1', nI_s, e1, bc_p, chk_p (o17 x1.1)]
    cases hG' : G2 (p + 1) Φ with
    | mk p1 rr =>
      rw [hG'] at x1 y0 y1 g1 g2 g3
      dsimp only at x1 y0 y1 g1 g2 g3
      cases rr with
      | none =>
        rw [y0 rfl, joinF_ok _ _ _ _ (Or.inl rfl), bc_p]
        exact ⟨-1, σ1, rfl, s2.seq f1, x1, fun _ => rfl, fun x hx => by cases hx⟩
      | some x =>
        obtain ⟨Φ1, b⟩ := x
        obtain ⟨w1, w2, w3, w4, w5⟩ := g3 (Φ1, b) rfl
        obtain ⟨r1, r2⟩ := y1 (Φ1, b) rfl
        dsimp only at w1 w2 w3 w4 w5 r1 r2 ⊢
        rw [r1, join_ok x1.1 r2.1 (by omega) _ _ (by omega) (by omega), bc_p]
        have T := xadd_T r2 (k := 2) (u := b) (v := 0) (pl := p)
        rw [if_neg (show ¬ 2 ≤ 1 by omega), if_neg (show ¬ 2 ≤ 1 by omega), if_neg (show ¬ 2 ≤ 1 by omega), if_pos rfl] at T
        exact ⟨_, _, rfl, (s2.seq f1).seq xadd_fr, xadd_0 x1, fun z => (by cases z), fun x hx => by cases hx; exact ⟨rfl, T⟩⟩
  have z1' := of_eq_false (c45.trans (eq_false z1))
  rw [if_neg z1', if_neg z1]
  by_cases z2 : bt t B p = 40
  · have z2' := of_eq_true (c40.trans (eq_true z2))
    have ltp := bt_lt (t := t) (B := B) (p := p) (by omega)
    obtain ⟨r, σ1, e1, f1, x1, y0, y1⟩ := h0 (by omega) (sA σ 17 2 (nI (p + 1))) (p + 1) Φ s1 (xp_T hT) (by omega) (by omega)
    obtain ⟨g1, g2, g3⟩ := k0 (p + 1) Φ (by omega)
    rw [if_pos z2', if_pos z2, chk_p (o17 ty), h.2.2.2, lt_p, lt_p, nI_s, lt_p, if_neg z1', nI_s, e1, bc_p]
    cases hG' : G0 (p + 1) Φ with
    | mk p1 rr =>
      rw [hG'] at x1 y0 y1 g1 g2 g3
      dsimp only at x1 y0 y1 g1 g2 g3
      cases rr with
      | none =>
        rw [y0 rfl, if_pos rfl]
        exact ⟨-1, σ1, rfl, s2.seq f1, x1, fun _ => rfl, fun x hx => by cases hx⟩
      | some x =>
        obtain ⟨Φ1, b⟩ := x
        obtain ⟨w1, w2, w3, w4, w5⟩ := g3 (Φ1, b) rfl
        obtain ⟨r1, r2⟩ := y1 (Φ1, b) rfl
        dsimp only at w1 w2 w3 w4 w5 r1 r2 ⊢
        have bl1 := bt_le hb p1
        have c41 : (nI (bt t B p1) = 41) = (bt t B p1 = 41) := nEc bl1 41 (by decide)
        rw [r1, if_neg (of_eq_false (nIm1 (a := b) (by omega))), chk_p (o17 x1.1), here_ok hb x1 g2, bc_p]
        by_cases z3 : bt t B p1 = 41
        · have lt1 := bt_lt (t := t) (B := B) (p := p1) (by omega)
          obtain ⟨u1, u2⟩ := xp_set (q := p1 + 1) x1
          rw [if_pos (of_eq_true (c41.trans (eq_true z3))), if_pos z3, chk_p (o17 x1.1), x1.2.2.2, lt_p, nI_s, lt_p]
          exact ⟨_, _, rfl, (s2.seq f1).seq u2, u1, fun z => (by cases z), fun x hx => by cases hx; exact ⟨rfl, xp_T r2⟩⟩
        · rw [if_neg (of_eq_false (c41.trans (eq_false z3))), if_neg z3]
          exact ⟨_, _, rfl, s2.seq f1, x1, fun _ => rfl, fun x hx => by cases hx⟩
  rw [if_neg (of_eq_false (c40.trans (eq_false z2))), if_neg z2]; exact fault
theorem x_fac {t : Nat} {B : Nat → Nat} (hb : TB t B) {F : Nat → Nat → Int32 → HS → Option (Int32 × HS)} {o : Nat} {G2 G0 : Nat → FM → RR} (h2 : o < 6 → xF t B F 2 (o + 1) G2) (h0 : o < 6 → xF t B F 0 (o + 1) G0) (k2 : ∀ p Φ, p ≤ t → FA t p Φ (G2 p Φ)) (k0 : ∀ p Φ, p ≤ t → FA t p Φ (G0 p Φ)) (ho : o ≤ 6) {σ : HS} {p : Nat} {Φ : FM} (h : XS0 σ t B p) (hT : TPr σ Φ) (hp : p ≤ t) (hm : mN Φ ≤ p) : CR t B σ (b_X3_readFactor F 17 (nI o) σ) (fac t B G2 G0 o p Φ) := by
  have t60 := hb.1
  have bl := bt_le hb p
  have ty := h.1
  have he := here_ok hb h hp
  have l97 : (nI (bt t B p) < 97) = (bt t B p < 97) := propext (nI_ltI (b := 97) (by omega) (by omega))
  have l102 : ((102 : Int32) < nI (bt t B p)) = (102 < bt t B p) := propext (nI_ltI (a := 102) (by omega) (by omega))
  have fg := isFig_ok (c := bt t B p) (by omega) σ
  have num : 48 ≤ bt t B p ∧ bt t B p ≤ 57 → CR t B σ (chk (isO σ 3 17) (bc (f_X3_readNumber 17 σ) fun r118 σ119 => some (r118, σ119))) (fac t B G2 G0 o p Φ) := fun c => by
    have lt := bt_lt (t := t) (B := B) (p := p) (by omega)
    obtain ⟨σ', e1, e2, e3, e4⟩ := x_num hb p 4 p 0 σ (Nat.le_refl _) h hT hp (by omega) 1000 (by omega)
    have er : f_X3_readNumber 17 σ = some (nI (mN Φ), σ') := by
      unfold f_X3_readNumber
      rw [chk_p (o17 ty), h.2.2.2, lt_p, lt_p, lt_p]
      exact e1
    rw [chk_p (o17 ty), er, bc_p]
    unfold fac
    rw [if_neg (show ¬ (97 ≤ bt t B p ∧ bt t B p ≤ 102) by omega), if_pos c]
    exact ⟨_, _, rfl, e2, e3, fun z => (by cases z), fun x hx => by cases hx; exact ⟨rfl, e4⟩⟩
  unfold b_X3_readFactor
  rw [chk_p (o17 ty), he, bc_p]
  by_cases c1 : bt t B p < 97
  · rw [if_pos (of_eq_true (l97.trans (eq_true c1))), fg, bc_p]
    by_cases c2 : 48 ≤ bt t B p ∧ bt t B p ≤ 57
    · rw [if_pos c2, if_neg (by decide)]; exact num c2
    · rw [if_neg c2, if_pos rfl]
      exact x_open hb h2 h0 k2 k0 ho h hT hp hm (by omega) c2
  · rw [if_neg (of_eq_false (l97.trans (eq_false c1)))]
    by_cases c3 : 102 < bt t B p
    · rw [if_pos (of_eq_true (l102.trans (eq_true c3))), fg, bc_p, if_neg (show ¬ (48 ≤ bt t B p ∧ bt t B p ≤ 57) by omega), if_pos rfl]
      exact x_open hb h2 h0 k2 k0 ho h hT hp hm (by omega) (by omega)
    · have lt := bt_lt (t := t) (B := B) (p := p) (by omega)
      obtain ⟨s1, s2⟩ := xp_set (q := p + 1) h
      have T := xadd_T (xp_T (q := p + 1) hT) (k := 0) (u := bt t B p - 97) (v := 0) (pl := p)
      rw [if_neg (of_eq_false (l102.trans (eq_false c3))), chk_p (o17 ty), h.2.2.2, lt_p, nI_s, lt_p, hA_sA, if_pos ⟨rfl, rfl⟩, lt_p, nI_pred, show (97 : Int32) = nI 97 from rfl, pk_sub (show 97 ≤ bt t B p by omega), add_ok s1.1 (xp_T hT).1 (by omega), bc_p]
      unfold fac
      rw [if_pos (show 97 ≤ bt t B p ∧ bt t B p ≤ 102 by omega)]
      exact ⟨_, _, rfl, s2.seq xadd_fr, xadd_0 s1, fun z => (by cases z), fun x hx => by cases hx; exact ⟨rfl, T⟩⟩
theorem x_prs {t : Nat} {B : Nat → Nat} (hb : TB t B) : ∀ n tag o, tag ≤ 2 → o ≤ 6 → 21 ≤ n + tag + 3 * o → ∀ N, n ≤ N → xF t B (g_XP N) tag o (prs t B n tag o) := by
  have t60 := hb.1
  intro n
  induction n with
  | zero => intro tag o h1 h2 h3 N hN; omega
  | succ n ih =>
    intro tag o h1 h2 h3 N hN σ p Φ h hT hp hm
    obtain ⟨N, rfl⟩ : ∃ k, N = k + 1 := ⟨N - 1, by omega⟩
    have ty := h.1
    rw [show prs t B (n + 1) tag o p Φ = (if tag = 0 then (match prs t B n 1 o p Φ with
      | (p1, none) => (p1, none)
      | (p1, some (Φ1, a)) => jn t B (prs t B n 1 o) sgS 60 p1 Φ1 a)
    else if tag = 1 then (match prs t B n 2 o p Φ with
      | (p1, none) => (p1, none)
      | (p1, some (Φ1, a)) => jn t B (prs t B n 2 o) sgP 60 p1 Φ1 a)
    else fac t B (prs t B n 2 (o + 1)) (prs t B n 0 (o + 1)) o p Φ) from rfl]
    show CR t B σ (if tag = 0 then b_X3_readSum (g_XP N) 17 (nI o) σ else if tag = 1 then b_X3_readProduct (g_XP N) 17 (nI o) σ else if tag = 2 then b_X3_readFactor (g_XP N) 17 (nI o) σ else none) _
    by_cases c1 : tag = 0
    · rw [if_pos c1, if_pos c1]
      have hF := ih 1 o (by omega) h2 (by omega) N (by omega)
      obtain ⟨r, σ1, e1, f1, x1, y0, y1⟩ := hF σ p Φ h hT hp hm
      obtain ⟨g1, g2, g3⟩ := prs_ok (B := B) t60 n 1 o p Φ hp
      unfold b_X3_readSum
      rw [chk_p (o17 ty), e1, bc_p, lt_p]
      cases hG : prs t B n 1 o p Φ with
      | mk p1 rr =>
        rw [hG] at x1 y0 y1 g1 g2 g3
        dsimp only at x1 y0 y1 g1 g2 g3
        cases rr with
        | none =>
          rw [y0 rfl, x_sumF hb (g_XP N) (nI o) 0 x1 g2 1000 (by omega)]
          exact ⟨-1, σ1, rfl, f1, x1, fun _ => rfl, fun x hx => by cases hx⟩
        | some x =>
          obtain ⟨Φ1, a⟩ := x
          obtain ⟨w1, w2, w3, w4, w5⟩ := g3 (Φ1, a) rfl
          obtain ⟨r1, r2⟩ := y1 (Φ1, a) rfl
          dsimp only at w1 w2 w3 w4 w5 r1 r2 ⊢
          rw [r1]
          exact (x_sum hb hF (fun p Φ hp => prs_ok t60 n 1 o p Φ hp) 60 0 p1 Φ1 a σ1 (by omega) x1 r2 g2 (by omega) w4 1000 (by omega)).pre f1
    rw [if_neg c1, if_neg c1]
    by_cases c2 : tag = 1
    · rw [if_pos c2, if_pos c2]
      have hF := ih 2 o (by omega) h2 (by omega) N (by omega)
      obtain ⟨r, σ1, e1, f1, x1, y0, y1⟩ := hF σ p Φ h hT hp hm
      obtain ⟨g1, g2, g3⟩ := prs_ok (B := B) t60 n 2 o p Φ hp
      unfold b_X3_readProduct
      rw [chk_p (o17 ty), e1, bc_p, lt_p]
      cases hG : prs t B n 2 o p Φ with
      | mk p1 rr =>
        rw [hG] at x1 y0 y1 g1 g2 g3
        dsimp only at x1 y0 y1 g1 g2 g3
        cases rr with
        | none =>
          rw [y0 rfl, x_prdF (g_XP N) (nI o) 0 1000 (by omega)]
          exact ⟨-1, σ1, rfl, f1, x1, fun _ => rfl, fun x hx => by cases hx⟩
        | some x =>
          obtain ⟨Φ1, a⟩ := x
          obtain ⟨w1, w2, w3, w4, w5⟩ := g3 (Φ1, a) rfl
          obtain ⟨r1, r2⟩ := y1 (Φ1, a) rfl
          dsimp only at w1 w2 w3 w4 w5 r1 r2 ⊢
          rw [r1]
          exact (x_prd hb hF (fun p Φ hp => prs_ok t60 n 2 o p Φ hp) 60 0 p1 Φ1 a σ1 (by omega) x1 r2 g2 (by omega) w4 1000 (by omega)).pre f1
    rw [if_neg c2, if_neg c2, if_pos (show tag = 2 by omega)]
    exact x_fac hb (fun ho => ih 2 (o + 1) (by omega) (by omega) (by omega) N (by omega)) (fun ho => ih 0 (o + 1) (by omega) (by omega) (by omega) N (by omega)) (fun p Φ hp => prs_ok t60 n 2 (o + 1) p Φ hp) (fun p Φ hp => prs_ok t60 n 0 (o + 1) p Φ hp) h2 h hT hp hm
