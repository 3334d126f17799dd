/-! the tape read: what comes of it -/
def bt (t : Nat) (B : Nat → Nat) (p : Nat) : Nat := if p < t then B p else 0
abbrev RR : Type := Nat × Option (FM × Nat)
def addP (Φ : FM) (k u v pl : Nat) : FM := (mN Φ + 1, upN (mK Φ) (mN Φ) k, upN (mU Φ) (mN Φ) u, upN (mV Φ) (mN Φ) v, upN (mP Φ) (mN Φ) pl)
def numN (t : Nat) (B : Nat → Nat) : Nat → Nat → Nat → Nat × Nat
  | 0, p, v => (p, v)
  | n + 1, p, v => if 48 ≤ bt t B p ∧ bt t B p ≤ 57 then numN t B n (p + 1) (10 * v + (bt t B p - 48)) else (p, v)
def jn (t : Nat) (B : Nat → Nat) (F : Nat → FM → RR) (sg : Nat → Nat) : Nat → Nat → FM → Nat → RR
  | 0, p, Φ, a => (p, some (Φ, a))
  | k + 1, p, Φ, a => if sg (bt t B p) = 0 then (p, some (Φ, a)) else match F (p + 1) Φ with
    | (p1, none) => (p1, none)
    | (p1, some (Φ1, b)) => jn t B F sg k p1 (addP Φ1 (sg (bt t B p)) a b p) (mN Φ1)
def sgS (c : Nat) : Nat := if c = 43 then 3 else if c = 45 then 4 else 0
def sgP (c : Nat) : Nat := if c = 42 then 5 else 0
def fac (t : Nat) (B : Nat → Nat) (F2 F0 : Nat → FM → RR) (o p : Nat) (Φ : FM) : RR :=
  if 97 ≤ bt t B p ∧ bt t B p ≤ 102 then (p + 1, some (addP Φ 0 (bt t B p - 97) 0 p, mN Φ))
  else if 48 ≤ bt t B p ∧ bt t B p ≤ 57 then ((numN t B 4 p 0).1, some (addP Φ 1 (numN t B 4 p 0).2 0 p, mN Φ))
  else if 6 ≤ o then (p, none)
  else if bt t B p = 45 then (match F2 (p + 1) Φ with
    | (p1, none) => (p1, none)
    | (p1, some (Φ1, a)) => (p1, some (addP Φ1 2 a 0 p, mN Φ1)))
  else if bt t B p = 40 then (match F0 (p + 1) Φ with
    | (p1, none) => (p1, none)
    | (p1, some (Φ1, a)) => if bt t B p1 = 41 then (p1 + 1, some (Φ1, a)) else (p1, none))
  else (p, none)
def prs (t : Nat) (B : Nat → Nat) : Nat → Nat → Nat → Nat → FM → RR
  | 0, _, _, p, _ => (p, none)
  | n + 1, tag, o, p, Φ =>
    if tag = 0 then (match prs t B n 1 o p Φ with
      | (p1, none) => (p1, none)
      | (p1, some (Φ1, a)) => jn t B (prs t B n 1 o) sgS 60 p1 Φ1 a)
    else if tag = 1 then (match prs t B n 2 o p Φ with
      | (p1, none) => (p1, none)
      | (p1, some (Φ1, a)) => jn t B (prs t B n 2 o) sgP 60 p1 Φ1 a)
    else fac t B (prs t B n 2 (o + 1)) (prs t B n 0 (o + 1)) o p Φ
/-! what is so of it: a block of parts, the whole of it last -/
def smP (Φ Ψ : FM) (n : Nat) : Prop := ∀ i, i < n → mK Ψ i = mK Φ i ∧ mU Ψ i = mU Φ i ∧ mV Ψ i = mV Φ i ∧ mP Ψ i = mP Φ i
theorem smP.rf {Φ : FM} {n : Nat} : smP Φ Φ n := fun _ _ => ⟨rfl, rfl, rfl, rfl⟩
theorem smP.tr {Φ Ψ Θ : FM} {n m : Nat} (h : smP Φ Ψ n) (g : smP Ψ Θ m) (hm : n ≤ m) : smP Φ Θ n := fun i hi => by
  obtain ⟨a, b, c, d⟩ := h i hi
  obtain ⟨e, f, g', k⟩ := g i (by omega)
  exact ⟨e.trans a, f.trans b, g'.trans c, k.trans d⟩
theorem addP_sm (Φ : FM) (k u v pl : Nat) : smP Φ (addP Φ k u v pl) (mN Φ) := fun i hi => by
  have h : i ≠ mN Φ := by omega
  exact ⟨if_neg h, if_neg h, if_neg h, if_neg h⟩
theorem addP_n (Φ : FM) (k u v pl : Nat) : mN (addP Φ k u v pl) = mN Φ + 1 := rfl
theorem addP_at (Φ : FM) (k u v pl : Nat) : mK (addP Φ k u v pl) (mN Φ) = k ∧ mU (addP Φ k u v pl) (mN Φ) = u ∧ mV (addP Φ k u v pl) (mN Φ) = v ∧ mP (addP Φ k u v pl) (mN Φ) = pl := ⟨if_pos rfl, if_pos rfl, if_pos rfl, if_pos rfl⟩
abbrev wf1 (Φ : FM) (s i : Nat) : Prop := (mK Φ i ≤ 5 ∧ (mK Φ i = 0 → mU Φ i < 6) ∧ (mK Φ i = 1 → mU Φ i ≤ 9999) ∧ (2 ≤ mK Φ i → mU Φ i < i) ∧ (3 ≤ mK Φ i → mV Φ i < i) ∧ (mK Φ i ≤ 2 → mV Φ i = 0) ∧ mP Φ i < 60) ∧ (2 ≤ mK Φ i → s ≤ mU Φ i) ∧ (3 ≤ mK Φ i → s ≤ mV Φ i)
abbrev pf1 (Φ : FM) (st : Nat → Nat) (i : Nat) : Prop := (mK Φ i ≤ 1 → st i = i) ∧ (mK Φ i = 2 → mU Φ i + 1 = i ∧ st i = st (mU Φ i)) ∧ (3 ≤ mK Φ i → mV Φ i + 1 = i ∧ mU Φ i + 1 = st (mV Φ i) ∧ st i = st (mU Φ i))
abbrev ch1 (Φ : FM) (e i : Nat) : Prop := ∃ j, i < j ∧ j < e ∧ ((2 ≤ mK Φ j ∧ mU Φ j = i) ∨ (3 ≤ mK Φ j ∧ mV Φ j = i))
def BLK (Φ : FM) (s e : Nat) : Prop := s < e ∧ (∀ i, s ≤ i → i < e → wf1 Φ s i) ∧ (∀ i, s ≤ i → i + 1 < e → ch1 Φ e i) ∧ ∃ st, st (e - 1) = s ∧ ∀ i, s ≤ i → i < e → pf1 Φ st i
theorem BLK.cong {Φ Ψ : FM} {s e : Nat} (h : BLK Φ s e) (g : smP Φ Ψ e) : BLK Ψ s e := by
  obtain ⟨h1, h2, h3, st, h4, h5⟩ := h
  refine ⟨h1, fun i a b => ?_, fun i a b => ?_, st, h4, fun i a b => ?_⟩
  · obtain ⟨e1, e2, e3, e4⟩ := g i b
    have := h2 i a b
    unfold wf1 at this ⊢
    rw [e1, e2, e3, e4]; exact this
  · obtain ⟨j, j1, j2, j3⟩ := h3 i a b
    obtain ⟨e1, e2, e3, e4⟩ := g j j2
    exact ⟨j, j1, j2, by rw [e1, e2, e3]; exact j3⟩
  · obtain ⟨e1, e2, e3, e4⟩ := g i b
    have := h5 i a b
    unfold pf1 at this ⊢
    rw [e1, e2, e3]; exact this
theorem BLK_leaf {Φ : FM} {k u pl : Nat} (hk : k ≤ 1) (h0 : k = 0 → u < 6) (h1 : k = 1 → u ≤ 9999) (hp : pl < 60) : BLK (addP Φ k u 0 pl) (mN Φ) (mN Φ + 1) := by
  obtain ⟨e1, e2, e3, e4⟩ := addP_at Φ k u 0 pl
  refine ⟨by omega, fun i a b => ?_, fun i a b => by omega, fun i => i, (show mN Φ + 1 - 1 = mN Φ by omega), fun i a b => ?_⟩
  · have : i = mN Φ := by omega
    subst this
    unfold wf1
    rw [e1, e2, e3, e4]
    exact ⟨⟨by omega, h0, h1, fun z => by omega, fun z => by omega, fun _ => rfl, hp⟩, fun z => by omega, fun z => by omega⟩
  · have : i = mN Φ := by omega
    subst this
    unfold pf1
    rw [e1]
    exact ⟨fun _ => rfl, fun z => by omega, fun z => by omega⟩
theorem BLK_un {Φ : FM} {s a pl : Nat} (h : BLK Φ s (mN Φ)) (ha : a + 1 = mN Φ) (hp : pl < 60) : BLK (addP Φ 2 a 0 pl) s (mN Φ + 1) := by
  obtain ⟨e1, e2, e3, e4⟩ := addP_at Φ 2 a 0 pl
  obtain ⟨h1, h2, h3, st, h4, h5⟩ := h.cong (addP_sm Φ 2 a 0 pl)
  refine ⟨by omega, fun i x y => ?_, fun i x y => ?_, fun i => if i < mN Φ then st i else s, ?_, fun i x y => ?_⟩
  · by_cases z : i = mN Φ
    · subst z
      unfold wf1
      rw [e1, e2, e3, e4]
      exact ⟨⟨by omega, fun z => by omega, fun z => by omega, fun _ => by omega, fun z => by omega, fun _ => rfl, hp⟩, fun _ => by omega, fun z => by omega⟩
    · exact h2 i x (by omega)
  · by_cases z : i + 1 < mN Φ
    · obtain ⟨j, j1, j2, j3⟩ := h3 i x z
      exact ⟨j, j1, by omega, j3⟩
    · exact ⟨mN Φ, by omega, by omega, Or.inl ⟨by rw [e1]; exact Nat.le_refl _, by rw [e2]; omega⟩⟩
  · show (if mN Φ + 1 - 1 < mN Φ then _ else s) = s
    rw [if_neg (by omega)]
  · by_cases z : i = mN Φ
    · subst z
      unfold pf1
      rw [e1, e2, e3]
      refine ⟨fun z => by omega, fun _ => ⟨ha, ?_⟩, fun z => by omega⟩
      dsimp only
      rw [if_neg (by omega), if_pos (by omega), show a = mN Φ - 1 by omega, h4]
    · have hi : i < mN Φ := by omega
      obtain ⟨⟨w1, w2, w3, w4, w5, w6, w7⟩, w8, w9⟩ := h2 i x hi
      obtain ⟨a1, a2, a3⟩ := h5 i x hi
      refine ⟨fun z => by dsimp only; rw [if_pos hi]; exact a1 z, fun z => ?_, fun z => ?_⟩
      · have := w4 (by omega)
        dsimp only
        rw [if_pos hi, if_pos (by omega)]; exact a2 z
      · have := w4 (by omega)
        have := w5 (by omega)
        dsimp only
        rw [if_pos hi, if_pos (by omega), if_pos (by omega)]; exact a3 z
theorem BLK_bin {Φ : FM} {s m k a b pl : Nat} (h : BLK Φ s m) (g : BLK Φ m (mN Φ)) (ha : a + 1 = m) (hb : b + 1 = mN Φ) (hk : 3 ≤ k) (hk5 : k ≤ 5) (hp : pl < 60) : BLK (addP Φ k a b pl) s (mN Φ + 1) := by
  obtain ⟨e1, e2, e3, e4⟩ := addP_at Φ k a b pl
  have sm := addP_sm Φ k a b pl
  have g1' := g.1
  obtain ⟨h1, h2, h3, st, h4, h5⟩ := h.cong (fun i hi => sm i (by omega))
  obtain ⟨g1, g2, g3, su, g4, g5⟩ := g.cong sm
  refine ⟨by omega, fun i x y => ?_, fun i x y => ?_, fun i => if i < m then st i else if i < mN Φ then su i else s, ?_, fun i x y => ?_⟩
  · by_cases z : i = mN Φ
    · subst z
      unfold wf1
      rw [e1, e2, e3, e4]
      exact ⟨⟨hk5, fun z => by omega, fun z => by omega, fun _ => by omega, fun _ => by omega, fun z => by omega, hp⟩, fun _ => by omega, fun _ => by omega⟩
    · by_cases z2 : i < m
      · exact h2 i x z2
      · obtain ⟨w, w8, w9⟩ := g2 i (by omega) (by omega)
        exact ⟨w, fun z => by have := w8 z; omega, fun z => by have := w9 z; omega⟩
  · by_cases z2 : i < m
    · by_cases z : i + 1 < m
      · obtain ⟨j, j1, j2, j3⟩ := h3 i x z
        exact ⟨j, j1, by omega, j3⟩
      · exact ⟨mN Φ, by omega, by omega, Or.inl ⟨by rw [e1]; omega, by rw [e2]; omega⟩⟩
    · by_cases z : i + 1 < mN Φ
      · obtain ⟨j, j1, j2, j3⟩ := g3 i (by omega) z
        exact ⟨j, j1, by omega, j3⟩
      · exact ⟨mN Φ, by omega, by omega, Or.inr ⟨by rw [e1]; omega, by rw [e3]; omega⟩⟩
  · show (if mN Φ + 1 - 1 < m then _ else if mN Φ + 1 - 1 < mN Φ then _ else s) = s
    rw [if_neg (by omega), if_neg (by omega)]
  · by_cases z : i = mN Φ
    · subst z
      unfold pf1
      rw [e1, e2, e3]
      refine ⟨fun z => by omega, fun z => by omega, fun _ => ⟨hb, ?_, ?_⟩⟩
      · dsimp only
        rw [if_neg (by omega), if_pos (by omega), show b = mN Φ - 1 by omega, g4]; exact ha
      · dsimp only
        rw [if_neg (by omega), if_neg (by omega), if_pos (by omega), show a = m - 1 by omega, h4]
    · by_cases z2 : i < m
      · obtain ⟨⟨w1, w2, w3, w4, w5, w6, w7⟩, w8, w9⟩ := h2 i x z2
        obtain ⟨a1, a2, a3⟩ := h5 i x z2
        refine ⟨fun z => by dsimp only; rw [if_pos z2]; exact a1 z, fun z => ?_, fun z => ?_⟩
        · have := w4 (by omega)
          dsimp only
          rw [if_pos z2, if_pos (by omega)]; exact a2 z
        · have := w4 (by omega)
          have := w5 (by omega)
          dsimp only
          rw [if_pos z2, if_pos (by omega), if_pos (by omega)]; exact a3 z
      · have hi : i < mN Φ := by omega
        obtain ⟨⟨w1, w2, w3, w4, w5, w6, w7⟩, w8, w9⟩ := g2 i (by omega) hi
        obtain ⟨a1, a2, a3⟩ := g5 i (by omega) hi
        refine ⟨fun z => by dsimp only; rw [if_neg z2, if_pos hi]; exact a1 z, fun z => ?_, fun z => ?_⟩
        · have := w4 (by omega)
          have := w8 (by omega)
          dsimp only
          rw [if_neg z2, if_pos hi, if_neg (by omega), if_pos (by omega)]; exact a2 z
        · have := w4 (by omega)
          have := w8 (by omega)
          have := w5 (by omega)
          have := w9 (by omega)
          dsimp only
          rw [if_neg z2, if_pos hi, if_neg (by omega), if_pos (by omega), if_neg (by omega), if_pos (by omega)]; exact a3 z
def FA (t p : Nat) (Φ : FM) (res : RR) : Prop := p ≤ res.1 ∧ res.1 ≤ t ∧ ∀ x, res.2 = some x → p < res.1 ∧ mN x.1 + p ≤ mN Φ + res.1 ∧ BLK x.1 (mN Φ) (mN x.1) ∧ x.2 + 1 = mN x.1 ∧ smP Φ x.1 (mN Φ)
theorem bt_lt {t : Nat} {B : Nat → Nat} {p : Nat} (h : bt t B p ≠ 0) : p < t := by
  by_cases c : p < t
  · exact c
  · exact absurd (if_neg c) h
theorem num_ok {t : Nat} {B : Nat → Nat} : ∀ n p v, p ≤ t → v + 1 ≤ 10 ^ (4 - n) → n ≤ 4 → p ≤ (numN t B n p v).1 ∧ (numN t B n p v).1 ≤ t ∧ (numN t B n p v).2 ≤ 9999 := by
  intro n
  induction n with
  | zero => intro p v h1 h2 _; exact ⟨Nat.le_refl _, h1, by show v ≤ 9999; simp at h2; omega⟩
  | succ n ih =>
    intro p v h1 h2 h3
    show p ≤ (if 48 ≤ bt t B p ∧ bt t B p ≤ 57 then numN t B n (p + 1) (10 * v + (bt t B p - 48)) else (p, v)).1 ∧ (if 48 ≤ bt t B p ∧ bt t B p ≤ 57 then numN t B n (p + 1) (10 * v + (bt t B p - 48)) else (p, v)).1 ≤ t ∧ (if 48 ≤ bt t B p ∧ bt t B p ≤ 57 then numN t B n (p + 1) (10 * v + (bt t B p - 48)) else (p, v)).2 ≤ 9999
    by_cases c : 48 ≤ bt t B p ∧ bt t B p ≤ 57
    · rw [if_pos c]
      have lt := bt_lt (t := t) (B := B) (p := p) (by omega)
      have e : 10 ^ (4 - n) = 10 * 10 ^ (4 - (n + 1)) := by rw [show 4 - n = 4 - (n + 1) + 1 by omega, Nat.pow_succ, Nat.mul_comm]
      obtain ⟨a, b, c⟩ := ih (p + 1) (10 * v + (bt t B p - 48)) (by omega) (by rw [e]; omega) (by omega)
      exact ⟨by omega, b, c⟩
    · rw [if_neg c]
      have : 10 ^ (4 - (n + 1)) ≤ 10 ^ 4 := Nat.pow_le_pow_right (by decide) (by omega)
      have e4 : (10 : Nat) ^ 4 = 10000 := rfl
      exact ⟨Nat.le_refl _, h1, by show v ≤ 9999; omega⟩
theorem num_lt {t : Nat} {B : Nat → Nat} {p : Nat} (hp : p ≤ t) (c : 48 ≤ bt t B p ∧ bt t B p ≤ 57) : p < (numN t B 4 p 0).1 ∧ (numN t B 4 p 0).1 ≤ t ∧ (numN t B 4 p 0).2 ≤ 9999 := by
  have lt := bt_lt (t := t) (B := B) (p := p) (by omega)
  have e : numN t B 4 p 0 = numN t B 3 (p + 1) (10 * 0 + (bt t B p - 48)) := if_pos c
  obtain ⟨a, b, d⟩ := num_ok (t := t) (B := B) 3 (p + 1) (10 * 0 + (bt t B p - 48)) (by omega) (by simp; omega) (by omega)
  rw [e]
  exact ⟨by omega, b, d⟩
theorem jn_ok {t : Nat} {B : Nat → Nat} (ht : t ≤ 60) {F : Nat → FM → RR} (hF : ∀ p Φ, p ≤ t → FA t p Φ (F p Φ)) {sg : Nat → Nat} (hsg : ∀ c, sg c ≠ 0 → c ≠ 0 ∧ 3 ≤ sg c ∧ sg c ≤ 5) {p0 : Nat} {Φ0 : FM} : ∀ k p Φ a, p ≤ t → p0 < p → mN Φ + p0 ≤ mN Φ0 + p → BLK Φ (mN Φ0) (mN Φ) → a + 1 = mN Φ → smP Φ0 Φ (mN Φ0) → FA t p0 Φ0 (jn t B F sg k p Φ a) ∧ p ≤ (jn t B F sg k p Φ a).1 := by
  intro k
  induction k with
  | zero =>
    intro p Φ a h1 h2 h3 h4 h5 h6
    exact ⟨⟨by show p0 ≤ p; omega, h1, fun x hx => by cases hx; exact ⟨h2, h3, h4, h5, h6⟩⟩, Nat.le_refl _⟩
  | succ k ih =>
    intro p Φ a h1 h2 h3 h4 h5 h6
    rw [show jn t B F sg (k + 1) p Φ a = (if sg (bt t B p) = 0 then (p, some (Φ, a)) else match F (p + 1) Φ with
      | (p1, none) => (p1, none)
      | (p1, some (Φ1, b)) => jn t B F sg k p1 (addP Φ1 (sg (bt t B p)) a b p) (mN Φ1)) from rfl]
    by_cases c : sg (bt t B p) = 0
    · rw [if_pos c]
      exact ⟨⟨by show p0 ≤ p; omega, h1, fun x hx => by cases hx; exact ⟨h2, h3, h4, h5, h6⟩⟩, Nat.le_refl _⟩
    · rw [if_neg c]
      obtain ⟨s1, s2, s3⟩ := hsg _ c
      have lt := bt_lt s1
      obtain ⟨f1, f2, f3⟩ := hF (p + 1) Φ (by omega)
      cases hf : F (p + 1) Φ with
      | mk p1 r =>
        rw [hf] at f1 f2 f3
        cases r with
        | none => exact ⟨⟨by show p0 ≤ p1; dsimp only at f1; omega, f2, fun x hx => by cases hx⟩, by show p ≤ p1; dsimp only at f1; omega⟩
        | some x =>
          obtain ⟨Φ1, b⟩ := x
          obtain ⟨g1, g2, g3, g4, g5⟩ := f3 (Φ1, b) rfl
          dsimp only at f1 f2 g1 g2 g3 g4 g5 ⊢
          have n0 := h4.1
          have n1 := g3.1
          have sm := addP_sm Φ1 (sg (bt t B p)) a b p
          obtain ⟨r1, r2⟩ := ih p1 (addP Φ1 (sg (bt t B p)) a b p) (mN Φ1) f2 (by omega) (by rw [addP_n]; omega) (by rw [addP_n]; exact BLK_bin (h4.cong g5) g3 h5 g4 s2 s3 (by omega)) rfl ((h6.tr g5 (by omega)).tr sm (by omega))
          exact ⟨r1, by omega⟩
theorem sgS_ok : ∀ c, sgS c ≠ 0 → c ≠ 0 ∧ 3 ≤ sgS c ∧ sgS c ≤ 5 := fun c h => by
  unfold sgS at h ⊢
  by_cases c1 : c = 43
  · rw [if_pos c1]; omega
  · rw [if_neg c1] at h ⊢
    by_cases c2 : c = 45
    · rw [if_pos c2]; omega
    · rw [if_neg c2] at h; exact absurd rfl h
theorem sgP_ok : ∀ c, sgP c ≠ 0 → c ≠ 0 ∧ 3 ≤ sgP c ∧ sgP c ≤ 5 := fun c h => by
  unfold sgP at h ⊢
  by_cases c1 : c = 42
  · rw [if_pos c1]; omega
  · rw [if_neg c1] at h; exact absurd rfl h
theorem FA_leaf {t p q : Nat} {Φ : FM} {k u : Nat} (hk : k ≤ 1) (h0 : k = 0 → u < 6) (h1 : k = 1 → u ≤ 9999) (hp : p < q) (hq : q ≤ t) (ht : t ≤ 60) : FA t p Φ (q, some (addP Φ k u 0 p, mN Φ)) := ⟨by show p ≤ q; omega, hq, fun x hx => by
  cases hx
  exact ⟨hp, by show mN Φ + 1 + p ≤ mN Φ + q; omega, BLK_leaf hk h0 h1 (by omega), rfl, addP_sm _ _ _ _ _⟩⟩
theorem fac_ok {t : Nat} {B : Nat → Nat} (ht : t ≤ 60) {F2 F0 : Nat → FM → RR} (h2 : ∀ p Φ, p ≤ t → FA t p Φ (F2 p Φ)) (h0 : ∀ p Φ, p ≤ t → FA t p Φ (F0 p Φ)) (o : Nat) {p : Nat} (hp : p ≤ t) (Φ : FM) : FA t p Φ (fac t B F2 F0 o p Φ) := by
  have fault : FA t p Φ (p, none) := ⟨Nat.le_refl _, hp, fun x hx => by cases hx⟩
  unfold fac
  by_cases c1 : 97 ≤ bt t B p ∧ bt t B p ≤ 102
  · rw [if_pos c1]
    have lt := bt_lt (t := t) (B := B) (p := p) (by omega)
    exact FA_leaf (by omega) (fun _ => by omega) (fun z => by omega) (by omega) (by omega) ht
  rw [if_neg c1]
  by_cases c2 : 48 ≤ bt t B p ∧ bt t B p ≤ 57
  · rw [if_pos c2]
    obtain ⟨a, b, c⟩ := num_lt hp c2
    exact FA_leaf (by omega) (fun z => by omega) (fun _ => c) a b ht
  rw [if_neg c2]
  by_cases c3 : 6 ≤ o
  · rw [if_pos c3]; exact fault
  rw [if_neg c3]
  by_cases c4 : bt t B p = 45
  · rw [if_pos c4]
    have lt := bt_lt (t := t) (B := B) (p := p) (by omega)
    obtain ⟨f1, f2, f3⟩ := h2 (p + 1) Φ (by omega)
    cases hf : F2 (p + 1) Φ with
    | mk p1 r =>
      rw [hf] at f1 f2 f3
      dsimp only at f1 f2
      cases r with
      | none => exact ⟨by show p ≤ p1; omega, f2, fun x hx => by cases hx⟩
      | some x =>
        obtain ⟨Φ1, b⟩ := x
        obtain ⟨g1, g2, g3, g4, g5⟩ := f3 (Φ1, b) rfl
        dsimp only at g1 g2 g3 g4 g5
        refine ⟨by show p ≤ p1; omega, f2, fun x hx => ?_⟩
        cases hx
        have := g3.1
        exact ⟨by show p < p1; omega, by show mN Φ1 + 1 + p ≤ mN Φ + p1; omega, BLK_un g3 g4 (by omega), rfl, g5.tr (addP_sm _ _ _ _ _) (by omega)⟩
  rw [if_neg c4]
  by_cases c5 : bt t B p = 40
  · rw [if_pos c5]
    have lt := bt_lt (t := t) (B := B) (p := p) (by omega)
    obtain ⟨f1, f2, f3⟩ := h0 (p + 1) Φ (by omega)
    cases hf : F0 (p + 1) Φ with
    | mk p1 r =>
      rw [hf] at f1 f2 f3
      dsimp only at f1 f2
      cases r with
      | none => exact ⟨by show p ≤ p1; omega, f2, fun x hx => by cases hx⟩
      | some x =>
        obtain ⟨Φ1, b⟩ := x
        obtain ⟨g1, g2, g3, g4, g5⟩ := f3 (Φ1, b) rfl
        dsimp only at g1 g2 g3 g4 g5 ⊢
        by_cases c6 : bt t B p1 = 41
        · rw [if_pos c6]
          have lt2 := bt_lt (t := t) (B := B) (p := p1) (by omega)
          refine ⟨by show p ≤ p1 + 1; omega, by show p1 + 1 ≤ t; omega, fun x hx => ?_⟩
          cases hx
          exact ⟨by show p < p1 + 1; omega, by show mN Φ1 + p ≤ mN Φ + (p1 + 1); omega, g3, g4, g5⟩
        · rw [if_neg c6]
          exact ⟨by show p ≤ p1; omega, f2, fun x hx => by cases hx⟩
  rw [if_neg c5]; exact fault
theorem prs_ok {t : Nat} {B : Nat → Nat} (ht : t ≤ 60) : ∀ n tag o p Φ, p ≤ t → FA t p Φ (prs t B n tag o p Φ) := by
  intro n
  induction n with
  | zero => intro tag o p Φ hp; exact ⟨Nat.le_refl _, hp, fun x hx => by cases hx⟩
  | succ n ih =>
    intro tag o p Φ hp
    rw [show prs t B (n + 1) tag o p Φ = (if tag = 0 then (match prs t B n 1 o p Φ with
      | (p1, none) => (p1, none)
      | (p1, some (Φ1, a)) => jn t B (prs t B n 1 o) sgS 60 p1 Φ1 a)
    else if tag = 1 then (match prs t B n 2 o p Φ with
      | (p1, none) => (p1, none)
      | (p1, some (Φ1, a)) => jn t B (prs t B n 2 o) sgP 60 p1 Φ1 a)
    else fac t B (prs t B n 2 (o + 1)) (prs t B n 0 (o + 1)) o p Φ) from rfl]
    have lp : ∀ tg sg, (∀ c, sg c ≠ 0 → c ≠ 0 ∧ 3 ≤ sg c ∧ sg c ≤ 5) → FA t p Φ (match prs t B n tg o p Φ with
      | (p1, none) => (p1, none)
      | (p1, some (Φ1, a)) => jn t B (prs t B n tg o) sg 60 p1 Φ1 a) := fun tg sg hsg => by
      obtain ⟨f1, f2, f3⟩ := ih tg o p Φ hp
      cases hf : prs t B n tg o p Φ with
      | mk p1 r =>
        rw [hf] at f1 f2 f3
        dsimp only at f1 f2
        cases r with
        | none => exact ⟨by show p ≤ p1; omega, f2, fun x hx => by cases hx⟩
        | some x =>
          obtain ⟨Φ1, b⟩ := x
          obtain ⟨g1, g2, g3, g4, g5⟩ := f3 (Φ1, b) rfl
          exact (jn_ok ht (fun p Φ hp => ih tg o p Φ hp) hsg 60 p1 Φ1 b f2 g1 g2 g3 g4 g5).1
    by_cases c1 : tag = 0
    · rw [if_pos c1]; exact lp 1 sgS sgS_ok
    rw [if_neg c1]
    by_cases c2 : tag = 1
    · rw [if_pos c2]; exact lp 2 sgP sgP_ok
    rw [if_neg c2]
    exact fac_ok ht (fun p Φ hp => ih 2 (o + 1) p Φ hp) (fun p Φ hp => ih 0 (o + 1) p Φ hp) o hp Φ
/-- the parts of nothing -/
def emp : FM := (0, fun _ => 0, fun _ => 0, fun _ => 0, fun _ => 0)
theorem BLK_good {Φ : FM} (h : BLK Φ 0 (mN Φ)) (h60 : mN Φ ≤ 60) : Good Φ := by
  obtain ⟨h1, h2, h3, st, h4, h5⟩ := h
  exact ⟨⟨by omega, h60, fun i hi => (h2 i (Nat.zero_le _) hi).1⟩, fun i hi => h3 i (Nat.zero_le _) hi, st, fun i hi => h5 i (Nat.zero_le _) hi⟩
