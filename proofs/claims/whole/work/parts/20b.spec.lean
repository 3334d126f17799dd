/-! spans of a formula's parts, over the whole numbers -/
abbrev FM : Type := Nat × (Nat → Nat) × (Nat → Nat) × (Nat → Nat) × (Nat → Nat)
def mN (Φ : FM) : Nat := Φ.1
def mK (Φ : FM) (i : Nat) : Nat := Φ.2.1 i
def mU (Φ : FM) (i : Nat) : Nat := Φ.2.2.1 i
def mV (Φ : FM) (i : Nat) : Nat := Φ.2.2.2.1 i
def mP (Φ : FM) (i : Nat) : Nat := Φ.2.2.2.2 i
abbrev inR (x : Int) : Prop := -9223372036854775808 ≤ x ∧ x < 9223372036854775808
def mn4 (a b c d : Int) : Int := min (min (a * c) (a * d)) (min (b * c) (b * d))
def mx4 (a b c d : Int) : Int := max (max (a * c) (a * d)) (max (b * c) (b * d))
def rg (x y : Int) : Option (Int × Int) := if inR x ∧ inR y then some (x, y) else none
def sp1 (x : Option (Int × Int)) : Option (Int × Int) := match x with
  | none => none
  | some p => rg (-p.2) (-p.1)
def pr4 (a b c d : Int) : Option (Int × Int) := if inR (a * c) ∧ inR (a * d) ∧ inR (b * c) ∧ inR (b * d) then some (mn4 a b c d, mx4 a b c d) else none
def sp2 (k : Nat) (x y : Option (Int × Int)) : Option (Int × Int) := match x with
  | none => none
  | some p => match y with
    | none => none
    | some r => if k = 3 then rg (p.1 + r.1) (p.2 + r.2) else if k = 4 then rg (p.1 - r.2) (p.2 - r.1) else pr4 p.1 p.2 r.1 r.2
def SPI (Φ : FM) (lo hi : Nat → Int) : Nat → Nat → Option (Int × Int)
  | 0, _ => none
  | n + 1, i => if mK Φ i = 0 then some (lo (mU Φ i), hi (mU Φ i)) else if mK Φ i = 1 then some ((mU Φ i : Int), (mU Φ i : Int))
    else if mK Φ i = 2 then sp1 (SPI Φ lo hi n (mU Φ i)) else sp2 (mK Φ i) (SPI Φ lo hi n (mU Φ i)) (SPI Φ lo hi n (mV Φ i))
theorem mulI {a x b y : Int} (h1 : a ≤ x) (h2 : x ≤ b) : min (a * y) (b * y) ≤ x * y ∧ x * y ≤ max (a * y) (b * y) := by
  rcases Int.le_total 0 y with h | h
  · have p1 := Int.mul_le_mul_of_nonneg_right h1 h
    have p2 := Int.mul_le_mul_of_nonneg_right h2 h
    omega
  · have p1 := Int.mul_le_mul_of_nonpos_right h1 h
    have p2 := Int.mul_le_mul_of_nonpos_right h2 h
    omega
theorem mul4 {a b c d x y : Int} (h1 : a ≤ x) (h2 : x ≤ b) (h3 : c ≤ y) (h4 : y ≤ d) : mn4 a b c d ≤ x * y ∧ x * y ≤ mx4 a b c d := by
  have p0 := mulI (y := y) h1 h2
  have p1 := mulI (y := a) h3 h4
  have p2 := mulI (y := b) h3 h4
  rw [Int.mul_comm c a, Int.mul_comm d a, Int.mul_comm y a] at p1
  rw [Int.mul_comm c b, Int.mul_comm d b, Int.mul_comm y b] at p2
  unfold mn4 mx4
  generalize x * y = xy at *
  generalize a * c = ac at *
  generalize a * d = ad at *
  generalize b * c = bc at *
  generalize b * d = bd at *
  generalize a * y = ay at *
  generalize b * y = by_ at *
  omega
theorem mn4_le (a b c d : Int) : mn4 a b c d ≤ mx4 a b c d := by unfold mn4 mx4; omega
theorem mn4_4 (a b c d : Int) : mn4 a b c d ≤ a * c ∧ mn4 a b c d ≤ a * d ∧ mn4 a b c d ≤ b * c ∧ mn4 a b c d ≤ b * d := by
  unfold mn4
  generalize a * c = ac
  generalize a * d = ad
  generalize b * c = bc
  generalize b * d = bd
  omega
theorem mx4_4 (a b c d : Int) : a * c ≤ mx4 a b c d ∧ a * d ≤ mx4 a b c d ∧ b * c ≤ mx4 a b c d ∧ b * d ≤ mx4 a b c d := by
  unfold mx4
  generalize a * c = ac
  generalize a * d = ad
  generalize b * c = bc
  generalize b * d = bd
  omega
theorem mn4_any {a b c d z : Int} (h1 : z ≤ a * c) (h2 : z ≤ a * d) (h3 : z ≤ b * c) (h4 : z ≤ b * d) : z ≤ mn4 a b c d := by
  unfold mn4
  generalize a * c = ac at *
  generalize a * d = ad at *
  generalize b * c = bc at *
  generalize b * d = bd at *
  omega
theorem mx4_any {a b c d z : Int} (h1 : a * c ≤ z) (h2 : a * d ≤ z) (h3 : b * c ≤ z) (h4 : b * d ≤ z) : mx4 a b c d ≤ z := by
  unfold mx4
  generalize a * c = ac at *
  generalize a * d = ad at *
  generalize b * c = bc at *
  generalize b * d = bd at *
  omega
theorem pr4_some {a b c d : Int} {p : Int × Int} (h : pr4 a b c d = some p) : (inR (a * c) ∧ inR (a * d) ∧ inR (b * c) ∧ inR (b * d)) ∧ p = (mn4 a b c d, mx4 a b c d) := by
  unfold pr4 at h
  split at h
  · rename_i hc; exact ⟨hc, (Option.some.inj h).symm⟩
  · cases h
theorem rg_some {x y : Int} {p : Int × Int} (h : rg x y = some p) : inR x ∧ inR y ∧ p = (x, y) := by
  unfold rg at h
  split at h
  · rename_i hc; exact ⟨hc.1, hc.2, (Option.some.inj h).symm⟩
  · cases h
theorem rg_of {x y : Int} (hx : inR x) (hy : inR y) : rg x y = some (x, y) := if_pos ⟨hx, hy⟩
theorem mn4_one {a b c d : Int} (P : Int → Prop) (h1 : P (a * c)) (h2 : P (a * d)) (h3 : P (b * c)) (h4 : P (b * d)) : P (mn4 a b c d) := by
  unfold mn4
  rcases Int.le_total (a * c) (a * d) with p | p <;> rcases Int.le_total (b * c) (b * d) with r | r
  all_goals first | rw [Int.min_eq_left p] | rw [Int.min_eq_right p]
  all_goals first | rw [Int.min_eq_left r] | rw [Int.min_eq_right r]
  · rcases Int.le_total (a * c) (b * c) with t | t <;> first | (rw [Int.min_eq_left t]; assumption) | (rw [Int.min_eq_right t]; assumption)
  · rcases Int.le_total (a * c) (b * d) with t | t <;> first | (rw [Int.min_eq_left t]; assumption) | (rw [Int.min_eq_right t]; assumption)
  · rcases Int.le_total (a * d) (b * c) with t | t <;> first | (rw [Int.min_eq_left t]; assumption) | (rw [Int.min_eq_right t]; assumption)
  · rcases Int.le_total (a * d) (b * d) with t | t <;> first | (rw [Int.min_eq_left t]; assumption) | (rw [Int.min_eq_right t]; assumption)
theorem mx4_one {a b c d : Int} (P : Int → Prop) (h1 : P (a * c)) (h2 : P (a * d)) (h3 : P (b * c)) (h4 : P (b * d)) : P (mx4 a b c d) := by
  unfold mx4
  rcases Int.le_total (a * c) (a * d) with p | p <;> rcases Int.le_total (b * c) (b * d) with r | r
  all_goals first | rw [Int.max_eq_right p] | rw [Int.max_eq_left p]
  all_goals first | rw [Int.max_eq_right r] | rw [Int.max_eq_left r]
  · rcases Int.le_total (a * d) (b * d) with t | t <;> first | (rw [Int.max_eq_right t]; assumption) | (rw [Int.max_eq_left t]; assumption)
  · rcases Int.le_total (a * d) (b * c) with t | t <;> first | (rw [Int.max_eq_right t]; assumption) | (rw [Int.max_eq_left t]; assumption)
  · rcases Int.le_total (a * c) (b * d) with t | t <;> first | (rw [Int.max_eq_right t]; assumption) | (rw [Int.max_eq_left t]; assumption)
  · rcases Int.le_total (a * c) (b * c) with t | t <;> first | (rw [Int.max_eq_right t]; assumption) | (rw [Int.max_eq_left t]; assumption)
/-- narrower spans: what was no span that is over stays so, and is narrower -/
def Nar (x y : Option (Int × Int)) : Prop := ∀ a b, x = some (a, b) → ∃ a' b', y = some (a', b') ∧ a ≤ a' ∧ a' ≤ b' ∧ b' ≤ b
theorem Nar_sp1 {x y : Option (Int × Int)} (h : Nar x y) : Nar (sp1 x) (sp1 y) := by
  intro a b hab
  cases x with
  | none => cases hab
  | some p =>
    obtain ⟨u, v, hy, h1, h2, h3⟩ := h p.1 p.2 rfl
    obtain ⟨g1, g2, g3⟩ := rg_some (show rg (-p.2) (-p.1) = some (a, b) from hab)
    cases g3
    subst hy
    exact ⟨-v, -u, rg_of (by omega) (by omega), by omega, by omega, by omega⟩
theorem Nar_sp2 {k : Nat} {x y z w : Option (Int × Int)} (h : Nar x y) (h' : Nar z w) : Nar (sp2 k x z) (sp2 k y w) := by
  intro a b hab
  cases x with
  | none => cases hab
  | some p =>
    cases z with
    | none => cases hab
    | some r =>
      obtain ⟨u, v, hy, h1, h2, h3⟩ := h p.1 p.2 rfl
      obtain ⟨u2, v2, hw, i1, i2, i3⟩ := h' r.1 r.2 rfl
      subst hy; subst hw
      unfold sp2 at hab ⊢
      dsimp only at hab ⊢
      by_cases k3 : k = 3
      · rw [if_pos k3] at hab ⊢
        obtain ⟨g1, g2, g3⟩ := rg_some hab
        cases g3
        exact ⟨_, _, rg_of (by omega) (by omega), by omega, by omega, by omega⟩
      rw [if_neg k3] at hab ⊢
      by_cases k4 : k = 4
      · rw [if_pos k4] at hab ⊢
        obtain ⟨g1, g2, g3⟩ := rg_some hab
        cases g3
        exact ⟨_, _, rg_of (by omega) (by omega), by omega, by omega, by omega⟩
      rw [if_neg k4] at hab ⊢
      obtain ⟨⟨g1, g2, g3, g4⟩, g5⟩ := pr4_some hab
      cases g5
      have b1 := mul4 (a := p.1) (b := p.2) (c := r.1) (d := r.2) (x := u) (y := u2) (by omega) (by omega) (by omega) (by omega)
      have b2 := mul4 (a := p.1) (b := p.2) (c := r.1) (d := r.2) (x := u) (y := v2) (by omega) (by omega) (by omega) (by omega)
      have b3 := mul4 (a := p.1) (b := p.2) (c := r.1) (d := r.2) (x := v) (y := u2) (by omega) (by omega) (by omega) (by omega)
      have b4 := mul4 (a := p.1) (b := p.2) (c := r.1) (d := r.2) (x := v) (y := v2) (by omega) (by omega) (by omega) (by omega)
      have m1 : inR (mn4 p.1 p.2 r.1 r.2) := mn4_one inR g1 g2 g3 g4
      have m2 : inR (mx4 p.1 p.2 r.1 r.2) := mx4_one inR g1 g2 g3 g4
      exact ⟨_, _, if_pos ⟨⟨by omega, by omega⟩, ⟨by omega, by omega⟩, ⟨by omega, by omega⟩, ⟨by omega, by omega⟩⟩, mn4_any b1.1 b2.1 b3.1 b4.1, mn4_le _ _ _ _, mx4_any b1.2 b2.2 b3.2 b4.2⟩
theorem SPI_nar (Φ : FM) {lo hi lo' hi' : Nat → Int} (h : ∀ s, lo s ≤ lo' s ∧ lo' s ≤ hi' s ∧ hi' s ≤ hi s) : ∀ n i, Nar (SPI Φ lo hi n i) (SPI Φ lo' hi' n i) := by
  intro n
  induction n with
  | zero => intro i a b hab; cases hab
  | succ n ih =>
    intro i
    unfold SPI
    by_cases k0 : mK Φ i = 0
    · rw [if_pos k0, if_pos k0]
      intro a b hab
      cases hab
      exact ⟨_, _, rfl, (h _).1, (h _).2.1, (h _).2.2⟩
    rw [if_neg k0, if_neg k0]
    by_cases k1 : mK Φ i = 1
    · rw [if_pos k1, if_pos k1]
      intro a b hab
      cases hab
      exact ⟨_, _, rfl, Int.le_refl _, Int.le_refl _, Int.le_refl _⟩
    rw [if_neg k1, if_neg k1]
    by_cases k2 : mK Φ i = 2
    · rw [if_pos k2, if_pos k2]; exact Nar_sp1 (ih _)
    rw [if_neg k2, if_neg k2]
    exact Nar_sp2 (ih _) (ih _)
theorem SPI_le (Φ : FM) {lo hi : Nat → Int} (h : ∀ s, lo s ≤ hi s) {n i : Nat} {a b : Int} (e : SPI Φ lo hi n i = some (a, b)) : a ≤ b := by
  obtain ⟨a', b', e2, h1, h2, h3⟩ := SPI_nar Φ (lo := lo) (hi := hi) (lo' := lo) (hi' := hi) (fun s => ⟨Int.le_refl _, h s, Int.le_refl _⟩) n i a b e
  omega
/-- a point's span is a point -/
theorem SPI_pt (Φ : FM) {v : Nat → Int} {n i : Nat} {a b : Int} (e : SPI Φ v v n i = some (a, b)) : a = b := by
  induction n generalizing i a b with
  | zero => cases e
  | succ n ih =>
    unfold SPI at e
    by_cases k0 : mK Φ i = 0
    · rw [if_pos k0] at e; cases e; rfl
    rw [if_neg k0] at e
    by_cases k1 : mK Φ i = 1
    · rw [if_pos k1] at e; cases e; rfl
    rw [if_neg k1] at e
    by_cases k2 : mK Φ i = 2
    · rw [if_pos k2] at e
      cases hx : SPI Φ v v n (mU Φ i) with
      | none => rw [hx] at e; cases e
      | some p =>
        rw [hx] at e
        have := ih (a := p.1) (b := p.2) hx
        obtain ⟨_, _, g3⟩ := rg_some (show rg (-p.2) (-p.1) = some (a, b) from e)
        cases g3; omega
    rw [if_neg k2] at e
    cases hx : SPI Φ v v n (mU Φ i) with
    | none => rw [hx] at e; cases e
    | some p =>
      cases hy : SPI Φ v v n (mV Φ i) with
      | none => rw [hx, hy] at e; cases e
      | some r =>
        rw [hx, hy] at e
        have e1 := ih (a := p.1) (b := p.2) hx
        have e2 := ih (a := r.1) (b := r.2) hy
        unfold sp2 at e
        dsimp only at e
        by_cases k3 : mK Φ i = 3
        · rw [if_pos k3] at e; obtain ⟨_, _, g3⟩ := rg_some e; cases g3; omega
        rw [if_neg k3] at e
        by_cases k4 : mK Φ i = 4
        · rw [if_pos k4] at e; obtain ⟨_, _, g3⟩ := rg_some e; cases g3; omega
        rw [if_neg k4] at e
        obtain ⟨_, g5⟩ := pr4_some e
        cases g5
        unfold mn4 mx4
        rw [e1, e2]
        omega
def wfR (Φ : FM) : Prop := ∀ i, i < mN Φ → mK Φ i ≤ 5 ∧ (mK Φ i = 0 → mU Φ i < 6) ∧ (mK Φ i = 1 → mU Φ i ≤ 9999) ∧ (2 ≤ mK Φ i → mU Φ i < i) ∧ (3 ≤ mK Φ i → mV Φ i < i) ∧ (mK Φ i ≤ 2 → mV Φ i = 0) ∧ mP Φ i < 60
def WF (Φ : FM) : Prop := 1 ≤ mN Φ ∧ mN Φ ≤ 60 ∧ wfR Φ
/-- enough fuel: the depth of the numbers of parts -/
theorem SPI_fuel (Φ : FM) (hw : wfR Φ) {lo hi : Nat → Int} : ∀ n m i, i < mN Φ → i < n → i < m → SPI Φ lo hi n i = SPI Φ lo hi m i := by
  intro n
  induction n with
  | zero => intro m i _ h; omega
  | succ n ih =>
    intro m i hi h1 h2
    cases m with
    | zero => omega
    | succ m =>
      obtain ⟨w1, w2, w3, w4, w5, w6, w7⟩ := hw i hi
      unfold SPI
      by_cases k0 : mK Φ i = 0
      · rw [if_pos k0, if_pos k0]
      rw [if_neg k0, if_neg k0]
      by_cases k1 : mK Φ i = 1
      · rw [if_pos k1, if_pos k1]
      rw [if_neg k1, if_neg k1]
      have hu := w4 (by omega)
      rw [ih m (mU Φ i) (by omega) (by omega) (by omega)]
      by_cases k2 : mK Φ i = 2
      · rw [if_pos k2, if_pos k2]
      rw [if_neg k2, if_neg k2]
      have hv := w5 (by omega)
      rw [ih m (mV Φ i) (by omega) (by omega) (by omega)]
def SP (Φ : FM) (lo hi : Nat → Int) (i : Nat) : Option (Int × Int) := SPI Φ lo hi (i + 1) i
theorem SP_0 {Φ : FM} {lo hi : Nat → Int} {i : Nat} (k : mK Φ i = 0) : SP Φ lo hi i = some (lo (mU Φ i), hi (mU Φ i)) := if_pos k
theorem SP_1 {Φ : FM} {lo hi : Nat → Int} {i : Nat} (k : mK Φ i = 1) : SP Φ lo hi i = some ((mU Φ i : Int), (mU Φ i : Int)) := by
  unfold SP SPI; rw [if_neg (by omega), if_pos k]
theorem SP_2 {Φ : FM} {lo hi : Nat → Int} {i : Nat} (hw : wfR Φ) (hi' : i < mN Φ) (k : mK Φ i = 2) : SP Φ lo hi i = sp1 (SP Φ lo hi (mU Φ i)) := by
  have hu := (hw i hi').2.2.2.1 (by omega)
  have e := SPI_fuel Φ hw (lo := lo) (hi := hi) i (mU Φ i + 1) (mU Φ i) (by omega) (by omega) (by omega)
  show SPI Φ lo hi (i + 1) i = _
  unfold SPI; rw [if_neg (by omega), if_neg (by omega), if_pos k, e]; rfl
theorem SP_3 {Φ : FM} {lo hi : Nat → Int} {i : Nat} (hw : wfR Φ) (hi' : i < mN Φ) (k : 3 ≤ mK Φ i) : SP Φ lo hi i = sp2 (mK Φ i) (SP Φ lo hi (mU Φ i)) (SP Φ lo hi (mV Φ i)) := by
  have hu := (hw i hi').2.2.2.1 (by omega)
  have hv := (hw i hi').2.2.2.2.1 (by omega)
  have e := SPI_fuel Φ hw (lo := lo) (hi := hi) i (mU Φ i + 1) (mU Φ i) (by omega) (by omega) (by omega)
  have e2 := SPI_fuel Φ hw (lo := lo) (hi := hi) i (mV Φ i + 1) (mV Φ i) (by omega) (by omega) (by omega)
  show SPI Φ lo hi (i + 1) i = _
  unfold SPI; rw [if_neg (by omega), if_neg (by omega), if_neg (by omega), e, e2]; rfl
