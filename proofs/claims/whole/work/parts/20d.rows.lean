/-! rows of spans in the class: SpanRow's methods -/
theorem cl1000 {i : Nat} (h : i < 1000) : (nI i).toNatClampNeg = i := nI_clamp (by omega)
theorem inb1000 {i n : Nat} (h : i < n) (hn : i < 1000) : inb (nI i) n := by
  have e1 := nI_clamp (n := i) (by omega)
  have e2 := nI_toInt (n := i) (by omega)
  intro z
  rcases z with z | z
  · rw [Int32.lt_iff_toInt_lt, e2] at z
    have : (0 : Int32).toInt = 0 := rfl
    omega
  · rw [e1] at z; omega
theorem sumFits_ok (a b : Int64) (σ : HS) : f_X1_sumFits a b σ = some (if inR (a.toInt + b.toInt) then 1 else 0, σ) := by
  have ha := tR a
  have hb := tR b
  unfold f_X1_sumFits
  simp only [zc_lt, zc_gt]
  have z0 : (0 : Int64).toInt = 0 := rfl
  by_cases h : b.toInt < 0
  · have e : ((-9223372036854775808 : Int64) - b).toInt = -9223372036854775808 - b.toInt := l_sub (by
      have : (-9223372036854775808 : Int64).toInt = -9223372036854775808 := rfl
      omega)
    rw [if_pos (by omega), e]
    by_cases h2 : a.toInt < -9223372036854775808 - b.toInt
    · rw [if_pos h2, if_neg (by omega)]
    · rw [if_neg h2, if_pos (by omega)]
  · have e : ((9223372036854775807 : Int64) - b).toInt = 9223372036854775807 - b.toInt := l_sub (by
      have : (9223372036854775807 : Int64).toInt = 9223372036854775807 := rfl
      omega)
    rw [if_neg (by omega), e]
    by_cases h2 : 9223372036854775807 - b.toInt < a.toInt
    · rw [if_pos h2, if_neg (by omega)]
    · rw [if_neg h2, if_pos (by omega)]
theorem differenceFits_ok (a b : Int64) (σ : HS) : f_X1_differenceFits a b σ = some (if inR (a.toInt - b.toInt) then 1 else 0, σ) := by
  have ha := tR a
  have hb := tR b
  unfold f_X1_differenceFits
  simp only [zc_lt, zc_gt]
  have z0 : (0 : Int64).toInt = 0 := rfl
  by_cases h : b.toInt < 0
  · have e : ((9223372036854775807 : Int64) + b).toInt = 9223372036854775807 + b.toInt := l_add (by
      have : (9223372036854775807 : Int64).toInt = 9223372036854775807 := rfl
      omega)
    rw [if_pos (by omega), e]
    by_cases h2 : 9223372036854775807 + b.toInt < a.toInt
    · rw [if_pos h2, if_neg (by omega)]
    · rw [if_neg h2, if_pos (by omega)]
  · have e : ((-9223372036854775808 : Int64) + b).toInt = -9223372036854775808 + b.toInt := l_add (by
      have : (-9223372036854775808 : Int64).toInt = -9223372036854775808 := rfl
      omega)
    rw [if_neg (by omega), e]
    by_cases h2 : a.toInt < -9223372036854775808 + b.toInt
    · rw [if_pos h2, if_neg (by omega)]
    · rw [if_neg h2, if_pos (by omega)]
theorem small32 {a : Int64} (h : a = a.toInt32.toInt64) : -2147483648 ≤ a.toInt ∧ a.toInt < 2147483648 := by
  have e : a.toInt = a.toInt32.toInt := by
    have h2 := congrArg Int64.toInt h
    rw [Int32.toInt_toInt64] at h2
    exact h2
  have h1 := Int32.le_toInt a.toInt32
  have h2 := Int32.toInt_lt a.toInt32
  omega
theorem small_mul {a b : Int} (h1 : -2147483648 ≤ a) (h2 : a < 2147483648) (h3 : -2147483648 ≤ b) (h4 : b < 2147483648) : inR (a * b) := by
  have h := mul4 (a := -2147483648) (b := 2147483648) (c := -2147483648) (d := 2147483648) (x := a) (y := b) h1 (by omega) h3 (by omega)
  have e1 : mn4 (-2147483648) 2147483648 (-2147483648) 2147483648 = -4611686018427387904 := by decide
  have e2 : mx4 (-2147483648) 2147483648 (-2147483648) 2147483648 = 4611686018427387904 := by decide
  omega
theorem mul_neg1 {a b : Int64} (h : a = -1) : a.toInt * b.toInt = -b.toInt := by
  subst h
  have : (-1 : Int64).toInt = -1 := rfl
  rw [this]; omega
theorem productFits_ok (a b : Int64) (σ : HS) : f_X1_productFits a b σ = some (if inR (a.toInt * b.toInt) then 1 else 0, σ) := by
  have ha := tR a
  have hb := tR b
  have key : ∀ (h0 : ¬ (a = a.toInt32.toInt64 ∧ b = b.toInt32.toInt64)), (if a = 0 then some ((1 : Int32), σ) else if a = -1 then (if b = -9223372036854775808 then some ((0 : Int32), σ) else some ((1 : Int32), σ)) else (chk (¬ a = 0) (if a * b / a = b then some ((1 : Int32), σ) else some ((0 : Int32), σ)))) = some (if inR (a.toInt * b.toInt) then (1 : Int32) else 0, σ) := by
    intro _
    by_cases e0 : a = 0
    · rw [if_pos e0, if_pos (by subst e0; rw [show (0 : Int64).toInt = 0 from rfl]; omega)]
    rw [if_neg e0]
    by_cases e1 : a = -1
    · rw [if_pos e1, mul_neg1 e1]
      by_cases e2 : b = -9223372036854775808
      · rw [if_pos e2, if_neg (by subst e2; rw [show (-9223372036854775808 : Int64).toInt = -9223372036854775808 from rfl]; omega)]
      · have : b.toInt ≠ -9223372036854775808 := fun z => e2 (Int64.toInt_inj.mp z)
        rw [if_neg e2, if_pos (by omega)]
    rw [if_neg e1, chk_p e0]
    have h := mul_fit (b := b) e0 e1
    by_cases e2 : a * b / a = b
    · rw [if_pos e2, if_pos (h.mp e2)]
    · rw [if_neg e2, if_neg (fun z => e2 (h.mpr z))]
  unfold f_X1_productFits
  simp only [zc_eq, lt_p]
  by_cases s1 : a = a.toInt32.toInt64
  · by_cases s2 : b = b.toInt32.toInt64
    · rw [if_pos s1, if_pos s2]
      have h1 := small32 s1
      have h2 := small32 s2
      rw [if_pos (small_mul h1.1 h1.2 h2.1 h2.2)]
      rfl
    · rw [if_pos s1, if_neg s2]
      have := key (fun z => s2 z.2)
      simpa using this
  · rw [if_neg s1]
    have := key (fun z => s1 z.1)
    simpa using this
/-- a SpanRow of n places at the cells t .. t + 3 -/
def SR (σ : HS) (t n : Nat) : Prop := isO σ 1 t ∧ hR σ t 0 = some (t + 1) ∧ hR σ t 1 = some (t + 2) ∧ hR σ t 2 = some (t + 3) ∧ isO σ 12 (t + 1) ∧ isO σ 12 (t + 2) ∧ isO σ 11 (t + 3) ∧ hlen σ (t + 1) = n ∧ hlen σ (t + 2) = n ∧ hlen σ (t + 3) = n
theorem SR28 {σ : HS} (h : Typ σ) : SR σ 28 60 := ⟨o28 h, r28_0 h, r28_1 h, r28_2 h, o29 h, o30 h, o31 h, l29 h, l30 h, l31 h⟩
theorem SR32 {σ : HS} (h : Typ σ) : SR σ 32 60 := ⟨o32 h, r32_0 h, r32_1 h, r32_2 h, o33 h, o34 h, o35 h, l33 h, l34 h, l35 h⟩
theorem SR36 {σ : HS} (h : Typ σ) : SR σ 36 2 := ⟨o36 h, r36_0 h, r36_1 h, r36_2 h, o37 h, o38 h, o39 h, l37 h, l38 h, l39 h⟩
/-- what a place of it tells -/
def Rep (σ : HS) (t i : Nat) (x : Option (Int × Int)) : Prop := match x with
  | none => hA σ (t + 3) i = 1
  | some p => hA σ (t + 3) i = 0 ∧ (hB σ (t + 1) i).toInt = p.1 ∧ (hB σ (t + 2) i).toInt = p.2 ∧ p.1 ≤ p.2
def st3 (σ : HS) (t i : Nat) (o : Int32) (lo hi : Int64) : HS := sB (sB (sA σ (t + 3) i o) (t + 1) i lo) (t + 2) i hi
def Apart (t i o a : Nat) : Prop := (o = t ∧ a ≠ i) ∨ o + 3 ≤ t ∨ t + 3 ≤ o
theorem st3_A (σ : HS) (t i : Nat) (o : Int32) (lo hi : Int64) (a b : Nat) : hA (st3 σ t i o lo hi) a b = if a = t + 3 ∧ b = i then o else hA σ a b := rfl
theorem st3_B (σ : HS) (t i : Nat) (o : Int32) (lo hi : Int64) (a b : Nat) : hB (st3 σ t i o lo hi) a b = if a = t + 2 ∧ b = i then hi else if a = t + 1 ∧ b = i then lo else hB σ a b := rfl
theorem st3_fr {σ : HS} {t i : Nat} {o : Int32} {lo hi : Int64} : Fr [t + 1, t + 2, t + 3] σ (st3 σ t i o lo hi) :=
  ((Fr_sA (by simp)).seq (Fr_sB (by simp))).seq (Fr_sB (by simp))
theorem st3_rep_none {σ : HS} {t i : Nat} {lo hi : Int64} : Rep (st3 σ t i 1 lo hi) t i none := by
  show hA _ _ _ = 1
  rw [st3_A, if_pos ⟨rfl, rfl⟩]
theorem st3_rep_some {σ : HS} {t i : Nat} {lo hi : Int64} {p : Int × Int} (h1 : lo.toInt = p.1) (h2 : hi.toInt = p.2) (h3 : p.1 ≤ p.2) : Rep (st3 σ t i 0 lo hi) t i (some p) := by
  refine ⟨?_, ?_, ?_, h3⟩
  · rw [st3_A, if_pos ⟨rfl, rfl⟩]
  · rw [st3_B, if_neg (by omega), if_pos ⟨rfl, rfl⟩]; exact h1
  · rw [st3_B, if_pos ⟨rfl, rfl⟩]; exact h2
