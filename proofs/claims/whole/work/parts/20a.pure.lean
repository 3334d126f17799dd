def tyT (j : Nat) : Nat := [5, 2, 10, 10, 10, 13, 10, 10, 10, 2, 10, 10, 10, 13, 10, 10, 10, 3, 10, 10, 10, 10, 10, 10, 4, 10, 10, 10, 1, 12, 12, 11, 1, 12, 12, 11, 1, 12, 12, 11, 12, 14, 12, 12, 12, 12, 10, 10, 6, 10, 10, 10, 10, 10, 10, 10, 10, 10, 10, 10, 10, 10, 10, 10, 12, 12, 11, 10, 12, 12, 10, 10, 10, 10, 10, 12].getD j 0
def lnT (j : Nat) : Nat := [0, 0, 6, 6, 6, 6, 8, 8, 8, 0, 6, 6, 6, 6, 8, 8, 8, 0, 60, 60, 60, 60, 60, 60, 0, 6, 6, 6, 0, 60, 60, 60, 0, 60, 60, 60, 0, 2, 2, 2, 60, 4, 8, 8, 8, 8, 4, 60, 0, 18, 18, 420, 420, 420, 420, 7, 360, 360, 360, 360, 6, 60, 6, 6, 60, 60, 60, 60, 60, 60, 6, 24, 24, 18, 4, 32].getD j 0
def refT : Nat → List (Option Nat)
  | 0 => [some 1, some 9, none, some 17, some 24, some 41, some 46, some 47]
  | 1 => [some 2, some 3, some 4, some 5, none, some 6, some 7, some 8]
  | 9 => [some 10, some 11, some 12, some 13, none, some 14, some 15, some 16]
  | 17 => [some 18, none, none, some 19, some 20, some 21, some 22, some 23]
  | 24 => [some 25, some 26, none, none, none, some 27, some 28, some 32, some 36, some 40]
  | 28 => [some 29, some 30, some 31]
  | 32 => [some 33, some 34, some 35]
  | 36 => [some 37, some 38, some 39]
  | 41 => [some 42, some 43, some 44, some 45]
  | 48 => [some 49, some 50, some 51, some 52, some 53, some 54, some 55, none, some 56, some 57, some 58, some 59, some 60, none, none, some 61, none, none, none, none, none, some 62, some 63, some 64, some 65, some 66, none, none, some 67, none, some 68, some 69, some 70, none, none, some 71, none, some 72, none, some 73, some 74, some 75]
  | _ => []
/-- the cells of the two objects are as they were made (what they hold apart) -/
def Typ (σ : HS) : Prop := 76 ≤ hN σ ∧ ∀ j, j < 76 → hty σ j = tyT j ∧ hlen σ j = lnT j ∧ ∀ k, k < 42 → ∀ i, (refT j)[k]? = some (some i) → hR σ j k = some i
theorem Typ.o {σ : HS} (h : Typ σ) (j t : Nat) (hj : j < 76) (ht : tyT j = t) : isO σ t j := ⟨Nat.lt_of_lt_of_le hj h.1, (h.2 j hj).1.trans ht⟩
theorem Typ.l {σ : HS} (h : Typ σ) (j n : Nat) (hj : j < 76) (ht : lnT j = n) : hlen σ j = n := (h.2 j hj).2.1.trans ht
theorem Typ.r {σ : HS} (h : Typ σ) (j k i : Nat) (hj : j < 76) (hk : k < 42) (ht : (refT j)[k]? = some (some i)) : hR σ j k = some i := (h.2 j hj).2.2 k hk i ht
theorem Typ.cong {σ σ' : HS} (h : Typ σ) (h1 : hN σ ≤ hN σ') (h2 : ∀ j, j < 76 → hty σ' j = hty σ j ∧ hlen σ' j = hlen σ j ∧ (j ≠ 5 → j ≠ 13 → hR σ' j = hR σ j)) : Typ σ' := by
  refine ⟨Nat.le_trans h.1 h1, fun j hj => ?_⟩
  obtain ⟨a, b, c⟩ := h2 j hj
  refine ⟨a.trans (h.2 j hj).1, b.trans (h.2 j hj).2.1, fun k hk i hi => ?_⟩
  by_cases e5 : j = 5
  · subst e5; exact absurd hi (by unfold refT; simp)
  by_cases e13 : j = 13
  · subst e13; exact absurd hi (by unfold refT; simp)
  rw [c e5 e13]
  exact (h.2 j hj).2.2 k hk i hi
theorem o0 {σ : HS} (h : Typ σ) : isO σ 5 0 := h.o 0 5 (by decide) rfl
theorem r0_0 {σ : HS} (h : Typ σ) : hR σ 0 0 = some 1 := h.r 0 0 1 (by decide) (by decide) rfl
theorem r0_1 {σ : HS} (h : Typ σ) : hR σ 0 1 = some 9 := h.r 0 1 9 (by decide) (by decide) rfl
theorem r0_3 {σ : HS} (h : Typ σ) : hR σ 0 3 = some 17 := h.r 0 3 17 (by decide) (by decide) rfl
theorem r0_4 {σ : HS} (h : Typ σ) : hR σ 0 4 = some 24 := h.r 0 4 24 (by decide) (by decide) rfl
theorem r0_5 {σ : HS} (h : Typ σ) : hR σ 0 5 = some 41 := h.r 0 5 41 (by decide) (by decide) rfl
theorem r0_6 {σ : HS} (h : Typ σ) : hR σ 0 6 = some 46 := h.r 0 6 46 (by decide) (by decide) rfl
theorem r0_7 {σ : HS} (h : Typ σ) : hR σ 0 7 = some 47 := h.r 0 7 47 (by decide) (by decide) rfl
theorem o1 {σ : HS} (h : Typ σ) : isO σ 2 1 := h.o 1 2 (by decide) rfl
theorem r1_0 {σ : HS} (h : Typ σ) : hR σ 1 0 = some 2 := h.r 1 0 2 (by decide) (by decide) rfl
theorem r1_1 {σ : HS} (h : Typ σ) : hR σ 1 1 = some 3 := h.r 1 1 3 (by decide) (by decide) rfl
theorem r1_2 {σ : HS} (h : Typ σ) : hR σ 1 2 = some 4 := h.r 1 2 4 (by decide) (by decide) rfl
theorem r1_3 {σ : HS} (h : Typ σ) : hR σ 1 3 = some 5 := h.r 1 3 5 (by decide) (by decide) rfl
theorem r1_5 {σ : HS} (h : Typ σ) : hR σ 1 5 = some 6 := h.r 1 5 6 (by decide) (by decide) rfl
theorem r1_6 {σ : HS} (h : Typ σ) : hR σ 1 6 = some 7 := h.r 1 6 7 (by decide) (by decide) rfl
theorem r1_7 {σ : HS} (h : Typ σ) : hR σ 1 7 = some 8 := h.r 1 7 8 (by decide) (by decide) rfl
theorem o2 {σ : HS} (h : Typ σ) : isO σ 10 2 := h.o 2 10 (by decide) rfl
theorem l2 {σ : HS} (h : Typ σ) : hlen σ 2 = 6 := h.l 2 6 (by decide) rfl
theorem o3 {σ : HS} (h : Typ σ) : isO σ 10 3 := h.o 3 10 (by decide) rfl
theorem l3 {σ : HS} (h : Typ σ) : hlen σ 3 = 6 := h.l 3 6 (by decide) rfl
theorem o4 {σ : HS} (h : Typ σ) : isO σ 10 4 := h.o 4 10 (by decide) rfl
theorem l4 {σ : HS} (h : Typ σ) : hlen σ 4 = 6 := h.l 4 6 (by decide) rfl
theorem o5 {σ : HS} (h : Typ σ) : isO σ 13 5 := h.o 5 13 (by decide) rfl
theorem l5 {σ : HS} (h : Typ σ) : hlen σ 5 = 6 := h.l 5 6 (by decide) rfl
theorem o6 {σ : HS} (h : Typ σ) : isO σ 10 6 := h.o 6 10 (by decide) rfl
theorem l6 {σ : HS} (h : Typ σ) : hlen σ 6 = 8 := h.l 6 8 (by decide) rfl
theorem o7 {σ : HS} (h : Typ σ) : isO σ 10 7 := h.o 7 10 (by decide) rfl
theorem l7 {σ : HS} (h : Typ σ) : hlen σ 7 = 8 := h.l 7 8 (by decide) rfl
theorem o8 {σ : HS} (h : Typ σ) : isO σ 10 8 := h.o 8 10 (by decide) rfl
theorem l8 {σ : HS} (h : Typ σ) : hlen σ 8 = 8 := h.l 8 8 (by decide) rfl
theorem o9 {σ : HS} (h : Typ σ) : isO σ 2 9 := h.o 9 2 (by decide) rfl
theorem r9_0 {σ : HS} (h : Typ σ) : hR σ 9 0 = some 10 := h.r 9 0 10 (by decide) (by decide) rfl
theorem r9_1 {σ : HS} (h : Typ σ) : hR σ 9 1 = some 11 := h.r 9 1 11 (by decide) (by decide) rfl
theorem r9_2 {σ : HS} (h : Typ σ) : hR σ 9 2 = some 12 := h.r 9 2 12 (by decide) (by decide) rfl
theorem r9_3 {σ : HS} (h : Typ σ) : hR σ 9 3 = some 13 := h.r 9 3 13 (by decide) (by decide) rfl
theorem r9_5 {σ : HS} (h : Typ σ) : hR σ 9 5 = some 14 := h.r 9 5 14 (by decide) (by decide) rfl
theorem r9_6 {σ : HS} (h : Typ σ) : hR σ 9 6 = some 15 := h.r 9 6 15 (by decide) (by decide) rfl
theorem r9_7 {σ : HS} (h : Typ σ) : hR σ 9 7 = some 16 := h.r 9 7 16 (by decide) (by decide) rfl
theorem o10 {σ : HS} (h : Typ σ) : isO σ 10 10 := h.o 10 10 (by decide) rfl
theorem l10 {σ : HS} (h : Typ σ) : hlen σ 10 = 6 := h.l 10 6 (by decide) rfl
theorem o11 {σ : HS} (h : Typ σ) : isO σ 10 11 := h.o 11 10 (by decide) rfl
theorem l11 {σ : HS} (h : Typ σ) : hlen σ 11 = 6 := h.l 11 6 (by decide) rfl
theorem o12 {σ : HS} (h : Typ σ) : isO σ 10 12 := h.o 12 10 (by decide) rfl
theorem l12 {σ : HS} (h : Typ σ) : hlen σ 12 = 6 := h.l 12 6 (by decide) rfl
theorem o13 {σ : HS} (h : Typ σ) : isO σ 13 13 := h.o 13 13 (by decide) rfl
theorem l13 {σ : HS} (h : Typ σ) : hlen σ 13 = 6 := h.l 13 6 (by decide) rfl
theorem o14 {σ : HS} (h : Typ σ) : isO σ 10 14 := h.o 14 10 (by decide) rfl
theorem l14 {σ : HS} (h : Typ σ) : hlen σ 14 = 8 := h.l 14 8 (by decide) rfl
theorem o15 {σ : HS} (h : Typ σ) : isO σ 10 15 := h.o 15 10 (by decide) rfl
theorem l15 {σ : HS} (h : Typ σ) : hlen σ 15 = 8 := h.l 15 8 (by decide) rfl
theorem o16 {σ : HS} (h : Typ σ) : isO σ 10 16 := h.o 16 10 (by decide) rfl
theorem l16 {σ : HS} (h : Typ σ) : hlen σ 16 = 8 := h.l 16 8 (by decide) rfl
theorem o17 {σ : HS} (h : Typ σ) : isO σ 3 17 := h.o 17 3 (by decide) rfl
theorem r17_0 {σ : HS} (h : Typ σ) : hR σ 17 0 = some 18 := h.r 17 0 18 (by decide) (by decide) rfl
theorem r17_3 {σ : HS} (h : Typ σ) : hR σ 17 3 = some 19 := h.r 17 3 19 (by decide) (by decide) rfl
theorem r17_4 {σ : HS} (h : Typ σ) : hR σ 17 4 = some 20 := h.r 17 4 20 (by decide) (by decide) rfl
theorem r17_5 {σ : HS} (h : Typ σ) : hR σ 17 5 = some 21 := h.r 17 5 21 (by decide) (by decide) rfl
theorem r17_6 {σ : HS} (h : Typ σ) : hR σ 17 6 = some 22 := h.r 17 6 22 (by decide) (by decide) rfl
theorem r17_7 {σ : HS} (h : Typ σ) : hR σ 17 7 = some 23 := h.r 17 7 23 (by decide) (by decide) rfl
theorem o18 {σ : HS} (h : Typ σ) : isO σ 10 18 := h.o 18 10 (by decide) rfl
theorem l18 {σ : HS} (h : Typ σ) : hlen σ 18 = 60 := h.l 18 60 (by decide) rfl
theorem o19 {σ : HS} (h : Typ σ) : isO σ 10 19 := h.o 19 10 (by decide) rfl
theorem l19 {σ : HS} (h : Typ σ) : hlen σ 19 = 60 := h.l 19 60 (by decide) rfl
theorem o20 {σ : HS} (h : Typ σ) : isO σ 10 20 := h.o 20 10 (by decide) rfl
theorem l20 {σ : HS} (h : Typ σ) : hlen σ 20 = 60 := h.l 20 60 (by decide) rfl
theorem o21 {σ : HS} (h : Typ σ) : isO σ 10 21 := h.o 21 10 (by decide) rfl
theorem l21 {σ : HS} (h : Typ σ) : hlen σ 21 = 60 := h.l 21 60 (by decide) rfl
theorem o22 {σ : HS} (h : Typ σ) : isO σ 10 22 := h.o 22 10 (by decide) rfl
theorem l22 {σ : HS} (h : Typ σ) : hlen σ 22 = 60 := h.l 22 60 (by decide) rfl
theorem o23 {σ : HS} (h : Typ σ) : isO σ 10 23 := h.o 23 10 (by decide) rfl
theorem l23 {σ : HS} (h : Typ σ) : hlen σ 23 = 60 := h.l 23 60 (by decide) rfl
theorem o24 {σ : HS} (h : Typ σ) : isO σ 4 24 := h.o 24 4 (by decide) rfl
theorem r24_0 {σ : HS} (h : Typ σ) : hR σ 24 0 = some 25 := h.r 24 0 25 (by decide) (by decide) rfl
theorem r24_1 {σ : HS} (h : Typ σ) : hR σ 24 1 = some 26 := h.r 24 1 26 (by decide) (by decide) rfl
theorem r24_5 {σ : HS} (h : Typ σ) : hR σ 24 5 = some 27 := h.r 24 5 27 (by decide) (by decide) rfl
theorem r24_6 {σ : HS} (h : Typ σ) : hR σ 24 6 = some 28 := h.r 24 6 28 (by decide) (by decide) rfl
theorem r24_7 {σ : HS} (h : Typ σ) : hR σ 24 7 = some 32 := h.r 24 7 32 (by decide) (by decide) rfl
theorem r24_8 {σ : HS} (h : Typ σ) : hR σ 24 8 = some 36 := h.r 24 8 36 (by decide) (by decide) rfl
theorem r24_9 {σ : HS} (h : Typ σ) : hR σ 24 9 = some 40 := h.r 24 9 40 (by decide) (by decide) rfl
theorem o25 {σ : HS} (h : Typ σ) : isO σ 10 25 := h.o 25 10 (by decide) rfl
theorem l25 {σ : HS} (h : Typ σ) : hlen σ 25 = 6 := h.l 25 6 (by decide) rfl
theorem o26 {σ : HS} (h : Typ σ) : isO σ 10 26 := h.o 26 10 (by decide) rfl
theorem l26 {σ : HS} (h : Typ σ) : hlen σ 26 = 6 := h.l 26 6 (by decide) rfl
theorem o27 {σ : HS} (h : Typ σ) : isO σ 10 27 := h.o 27 10 (by decide) rfl
theorem l27 {σ : HS} (h : Typ σ) : hlen σ 27 = 6 := h.l 27 6 (by decide) rfl
theorem o28 {σ : HS} (h : Typ σ) : isO σ 1 28 := h.o 28 1 (by decide) rfl
theorem r28_0 {σ : HS} (h : Typ σ) : hR σ 28 0 = some 29 := h.r 28 0 29 (by decide) (by decide) rfl
theorem r28_1 {σ : HS} (h : Typ σ) : hR σ 28 1 = some 30 := h.r 28 1 30 (by decide) (by decide) rfl
theorem r28_2 {σ : HS} (h : Typ σ) : hR σ 28 2 = some 31 := h.r 28 2 31 (by decide) (by decide) rfl
theorem o29 {σ : HS} (h : Typ σ) : isO σ 12 29 := h.o 29 12 (by decide) rfl
theorem l29 {σ : HS} (h : Typ σ) : hlen σ 29 = 60 := h.l 29 60 (by decide) rfl
theorem o30 {σ : HS} (h : Typ σ) : isO σ 12 30 := h.o 30 12 (by decide) rfl
theorem l30 {σ : HS} (h : Typ σ) : hlen σ 30 = 60 := h.l 30 60 (by decide) rfl
theorem o31 {σ : HS} (h : Typ σ) : isO σ 11 31 := h.o 31 11 (by decide) rfl
theorem l31 {σ : HS} (h : Typ σ) : hlen σ 31 = 60 := h.l 31 60 (by decide) rfl
theorem o32 {σ : HS} (h : Typ σ) : isO σ 1 32 := h.o 32 1 (by decide) rfl
theorem r32_0 {σ : HS} (h : Typ σ) : hR σ 32 0 = some 33 := h.r 32 0 33 (by decide) (by decide) rfl
theorem r32_1 {σ : HS} (h : Typ σ) : hR σ 32 1 = some 34 := h.r 32 1 34 (by decide) (by decide) rfl
theorem r32_2 {σ : HS} (h : Typ σ) : hR σ 32 2 = some 35 := h.r 32 2 35 (by decide) (by decide) rfl
theorem o33 {σ : HS} (h : Typ σ) : isO σ 12 33 := h.o 33 12 (by decide) rfl
theorem l33 {σ : HS} (h : Typ σ) : hlen σ 33 = 60 := h.l 33 60 (by decide) rfl
theorem o34 {σ : HS} (h : Typ σ) : isO σ 12 34 := h.o 34 12 (by decide) rfl
theorem l34 {σ : HS} (h : Typ σ) : hlen σ 34 = 60 := h.l 34 60 (by decide) rfl
theorem o35 {σ : HS} (h : Typ σ) : isO σ 11 35 := h.o 35 11 (by decide) rfl
theorem l35 {σ : HS} (h : Typ σ) : hlen σ 35 = 60 := h.l 35 60 (by decide) rfl
theorem o36 {σ : HS} (h : Typ σ) : isO σ 1 36 := h.o 36 1 (by decide) rfl
theorem r36_0 {σ : HS} (h : Typ σ) : hR σ 36 0 = some 37 := h.r 36 0 37 (by decide) (by decide) rfl
theorem r36_1 {σ : HS} (h : Typ σ) : hR σ 36 1 = some 38 := h.r 36 1 38 (by decide) (by decide) rfl
theorem r36_2 {σ : HS} (h : Typ σ) : hR σ 36 2 = some 39 := h.r 36 2 39 (by decide) (by decide) rfl
theorem o37 {σ : HS} (h : Typ σ) : isO σ 12 37 := h.o 37 12 (by decide) rfl
theorem l37 {σ : HS} (h : Typ σ) : hlen σ 37 = 2 := h.l 37 2 (by decide) rfl
theorem o38 {σ : HS} (h : Typ σ) : isO σ 12 38 := h.o 38 12 (by decide) rfl
theorem l38 {σ : HS} (h : Typ σ) : hlen σ 38 = 2 := h.l 38 2 (by decide) rfl
theorem o39 {σ : HS} (h : Typ σ) : isO σ 11 39 := h.o 39 11 (by decide) rfl
theorem l39 {σ : HS} (h : Typ σ) : hlen σ 39 = 2 := h.l 39 2 (by decide) rfl
theorem o40 {σ : HS} (h : Typ σ) : isO σ 12 40 := h.o 40 12 (by decide) rfl
theorem l40 {σ : HS} (h : Typ σ) : hlen σ 40 = 60 := h.l 40 60 (by decide) rfl
theorem o41 {σ : HS} (h : Typ σ) : isO σ 14 41 := h.o 41 14 (by decide) rfl
theorem l41 {σ : HS} (h : Typ σ) : hlen σ 41 = 4 := h.l 41 4 (by decide) rfl
theorem r41_0 {σ : HS} (h : Typ σ) : hR σ 41 0 = some 42 := h.r 41 0 42 (by decide) (by decide) rfl
theorem r41_1 {σ : HS} (h : Typ σ) : hR σ 41 1 = some 43 := h.r 41 1 43 (by decide) (by decide) rfl
theorem r41_2 {σ : HS} (h : Typ σ) : hR σ 41 2 = some 44 := h.r 41 2 44 (by decide) (by decide) rfl
theorem r41_3 {σ : HS} (h : Typ σ) : hR σ 41 3 = some 45 := h.r 41 3 45 (by decide) (by decide) rfl
theorem o42 {σ : HS} (h : Typ σ) : isO σ 12 42 := h.o 42 12 (by decide) rfl
theorem l42 {σ : HS} (h : Typ σ) : hlen σ 42 = 8 := h.l 42 8 (by decide) rfl
theorem o43 {σ : HS} (h : Typ σ) : isO σ 12 43 := h.o 43 12 (by decide) rfl
theorem l43 {σ : HS} (h : Typ σ) : hlen σ 43 = 8 := h.l 43 8 (by decide) rfl
theorem o44 {σ : HS} (h : Typ σ) : isO σ 12 44 := h.o 44 12 (by decide) rfl
theorem l44 {σ : HS} (h : Typ σ) : hlen σ 44 = 8 := h.l 44 8 (by decide) rfl
theorem o45 {σ : HS} (h : Typ σ) : isO σ 12 45 := h.o 45 12 (by decide) rfl
theorem l45 {σ : HS} (h : Typ σ) : hlen σ 45 = 8 := h.l 45 8 (by decide) rfl
theorem o46 {σ : HS} (h : Typ σ) : isO σ 10 46 := h.o 46 10 (by decide) rfl
theorem l46 {σ : HS} (h : Typ σ) : hlen σ 46 = 4 := h.l 46 4 (by decide) rfl
theorem o47 {σ : HS} (h : Typ σ) : isO σ 10 47 := h.o 47 10 (by decide) rfl
theorem l47 {σ : HS} (h : Typ σ) : hlen σ 47 = 60 := h.l 47 60 (by decide) rfl
theorem o48 {σ : HS} (h : Typ σ) : isO σ 6 48 := h.o 48 6 (by decide) rfl
theorem r48_0 {σ : HS} (h : Typ σ) : hR σ 48 0 = some 49 := h.r 48 0 49 (by decide) (by decide) rfl
theorem r48_1 {σ : HS} (h : Typ σ) : hR σ 48 1 = some 50 := h.r 48 1 50 (by decide) (by decide) rfl
theorem r48_2 {σ : HS} (h : Typ σ) : hR σ 48 2 = some 51 := h.r 48 2 51 (by decide) (by decide) rfl
theorem r48_3 {σ : HS} (h : Typ σ) : hR σ 48 3 = some 52 := h.r 48 3 52 (by decide) (by decide) rfl
theorem r48_4 {σ : HS} (h : Typ σ) : hR σ 48 4 = some 53 := h.r 48 4 53 (by decide) (by decide) rfl
theorem r48_5 {σ : HS} (h : Typ σ) : hR σ 48 5 = some 54 := h.r 48 5 54 (by decide) (by decide) rfl
theorem r48_6 {σ : HS} (h : Typ σ) : hR σ 48 6 = some 55 := h.r 48 6 55 (by decide) (by decide) rfl
theorem r48_8 {σ : HS} (h : Typ σ) : hR σ 48 8 = some 56 := h.r 48 8 56 (by decide) (by decide) rfl
theorem r48_9 {σ : HS} (h : Typ σ) : hR σ 48 9 = some 57 := h.r 48 9 57 (by decide) (by decide) rfl
theorem r48_10 {σ : HS} (h : Typ σ) : hR σ 48 10 = some 58 := h.r 48 10 58 (by decide) (by decide) rfl
theorem r48_11 {σ : HS} (h : Typ σ) : hR σ 48 11 = some 59 := h.r 48 11 59 (by decide) (by decide) rfl
theorem r48_12 {σ : HS} (h : Typ σ) : hR σ 48 12 = some 60 := h.r 48 12 60 (by decide) (by decide) rfl
theorem r48_15 {σ : HS} (h : Typ σ) : hR σ 48 15 = some 61 := h.r 48 15 61 (by decide) (by decide) rfl
theorem r48_21 {σ : HS} (h : Typ σ) : hR σ 48 21 = some 62 := h.r 48 21 62 (by decide) (by decide) rfl
theorem r48_22 {σ : HS} (h : Typ σ) : hR σ 48 22 = some 63 := h.r 48 22 63 (by decide) (by decide) rfl
theorem r48_23 {σ : HS} (h : Typ σ) : hR σ 48 23 = some 64 := h.r 48 23 64 (by decide) (by decide) rfl
theorem r48_24 {σ : HS} (h : Typ σ) : hR σ 48 24 = some 65 := h.r 48 24 65 (by decide) (by decide) rfl
theorem r48_25 {σ : HS} (h : Typ σ) : hR σ 48 25 = some 66 := h.r 48 25 66 (by decide) (by decide) rfl
theorem r48_28 {σ : HS} (h : Typ σ) : hR σ 48 28 = some 67 := h.r 48 28 67 (by decide) (by decide) rfl
theorem r48_30 {σ : HS} (h : Typ σ) : hR σ 48 30 = some 68 := h.r 48 30 68 (by decide) (by decide) rfl
theorem r48_31 {σ : HS} (h : Typ σ) : hR σ 48 31 = some 69 := h.r 48 31 69 (by decide) (by decide) rfl
theorem r48_32 {σ : HS} (h : Typ σ) : hR σ 48 32 = some 70 := h.r 48 32 70 (by decide) (by decide) rfl
theorem r48_35 {σ : HS} (h : Typ σ) : hR σ 48 35 = some 71 := h.r 48 35 71 (by decide) (by decide) rfl
theorem r48_37 {σ : HS} (h : Typ σ) : hR σ 48 37 = some 72 := h.r 48 37 72 (by decide) (by decide) rfl
theorem r48_39 {σ : HS} (h : Typ σ) : hR σ 48 39 = some 73 := h.r 48 39 73 (by decide) (by decide) rfl
theorem r48_40 {σ : HS} (h : Typ σ) : hR σ 48 40 = some 74 := h.r 48 40 74 (by decide) (by decide) rfl
theorem r48_41 {σ : HS} (h : Typ σ) : hR σ 48 41 = some 75 := h.r 48 41 75 (by decide) (by decide) rfl
theorem o49 {σ : HS} (h : Typ σ) : isO σ 10 49 := h.o 49 10 (by decide) rfl
theorem l49 {σ : HS} (h : Typ σ) : hlen σ 49 = 18 := h.l 49 18 (by decide) rfl
theorem o50 {σ : HS} (h : Typ σ) : isO σ 10 50 := h.o 50 10 (by decide) rfl
theorem l50 {σ : HS} (h : Typ σ) : hlen σ 50 = 18 := h.l 50 18 (by decide) rfl
theorem o51 {σ : HS} (h : Typ σ) : isO σ 10 51 := h.o 51 10 (by decide) rfl
theorem l51 {σ : HS} (h : Typ σ) : hlen σ 51 = 420 := h.l 51 420 (by decide) rfl
theorem o52 {σ : HS} (h : Typ σ) : isO σ 10 52 := h.o 52 10 (by decide) rfl
theorem l52 {σ : HS} (h : Typ σ) : hlen σ 52 = 420 := h.l 52 420 (by decide) rfl
theorem o53 {σ : HS} (h : Typ σ) : isO σ 10 53 := h.o 53 10 (by decide) rfl
theorem l53 {σ : HS} (h : Typ σ) : hlen σ 53 = 420 := h.l 53 420 (by decide) rfl
theorem o54 {σ : HS} (h : Typ σ) : isO σ 10 54 := h.o 54 10 (by decide) rfl
theorem l54 {σ : HS} (h : Typ σ) : hlen σ 54 = 420 := h.l 54 420 (by decide) rfl
theorem o55 {σ : HS} (h : Typ σ) : isO σ 10 55 := h.o 55 10 (by decide) rfl
theorem l55 {σ : HS} (h : Typ σ) : hlen σ 55 = 7 := h.l 55 7 (by decide) rfl
theorem o56 {σ : HS} (h : Typ σ) : isO σ 10 56 := h.o 56 10 (by decide) rfl
theorem l56 {σ : HS} (h : Typ σ) : hlen σ 56 = 360 := h.l 56 360 (by decide) rfl
theorem o57 {σ : HS} (h : Typ σ) : isO σ 10 57 := h.o 57 10 (by decide) rfl
theorem l57 {σ : HS} (h : Typ σ) : hlen σ 57 = 360 := h.l 57 360 (by decide) rfl
theorem o58 {σ : HS} (h : Typ σ) : isO σ 10 58 := h.o 58 10 (by decide) rfl
theorem l58 {σ : HS} (h : Typ σ) : hlen σ 58 = 360 := h.l 58 360 (by decide) rfl
theorem o59 {σ : HS} (h : Typ σ) : isO σ 10 59 := h.o 59 10 (by decide) rfl
theorem l59 {σ : HS} (h : Typ σ) : hlen σ 59 = 360 := h.l 59 360 (by decide) rfl
theorem o60 {σ : HS} (h : Typ σ) : isO σ 10 60 := h.o 60 10 (by decide) rfl
theorem l60 {σ : HS} (h : Typ σ) : hlen σ 60 = 6 := h.l 60 6 (by decide) rfl
theorem o61 {σ : HS} (h : Typ σ) : isO σ 10 61 := h.o 61 10 (by decide) rfl
theorem l61 {σ : HS} (h : Typ σ) : hlen σ 61 = 60 := h.l 61 60 (by decide) rfl
theorem o62 {σ : HS} (h : Typ σ) : isO σ 10 62 := h.o 62 10 (by decide) rfl
theorem l62 {σ : HS} (h : Typ σ) : hlen σ 62 = 6 := h.l 62 6 (by decide) rfl
theorem o63 {σ : HS} (h : Typ σ) : isO σ 10 63 := h.o 63 10 (by decide) rfl
theorem l63 {σ : HS} (h : Typ σ) : hlen σ 63 = 6 := h.l 63 6 (by decide) rfl
theorem o64 {σ : HS} (h : Typ σ) : isO σ 12 64 := h.o 64 12 (by decide) rfl
theorem l64 {σ : HS} (h : Typ σ) : hlen σ 64 = 60 := h.l 64 60 (by decide) rfl
theorem o65 {σ : HS} (h : Typ σ) : isO σ 12 65 := h.o 65 12 (by decide) rfl
theorem l65 {σ : HS} (h : Typ σ) : hlen σ 65 = 60 := h.l 65 60 (by decide) rfl
theorem o66 {σ : HS} (h : Typ σ) : isO σ 11 66 := h.o 66 11 (by decide) rfl
theorem l66 {σ : HS} (h : Typ σ) : hlen σ 66 = 60 := h.l 66 60 (by decide) rfl
theorem o67 {σ : HS} (h : Typ σ) : isO σ 10 67 := h.o 67 10 (by decide) rfl
theorem l67 {σ : HS} (h : Typ σ) : hlen σ 67 = 60 := h.l 67 60 (by decide) rfl
theorem o68 {σ : HS} (h : Typ σ) : isO σ 12 68 := h.o 68 12 (by decide) rfl
theorem l68 {σ : HS} (h : Typ σ) : hlen σ 68 = 60 := h.l 68 60 (by decide) rfl
theorem o69 {σ : HS} (h : Typ σ) : isO σ 12 69 := h.o 69 12 (by decide) rfl
theorem l69 {σ : HS} (h : Typ σ) : hlen σ 69 = 60 := h.l 69 60 (by decide) rfl
theorem o70 {σ : HS} (h : Typ σ) : isO σ 10 70 := h.o 70 10 (by decide) rfl
theorem l70 {σ : HS} (h : Typ σ) : hlen σ 70 = 6 := h.l 70 6 (by decide) rfl
theorem o71 {σ : HS} (h : Typ σ) : isO σ 10 71 := h.o 71 10 (by decide) rfl
theorem l71 {σ : HS} (h : Typ σ) : hlen σ 71 = 24 := h.l 71 24 (by decide) rfl
theorem o72 {σ : HS} (h : Typ σ) : isO σ 10 72 := h.o 72 10 (by decide) rfl
theorem l72 {σ : HS} (h : Typ σ) : hlen σ 72 = 24 := h.l 72 24 (by decide) rfl
theorem o73 {σ : HS} (h : Typ σ) : isO σ 10 73 := h.o 73 10 (by decide) rfl
theorem l73 {σ : HS} (h : Typ σ) : hlen σ 73 = 18 := h.l 73 18 (by decide) rfl
theorem o74 {σ : HS} (h : Typ σ) : isO σ 10 74 := h.o 74 10 (by decide) rfl
theorem l74 {σ : HS} (h : Typ σ) : hlen σ 74 = 4 := h.l 74 4 (by decide) rfl
theorem o75 {σ : HS} (h : Typ σ) : isO σ 12 75 := h.o 75 12 (by decide) rfl
theorem l75 {σ : HS} (h : Typ σ) : hlen σ 75 = 32 := h.l 75 32 (by decide) rfl
theorem chk_p {α : Type} {c : Prop} {i : Decidable c} {x : Option α} (h : c) : @chk α c i x = x := if_pos h
theorem lt_p {α β : Type} (a : α) (f : α → β) : lt a f = f a := rfl
theorem bd_p {α β : Type} (a : α) (f : α → Option β) : bd (some a) f = f a := rfl
theorem bc_p {α β γ : Type} (a : α) (b : β) (f : α → β → Option γ) : bc (some (a, b)) f = f a b := rfl
theorem oc_n {α β : Type} (a : β) (f : α → β) : oc none a f = a := rfl
theorem oc_s {α β : Type} (i : α) (a : β) (f : α → β) : oc (some i) a f = f i := rfl
theorem hA_sA (σ : HS) (j k : Nat) (v : Int32) (a b : Nat) : hA (sA σ j k v) a b = if a = j ∧ b = k then v else hA σ a b := rfl
theorem hA_sB (σ : HS) (j k : Nat) (v : Int64) (a b : Nat) : hA (sB σ j k v) a b = hA σ a b := rfl
theorem hA_sR (σ : HS) (j k : Nat) (v : Option Nat) (a b : Nat) : hA (sR σ j k v) a b = hA σ a b := rfl
theorem hB_sB (σ : HS) (j k : Nat) (v : Int64) (a b : Nat) : hB (sB σ j k v) a b = if a = j ∧ b = k then v else hB σ a b := rfl
theorem hB_sA (σ : HS) (j k : Nat) (v : Int32) (a b : Nat) : hB (sA σ j k v) a b = hB σ a b := rfl
theorem hB_sR (σ : HS) (j k : Nat) (v : Option Nat) (a b : Nat) : hB (sR σ j k v) a b = hB σ a b := rfl
theorem hR_sA (σ : HS) (j k : Nat) (v : Int32) (a b : Nat) : hR (sA σ j k v) a b = hR σ a b := rfl
theorem hR_sB (σ : HS) (j k : Nat) (v : Int64) (a b : Nat) : hR (sB σ j k v) a b = hR σ a b := rfl
theorem hR_sR (σ : HS) (j k : Nat) (v : Option Nat) (a b : Nat) : hR (sR σ j k v) a b = if a = j ∧ b = k then v else hR σ a b := rfl
theorem hA_rA (σ : HS) (j : Nat) (g : Nat → Int32) (a b : Nat) : hA (rA σ j g) a b = if a = j then g b else hA σ a b := by unfold hA rA upr; dsimp only; split <;> rfl
theorem hB_rA (σ : HS) (j : Nat) (g : Nat → Int32) (a b : Nat) : hB (rA σ j g) a b = hB σ a b := rfl
theorem hR_rA (σ : HS) (j : Nat) (g : Nat → Int32) (a b : Nat) : hR (rA σ j g) a b = hR σ a b := rfl
theorem Typ_sA {σ : HS} {j k : Nat} {v : Int32} (h : Typ σ) : Typ (sA σ j k v) := h
theorem Typ_sB {σ : HS} {j k : Nat} {v : Int64} (h : Typ σ) : Typ (sB σ j k v) := h
theorem Typ_rA {σ : HS} {j : Nat} {g : Nat → Int32} (h : Typ σ) : Typ (rA σ j g) := h
theorem hlen_sA (σ : HS) (j k : Nat) (v : Int32) (a : Nat) : hlen (sA σ j k v) a = hlen σ a := rfl
theorem hlen_sB (σ : HS) (j k : Nat) (v : Int64) (a : Nat) : hlen (sB σ j k v) a = hlen σ a := rfl
theorem hlen_rA (σ : HS) (j : Nat) (g : Nat → Int32) (a : Nat) : hlen (rA σ j g) a = hlen σ a := rfl
theorem isO_sA {σ : HS} {j k : Nat} {v : Int32} {t a : Nat} (h : isO σ t a) : isO (sA σ j k v) t a := h
theorem isO_sB {σ : HS} {j k : Nat} {v : Int64} {t a : Nat} (h : isO σ t a) : isO (sB σ j k v) t a := h
theorem isO_rA {σ : HS} {j : Nat} {g : Nat → Int32} {t a : Nat} (h : isO σ t a) : isO (rA σ j g) t a := h
theorem cl {i : Nat} (h : i < 2147483648) : (nI i).toNatClampNeg = i := nI_clamp h
theorem inb_i {i n : Nat} (h : i < n) (hn : n < 2147483648) : inb (nI i) n := nI_in h hn
/-- nothing but the rows of S has changed -/
def Fr (S : List Nat) (σ σ' : HS) : Prop := hN σ' = hN σ ∧ σ'.2.1 = σ.2.1 ∧ σ'.2.2.1 = σ.2.2.1 ∧ σ'.2.2.2.2.2 = σ.2.2.2.2.2 ∧ ∀ j, j ∉ S → hA σ' j = hA σ j ∧ hB σ' j = hB σ j
theorem Fr.rf {S : List Nat} {σ : HS} : Fr S σ σ := ⟨rfl, rfl, rfl, rfl, fun _ _ => ⟨rfl, rfl⟩⟩
theorem Fr.ty {S : List Nat} {σ σ' : HS} (h : Fr S σ σ') (j : Nat) : hty σ' j = hty σ j := congrFun h.2.1 j
theorem Fr.len {S : List Nat} {σ σ' : HS} (h : Fr S σ σ') (j : Nat) : hlen σ' j = hlen σ j := congrFun h.2.2.1 j
theorem Fr.R {S : List Nat} {σ σ' : HS} (h : Fr S σ σ') (j k : Nat) : hR σ' j k = hR σ j k := congrFun (congrFun h.2.2.2.1 j) k
theorem Fr.Rr {S : List Nat} {σ σ' : HS} (h : Fr S σ σ') (j : Nat) : hR σ' j = hR σ j := congrFun h.2.2.2.1 j
theorem Fr.A {S : List Nat} {σ σ' : HS} (h : Fr S σ σ') {j : Nat} (hj : j ∉ S) (k : Nat) : hA σ' j k = hA σ j k := congrFun (h.2.2.2.2 j hj).1 k
theorem Fr.B {S : List Nat} {σ σ' : HS} (h : Fr S σ σ') {j : Nat} (hj : j ∉ S) (k : Nat) : hB σ' j k = hB σ j k := congrFun (h.2.2.2.2 j hj).2 k
theorem Fr.typ {S : List Nat} {σ σ' : HS} (h : Fr S σ σ') (ht : Typ σ) : Typ σ' := ht.cong (Nat.le_of_eq h.1.symm) (fun j _ => ⟨h.ty j, h.len j, fun _ _ => h.Rr j⟩)
theorem Fr.isO {S : List Nat} {σ σ' : HS} (h : Fr S σ σ') {t j : Nat} (ht : isO σ t j) : isO σ' t j := ⟨by rw [h.1]; exact ht.1, (h.ty j).trans ht.2⟩
theorem Fr.tr {S T : List Nat} {σ σ' σ'' : HS} (h : Fr S σ σ') (h2 : Fr T σ' σ'') : Fr (S ++ T) σ σ'' := ⟨h2.1.trans h.1, h2.2.1.trans h.2.1, h2.2.2.1.trans h.2.2.1, h2.2.2.2.1.trans h.2.2.2.1, fun j hj => by
  rw [List.mem_append] at hj
  obtain ⟨a, b⟩ := h.2.2.2.2 j (fun z => hj (Or.inl z))
  obtain ⟨c, d⟩ := h2.2.2.2.2 j (fun z => hj (Or.inr z))
  exact ⟨c.trans a, d.trans b⟩⟩
theorem Fr.mono {S T : List Nat} {σ σ' : HS} (h : Fr S σ σ') (hs : ∀ j, j ∈ S → j ∈ T) : Fr T σ σ' := ⟨h.1, h.2.1, h.2.2.1, h.2.2.2.1, fun j hj => h.2.2.2.2 j (fun z => hj (hs j z))⟩
theorem Fr_sA {S : List Nat} {σ : HS} {j k : Nat} {v : Int32} (h : j ∈ S) : Fr S σ (sA σ j k v) := ⟨rfl, rfl, rfl, rfl, fun i hi => ⟨up2_ne (fun e => hi (by rw [e]; exact h)), rfl⟩⟩
theorem Fr_sB {S : List Nat} {σ : HS} {j k : Nat} {v : Int64} (h : j ∈ S) : Fr S σ (sB σ j k v) := ⟨rfl, rfl, rfl, rfl, fun i hi => ⟨rfl, up2_ne (fun e => hi (by rw [e]; exact h))⟩⟩
theorem Fr_rA {S : List Nat} {σ : HS} {j : Nat} {g : Nat → Int32} (h : j ∈ S) : Fr S σ (rA σ j g) := ⟨rfl, rfl, rfl, rfl, fun i hi => ⟨upr_ne (fun e => hi (by rw [e]; exact h)), rfl⟩⟩
theorem Fr.seq {S : List Nat} {σ σ' σ'' : HS} (h : Fr S σ σ') (h2 : Fr S σ' σ'') : Fr S σ σ'' := (h.tr h2).mono (fun j hj => by rcases List.mem_append.mp hj with z | z <;> exact z)
