/-- a formula's cells: the object at φ, its five rows behind it -/
def FT (σ : HS) (φ n : Nat) : Prop := 76 ≤ φ ∧ isO σ 0 φ ∧ (hR σ φ 1 = some (φ + 1) ∧ isO σ 10 (φ + 1) ∧ hlen σ (φ + 1) = n) ∧ (hR σ φ 2 = some (φ + 2) ∧ isO σ 10 (φ + 2) ∧ hlen σ (φ + 2) = n) ∧ (hR σ φ 3 = some (φ + 3) ∧ isO σ 10 (φ + 3) ∧ hlen σ (φ + 3) = n) ∧ (hR σ φ 4 = some (φ + 4) ∧ isO σ 10 (φ + 4) ∧ hlen σ (φ + 4) = n) ∧ (hR σ φ 5 = some (φ + 5) ∧ isO σ 10 (φ + 5) ∧ hlen σ (φ + 5) = n)
def XF (σ : HS) (φ : Nat) (Φ : FM) : Prop := FT σ φ (mN Φ) ∧ hA σ φ 0 = nI (mN Φ) ∧ ∀ i, i < mN Φ → hA σ (φ + 1) i = nI (mK Φ i) ∧ hA σ (φ + 2) i = nI (mP Φ i) ∧ hA σ (φ + 3) i = nI (if mK Φ i ≤ 1 then i else mU Φ i) ∧ hA σ (φ + 4) i = nI (if mK Φ i ≤ 1 then i else if mK Φ i = 2 then mU Φ i else mV Φ i) ∧ hA σ (φ + 5) i = nI (if mK Φ i ≤ 1 then mU Φ i else 0)
def lows (S : List Nat) : Bool := S.all (fun j => decide (j < 76))
theorem lows_ne {S : List Nat} (h : lows S = true) {j : Nat} (hj : 76 ≤ j) : j ∉ S := fun z => by
  have := List.all_eq_true.mp h j z
  simp at this
  omega
theorem FT.fr {S : List Nat} {σ σ' : HS} {φ n : Nat} (h : FT σ φ n) (hf : Fr S σ σ') : FT σ' φ n := by
  obtain ⟨h0, h1, ⟨a1, a2, a3⟩, ⟨b1, b2, b3⟩, ⟨c1, c2, c3⟩, ⟨d1, d2, d3⟩, ⟨e1, e2, e3⟩⟩ := h
  exact ⟨h0, hf.isO h1, ⟨(hf.R _ _).trans a1, hf.isO a2, (hf.len _).trans a3⟩, ⟨(hf.R _ _).trans b1, hf.isO b2, (hf.len _).trans b3⟩, ⟨(hf.R _ _).trans c1, hf.isO c2, (hf.len _).trans c3⟩, ⟨(hf.R _ _).trans d1, hf.isO d2, (hf.len _).trans d3⟩, ⟨(hf.R _ _).trans e1, hf.isO e2, (hf.len _).trans e3⟩⟩
theorem XF.fr {S : List Nat} {σ σ' : HS} {φ : Nat} {Φ : FM} (h : XF σ φ Φ) (hf : Fr S σ σ') (hS : lows S = true) : XF σ' φ Φ := by
  obtain ⟨ft, hn, hc⟩ := h
  have h0 := ft.1
  refine ⟨ft.fr hf, (hf.A (lows_ne hS h0) 0).trans hn, fun i hi => ?_⟩
  obtain ⟨c1, c2, c3, c4, c5⟩ := hc i hi
  exact ⟨(hf.A (lows_ne hS (by omega)) i).trans c1, (hf.A (lows_ne hS (by omega)) i).trans c2, (hf.A (lows_ne hS (by omega)) i).trans c3, (hf.A (lows_ne hS (by omega)) i).trans c4, (hf.A (lows_ne hS (by omega)) i).trans c5⟩
/-- the box that the sources stand in, in thought -/
def Bx (σ : HS) (L H : Nat → Int) : Prop := (∀ s, L s ≤ H s) ∧ ∀ s, s < 6 → (hA σ 25 s).toInt = L s ∧ (hA σ 26 s).toInt = H s
theorem nI_big {n : Nat} (h : n < 2147483648) : (nI n).toInt = n := nI_toInt h
theorem rep_keep {σ σ' : HS} {t i j : Nat} {u : Int32} {lo hi : Int64} {x : Option (Int × Int)} (e : σ' = st3 σ t i u lo hi) (hj : j ≠ i) (h : Rep σ t j x) : Rep σ' t j x := by
  subst e
  cases x with
  | none => show hA _ _ _ = 1; rw [st3_A, if_neg (fun z => hj z.2)]; exact h
  | some p =>
    obtain ⟨a1, a2, a3, a4⟩ := h
    refine ⟨?_, ?_, ?_, a4⟩
    · rw [st3_A, if_neg (fun z => hj z.2)]; exact a1
    · rw [st3_B, if_neg (fun z => hj z.2), if_neg (fun z => hj z.2)]; exact a2
    · rw [st3_B, if_neg (fun z => hj z.2), if_neg (fun z => hj z.2)]; exact a3
theorem carryPart_ok {σ : HS} (h : Typ σ) {φ : Nat} {Φ : FM} (hx : XF σ φ Φ) (hw : WF Φ) {L H : Nat → Int} (hb : Bx σ L H) {i : Nat} (hi : i < mN Φ) (ih : ∀ j, j < i → Rep σ 28 j (SP Φ L H j)) :
    ∃ u lo hi, f_X4_carryPart 24 φ (nI i) σ = some ((), st3 σ 28 i u lo hi) ∧ Rep (st3 σ 28 i u lo hi) 28 i (SP Φ L H i) := by
  obtain ⟨ft, hn, hc⟩ := hx
  obtain ⟨c1, c2, c3, c4, c5⟩ := hc i hi
  obtain ⟨w0, w60, wr⟩ := hw
  obtain ⟨k5, ku0, ku1, ku, kv, kv0, kp⟩ := wr i hi
  obtain ⟨f0, f1, ⟨a1, a2, a3⟩, -, ⟨d1, d2, d3⟩, ⟨e1, e2, e3⟩, ⟨g1, g2, g3⟩⟩ := ft
  have ib := eq_true (inb1000 (i := i) hi (by omega))
  have ci := cl1000 (i := i) (by omega)
  have q1 := eq_true f1
  have q2 := eq_true a2
  have q3 := eq_true d2
  have q4 := eq_true e2
  have q5 := eq_true g2
  have t24 := eq_true (o24 h)
  have t28 := eq_true (o28 h)
  have sr := SR28 h
  unfold f_X4_carryPart
  simp only [chk_p, bd_p, lt_p, q1, q2, q3, q4, q5, a1, a3, d1, d3, e1, e3, g1, g3, ib, ci, c1, c3, c4, c5, and_self]
  have h6 : mK Φ i = 0 ∨ mK Φ i = 1 ∨ mK Φ i = 2 ∨ mK Φ i = 3 ∨ mK Φ i = 4 ∨ mK Φ i = 5 := by omega
  rcases h6 with k | k | k | k | k | k
  · have hu := ku0 k
    have iu := eq_true (inb1000 (i := mU Φ i) hu (by omega))
    have cu := cl1000 (i := mU Φ i) (by omega)
    have t25 := eq_true (o25 h)
    have t26 := eq_true (o26 h)
    rw [k, SP_0 k]
    rw [if_pos (show nI 0 = 0 from rfl)]
    simp only [Nat.zero_le, if_true, chk_p, bd_p, bc_p, lt_p, t24, t25, t26, t28, l25 h, l26 h, r24_0 h, r24_1 h, r24_6 h, iu, cu, and_self, fromTo_ok sr (show i < 60 by omega) (by omega)]
    refine ⟨_, _, _, rfl, st3_rep_some ?_ ?_ (hb.1 _)⟩
    · rw [Int32.toInt_toInt64]; exact (hb.2 _ hu).1
    · rw [Int32.toInt_toInt64]; exact (hb.2 _ hu).2
  · have hu := ku1 k
    rw [k, SP_1 k]
    rw [if_neg (by decide), if_pos (show nI 1 = 1 from rfl)]
    simp only [Nat.le_refl, if_true, chk_p, bd_p, bc_p, lt_p, t24, t28, r24_6 h, fromTo_ok sr (show i < 60 by omega) (by omega)]
    refine ⟨_, _, _, rfl, st3_rep_some ?_ ?_ (Int.le_refl _)⟩
    · rw [Int32.toInt_toInt64]; exact nI_big (by omega)
    · rw [Int32.toInt_toInt64]; exact nI_big (by omega)
  · have hu := ku (by omega)
    obtain ⟨u, lo, hi', ef, er⟩ := less_ok sr sr (show i < 60 by omega) (show mU Φ i < 60 by omega) (by omega) (by omega) (ih _ hu)
    rw [k, SP_2 wr hi k]
    rw [if_neg (by decide), if_neg (by decide), if_pos (show nI 2 = 2 from rfl)]
    simp only [show ¬ (2 ≤ 1) by decide, if_false, chk_p, bd_p, bc_p, lt_p, t24, t28, r24_6 h, ef]
    exact ⟨_, _, _, rfl, er⟩
  · have hu := ku (by omega)
    have hv := kv (by omega)
    obtain ⟨u, lo, hi', ef, er⟩ := sum_ok sr sr sr (show i < 60 by omega) (show mU Φ i < 60 by omega) (show mV Φ i < 60 by omega) (by omega) (by omega) (by omega) (Or.inl ⟨rfl, by omega⟩) (Or.inl ⟨rfl, by omega⟩) (ih _ hu) (ih _ hv)
    rw [SP_3 wr hi (by omega), k]
    rw [if_neg (by decide), if_neg (by decide), if_neg (by decide), if_pos (show nI 3 = 3 from rfl)]
    simp only [show ¬ (3 ≤ 1) by decide, show ¬ (3 = 2) by decide, if_false, chk_p, bd_p, bc_p, lt_p, t24, t28, r24_6 h, ef]
    exact ⟨_, _, _, rfl, er⟩
  · have hu := ku (by omega)
    have hv := kv (by omega)
    obtain ⟨u, lo, hi', ef, er⟩ := difference_ok sr sr sr (show i < 60 by omega) (show mU Φ i < 60 by omega) (show mV Φ i < 60 by omega) (by omega) (by omega) (by omega) (Or.inl ⟨rfl, by omega⟩) (Or.inl ⟨rfl, by omega⟩) (ih _ hu) (ih _ hv)
    rw [SP_3 wr hi (by omega), k]
    rw [if_neg (by decide), if_neg (by decide), if_neg (by decide), if_neg (by decide), if_pos (show nI 4 = 4 from rfl)]
    simp only [show ¬ (4 ≤ 1) by decide, show ¬ (4 = 2) by decide, if_false, chk_p, bd_p, bc_p, lt_p, t24, t28, r24_6 h, ef]
    exact ⟨_, _, _, rfl, er⟩
  · have hu := ku (by omega)
    have hv := kv (by omega)
    obtain ⟨u, lo, hi', ef, er⟩ := product_ok sr sr sr (show i < 60 by omega) (show mU Φ i < 60 by omega) (show mV Φ i < 60 by omega) (by omega) (by omega) (by omega) (ih _ hu) (ih _ hv) (k := 5) (by omega)
    rw [SP_3 wr hi (by omega), k]
    rw [if_neg (by decide), if_neg (by decide), if_neg (by decide), if_neg (by decide), if_neg (by decide)]
    simp only [show ¬ (5 ≤ 1) by decide, show ¬ (5 = 2) by decide, if_false, chk_p, bd_p, bc_p, lt_p, t24, t28, r24_6 h, ef]
    exact ⟨_, _, _, rfl, er⟩
