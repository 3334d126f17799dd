def Th (σ : HS) (x : Option (Int × Int)) : Prop := match x with
  | none => hA σ 24 2 = 1
  | some p => hA σ 24 2 = 0 ∧ (hB σ 24 3).toInt = p.1 ∧ (hB σ 24 4).toInt = p.2 ∧ p.1 ≤ p.2
theorem Bx.fr {S : List Nat} {σ σ' : HS} {L H : Nat → Int} (h : Bx σ L H) (hf : Fr S σ σ') (h1 : 25 ∉ S) (h2 : 26 ∉ S) : Bx σ' L H := ⟨h.1, fun s hs => by
  rw [hf.A h1, hf.A h2]; exact h.2 s hs⟩
theorem rep_bit {σ : HS} {t i : Nat} {x : Option (Int × Int)} (h : Rep σ t i x) : bit (hA σ (t + 3) i) := by
  cases x with
  | none => exact Or.inr h
  | some p => exact Or.inl h.1
theorem carry_lp {φ : Nat} {Φ : FM} (hw : WF Φ) {L H : Nat → Int} : ∀ (d i : Nat) (σ : HS), Typ σ → XF σ φ Φ → Bx σ L H → i + d = mN Φ → (∀ j, j < i → Rep σ 28 j (SP Φ L H j)) → ∀ nf, d < nf →
    ∃ σ', lp_X4_carry_2 nf 24 φ (nI i) σ = some ((), σ') ∧ Fr [24, 29, 30, 31] σ σ' ∧ (∀ j, j < mN Φ → Rep σ' 28 j (SP Φ L H j)) ∧ Th σ' (SP Φ L H (mN Φ - 1)) := by
  intro d
  induction d with
  | zero =>
    intro i σ h hx hb he hr nf hnf
    obtain ⟨nf, rfl⟩ : ∃ k, nf = k + 1 := ⟨nf - 1, by omega⟩
    obtain ⟨w1, w2, wr⟩ := hw
    obtain ⟨m, hm⟩ : ∃ m, mN Φ = m + 1 := ⟨mN Φ - 1, by omega⟩
    have hi : i = m + 1 := by omega
    subst hi
    have hroot := hr m (by omega)
    have hbit := rep_bit hroot
    obtain ⟨ft, hn, hc⟩ := hx
    have q0 := eq_true ft.2.1
    have t24 := eq_true (o24 h)
    have t28 := eq_true (o28 h)
    have t29 := eq_true (o29 h)
    have t30 := eq_true (o30 h)
    have t31 := eq_true (o31 h)
    have im := eq_true (inb1000 (i := m) (n := 60) (by omega) (by omega))
    have cm := cl1000 (i := m) (by omega)
    have le := eq_true (show nI (m + 1) ≤ nI (m + 1) from Int32.le_refl _)
    have bt : (hA σ 31 m = 0 ∨ hA σ 31 m = 1) = True := eq_true hbit
    refine ⟨sB (sB (sA σ 24 2 (hA σ 31 m)) 24 3 (hB σ 29 m)) 24 4 (hB σ 30 m), ?_, ?_, ?_, ?_⟩
    · show lp_X4_carry_2_b (lp_X4_carry_2 nf) 24 φ (nI (m + 1)) σ = _
      unfold lp_X4_carry_2_b
      rw [hm] at hn
      simp only [chk_p, bd_p, bc_p, lt_p, isO_sA', isO_sB', hlen_sA, hlen_sB, hR_sA, hR_sB, q0, hn, le, if_true, nI_pred, t24, t28, t29, t30, t31, r24_6 h, r28_0 h, r28_1 h, r28_2 h, l29 h, l30 h, l31 h, im, cm, bt, and_self, hB_sA, hB_sB, show ¬ (29 = 24) by decide, show ¬ (30 = 24) by decide, false_and, if_false]
    · exact ((Fr_sA (by simp)).seq (Fr_sB (by simp))).seq (Fr_sB (by simp))
    · intro j hj
      have hj2 := hr j (by omega)
      cases hx : SP Φ L H j with
      | none => rw [hx] at hj2; exact hj2
      | some p => rw [hx] at hj2; exact hj2
    · rw [hm]
      show Th _ (SP Φ L H m)
      cases hx : SP Φ L H m with
      | none =>
        rw [hx] at hroot
        show hA _ _ _ = 1
        simp only [hA_sB, hA_sA, and_self, if_true]
        exact hroot
      | some p =>
        rw [hx] at hroot
        obtain ⟨a1, a2, a3, a4⟩ := hroot
        refine ⟨?_, ?_, ?_, a4⟩
        · simp only [hA_sB, hA_sA, and_self, if_true]; exact a1
        · simp only [hB_sB, and_self, if_true, show ¬ (3 = 4) by decide, and_false, if_false]; exact a2
        · simp only [hB_sB, and_self, if_true]; exact a3
  | succ d ihd =>
    intro i σ h hx hb he hr nf hnf
    obtain ⟨nf, rfl⟩ : ∃ k, nf = k + 1 := ⟨nf - 1, by omega⟩
    obtain ⟨u, lo, hi', ef, er⟩ := carryPart_ok h hx hw hb (i := i) (by omega) hr
    have fr : Fr [29, 30, 31] σ (st3 σ 28 i u lo hi') := st3_fr
    obtain ⟨σ', e1, e2, e3, e4⟩ := ihd (i + 1) (st3 σ 28 i u lo hi') (fr.typ h) (hx.fr fr (by decide)) (hb.fr fr (by decide) (by decide)) (by omega) (fun j hj => by
      by_cases e : j = i
      · subst e; exact er
      · exact rep_keep rfl e (hr j (by omega))) nf (by omega)
    refine ⟨σ', ?_, (fr.mono (by simp)).seq e2, e3, e4⟩
    show lp_X4_carry_2_b (lp_X4_carry_2 nf) 24 φ (nI i) σ = _
    unfold lp_X4_carry_2_b
    obtain ⟨ft, hn, hc⟩ := hx
    have hw2 := hw.2.1
    have q0 := eq_true ft.2.1
    have t24 := eq_true (o24 h)
    have le := eq_false (show ¬ nI (mN Φ) ≤ nI i by rw [nI_leI (by omega) (by omega)]; omega)
    simp only [chk_p, bd_p, bc_p, lt_p, q0, hn, le, if_false, t24, ef, nI_s, e1]
theorem carry_ok {φ : Nat} {Φ : FM} (hw : WF Φ) {L H : Nat → Int} {σ : HS} (h : Typ σ) (hx : XF σ φ Φ) (hb : Bx σ L H) :
    ∃ σ', f_X4_carry 24 φ σ = some ((), σ') ∧ Fr [24, 29, 30, 31] σ σ' ∧ (∀ j, j < mN Φ → Rep σ' 28 j (SP Φ L H j)) ∧ Th σ' (SP Φ L H (mN Φ - 1)) := by
  have hw2 := hw.2.1
  obtain ⟨σ', e1, e2⟩ := carry_lp hw (mN Φ) 0 σ h hx hb (by omega) (fun j hj => by omega) 1000 (by omega)
  exact ⟨σ', e1, e2⟩
theorem standAs_lp : ∀ (d i : Nat) (σ : HS), Typ σ → i + d = 6 → ∀ nf, d < nf → ∃ σ', lp_X4_standAs_2 nf 24 1 (nI i) σ = some ((), σ') ∧ Fr [25, 26] σ σ' ∧ (∀ s, s < i → hA σ' 25 s = hA σ 25 s ∧ hA σ' 26 s = hA σ 26 s) ∧ ∀ s, i ≤ s → s < 6 → hA σ' 25 s = hA σ 2 s - hA σ 3 s ∧ hA σ' 26 s = hA σ 2 s + hA σ 3 s := by
  intro d
  induction d with
  | zero =>
    intro i σ h he nf hnf
    obtain ⟨nf, rfl⟩ : ∃ k, nf = k + 1 := ⟨nf - 1, by omega⟩
    have hi : i = 6 := by omega
    subst hi
    refine ⟨σ, ?_, Fr.rf, fun s _ => ⟨rfl, rfl⟩, fun s h1 h2 => by omega⟩
    show lp_X4_standAs_2_b (lp_X4_standAs_2 nf) 24 1 (nI 6) σ = _
    unfold lp_X4_standAs_2_b
    exact if_pos (by decide)
  | succ d ih =>
    intro i σ h he nf hnf
    obtain ⟨nf, rfl⟩ : ∃ k, nf = k + 1 := ⟨nf - 1, by omega⟩
    have fr : Fr [25, 26] σ (sA (sA σ 25 i (hA σ 2 i - hA σ 3 i)) 26 i (hA σ 2 i + hA σ 3 i)) := (Fr_sA (by simp)).seq (Fr_sA (by simp))
    obtain ⟨σ', e1, e2, e3, e4⟩ := ih (i + 1) _ (fr.typ h) (by omega) nf (by omega)
    refine ⟨σ', ?_, fr.seq e2, ?_, ?_⟩
    · show lp_X4_standAs_2_b (lp_X4_standAs_2 nf) 24 1 (nI i) σ = _
      unfold lp_X4_standAs_2_b
      have t1 := eq_true (o1 h)
      have t24 := eq_true (o24 h)
      have le := eq_false (show ¬ (6 : Int32) ≤ nI i by rw [le6 (by omega)]; omega)
      simp only [le, if_false, chk_p, bc_p, lt_p, t1, t24, lowOf_ok h (show i < 6 by omega), highOf_ok h (show i < 6 by omega), stand_ok h (show i < 6 by omega), nI_s, e1]
    · intro s hs
      obtain ⟨a, b⟩ := e3 s (by omega)
      rw [a, b]
      simp only [hA_sA, show ¬ s = i by omega, and_false, if_false, and_self]
    · intro s h1 h2
      by_cases e : s = i
      · subst e
        obtain ⟨a, b⟩ := e3 s (by omega)
        rw [a, b]
        simp only [hA_sA, and_self, if_true, show ¬ (25 = 26) by decide, false_and, if_false]
      · obtain ⟨a, b⟩ := e4 s (by omega) h2
        rw [a, b]
        simp only [hA_sA, show ¬ (2 = 26) by decide, show ¬ (2 = 25) by decide, show ¬ (3 = 26) by decide, show ¬ (3 = 25) by decide, false_and, if_false, and_self]
theorem standAs_ok {σ : HS} (h : Typ σ) : ∃ σ', f_X4_standAs 24 1 σ = some ((), σ') ∧ Fr [25, 26] σ σ' ∧ ∀ s, s < 6 → hA σ' 25 s = hA σ 2 s - hA σ 3 s ∧ hA σ' 26 s = hA σ 2 s + hA σ 3 s := by
  obtain ⟨σ', e1, e2, e3, e4⟩ := standAs_lp 6 0 σ h (by omega) 1000 (by omega)
  exact ⟨σ', e1, e2, fun s hs => e4 s (by omega) hs⟩
/-- what the sources hold -/
def Vals (σ : HS) : Prop := ∀ s, s < 6 → -99 ≤ (hA σ 2 s).toInt ∧ (hA σ 2 s).toInt ≤ 99 ∧ 0 ≤ (hA σ 3 s).toInt ∧ (hA σ 3 s).toInt ≤ 20 ∧ 0 ≤ (hA σ 4 s).toInt ∧ (hA σ 4 s).toInt ≤ 99
def bL (σ : HS) (s : Nat) : Int := if s < 6 then (hA σ 2 s).toInt - (hA σ 3 s).toInt else 0
def bH (σ : HS) (s : Nat) : Int := if s < 6 then (hA σ 2 s).toInt + (hA σ 3 s).toInt else 0
theorem i_sub {a b : Int32} (h1 : -1000000 ≤ a.toInt) (h2 : a.toInt ≤ 1000000) (h3 : -1000000 ≤ b.toInt) (h4 : b.toInt ≤ 1000000) : (a - b).toInt = a.toInt - b.toInt := by
  rw [Int32.toInt_sub, Int.bmod_eq_of_le_mul_two (by omega) (by omega)]
theorem i_add {a b : Int32} (h1 : -1000000 ≤ a.toInt) (h2 : a.toInt ≤ 1000000) (h3 : -1000000 ≤ b.toInt) (h4 : b.toInt ≤ 1000000) : (a + b).toInt = a.toInt + b.toInt := by
  rw [Int32.toInt_add, Int.bmod_eq_of_le_mul_two (by omega) (by omega)]
theorem bLH {σ : HS} (hv : Vals σ) (s : Nat) : bL σ s ≤ bH σ s := by
  unfold bL bH
  by_cases h : s < 6
  · rw [if_pos h, if_pos h]; have := hv s h; omega
  · rw [if_neg h, if_neg h]; exact Int.le_refl _
theorem Bx_now {σ σ' : HS} (hv : Vals σ) (e : ∀ s, s < 6 → hA σ' 25 s = hA σ 2 s - hA σ 3 s ∧ hA σ' 26 s = hA σ 2 s + hA σ 3 s) : Bx σ' (bL σ) (bH σ) := ⟨bLH hv, fun s hs => by
  obtain ⟨a, b⟩ := e s hs
  obtain ⟨v1, v2, v3, v4, -, -⟩ := hv s hs
  rw [a, b, i_sub (by omega) (by omega) (by omega) (by omega), i_add (by omega) (by omega) (by omega) (by omega)]
  unfold bL bH
  rw [if_pos hs, if_pos hs]
  exact ⟨rfl, rfl⟩⟩
theorem cai_ok {φ : Nat} {Φ : FM} (hw : WF Φ) {σ : HS} (h : Typ σ) (hx : XF σ φ Φ) (hv : Vals σ) :
    ∃ σ', f_X5_carryAsItIs 0 φ σ = some ((), σ') ∧ Fr [24, 25, 26, 29, 30, 31] σ σ' ∧ (∀ j, j < mN Φ → Rep σ' 28 j (SP Φ (bL σ) (bH σ) j)) ∧ Th σ' (SP Φ (bL σ) (bH σ) (mN Φ - 1)) ∧ Bx σ' (bL σ) (bH σ) := by
  obtain ⟨σ1, e1, f1, b1⟩ := standAs_ok h
  have hb := Bx_now hv b1
  obtain ⟨σ2, e2, f2, r2, t2⟩ := carry_ok hw (f1.typ h) (hx.fr f1 (by decide)) hb
  refine ⟨σ2, ?_, (f1.mono (by simp)).seq (f2.mono (by simp)), r2, t2, hb.fr f2 (by decide) (by decide)⟩
  unfold f_X5_carryAsItIs
  have h1 := f1.typ h
  have p0 := eq_true (o0 h)
  have p1 := eq_true (o1 h)
  have p24 := eq_true (o24 h)
  have s0 := eq_true (o0 h1)
  have s24 := eq_true (o24 h1)
  simp only [chk_p, bd_p, bc_p, lt_p, p0, p1, p24, s0, s24, r0_4 h, r0_0 h, r0_4 h1, r0_0 h1, e1, e2]
