/-! tight -/
def RCs (Φ : FM) (V S : Nat → Int32) (s : Nat) : Int32 := RC (CH Φ (LO V S) (HI V S) s (mN Φ - 1))
def tlo (e : Nat) : Int32 := if e = 0 then 1 else 2
def thi (e : Nat) : Int32 := if e = 0 then 2 else 1
def tL (Φ : FM) (V S : Nat → Int32) (e s : Nat) : Int := if RCs Φ V S s = tlo e then LO V S s else if RCs Φ V S s = thi e then HI V S s else LO V S s
def tH (Φ : FM) (V S : Nat → Int32) (e s : Nat) : Int := if RCs Φ V S s = tlo e then LO V S s else if RCs Φ V S s = thi e then HI V S s else HI V S s
theorem t_in {Φ : FM} {V S : Nat → Int32} (hl : ∀ s, LO V S s ≤ HI V S s) (e : Nat) : ∀ s, LO V S s ≤ tL Φ V S e s ∧ tL Φ V S e s ≤ tH Φ V S e s ∧ tH Φ V S e s ≤ HI V S s := fun s => by
  have := hl s
  unfold tL tH
  by_cases c1 : RCs Φ V S s = tlo e
  · rw [if_pos c1, if_pos c1]; omega
  · rw [if_neg c1, if_neg c1]
    by_cases c2 : RCs Φ V S s = thi e
    · rw [if_pos c2, if_pos c2]; omega
    · rw [if_neg c2, if_neg c2]; omega
theorem t_6 {Φ : FM} {V S : Nat → Int32} (e : Nat) : ∀ s, 6 ≤ s → LO V S s = tL Φ V S e s ∧ HI V S s = tH Φ V S e s := fun s hs => by
  have a := LO6 V S s hs
  have b := HI6 V S s hs
  unfold tL tH
  rw [a, b]
  by_cases c1 : RCs Φ V S s = tlo e
  · rw [if_pos c1]; exact ⟨rfl, rfl⟩
  · rw [if_neg c1]
    by_cases c2 : RCs Φ V S s = thi e
    · rw [if_pos c2]; exact ⟨rfl, rfl⟩
    · rw [if_neg c2]; exact ⟨rfl, rfl⟩
theorem x_tight {φ f : Nat} {Φ : FM} {V S C : Nat → Int32} (hw : WF Φ) {p : Int × Int} (hx : RT Φ (LO V S) (HI V S) = some p) (a : Int32) {e : Nat} (he : e < 2) {q : Int × Int} (hq : RT Φ (tL Φ V S e) (tH Φ V S e) = some q) : ∀ (d s : Nat) (σ : HS), CS σ φ f Φ V S C → RepA σ 28 Φ (LO V S) (HI V S) → Bx σ (bmix s (tL Φ V S e) (LO V S)) (bmix s (tH Φ V S e) (HI V S)) → s + d = 6 → ∀ nf, d < nf →
    ∃ σ', lp_X5_tight_67 nf 0 a (nI e) φ (tlo e) (thi e) (nI s) σ = some (EV (some q) e, σ') ∧ Kp σ σ' := by
  intro d
  induction d with
  | zero =>
    intro s σ h hr hb hd nf hnf
    obtain ⟨nf, rfl⟩ : ∃ k, nf = k + 1 := ⟨nf - 1, by omega⟩
    have : s = 6 := by omega
    subst this
    rw [bmix_6' (fun s hs => (t_6 e s hs).1), bmix_6' (fun s hs => (t_6 e s hs).2)] at hb
    obtain ⟨σ2, g1, g2, g3, g4, g5, g6, g7⟩ := c_carry hw h hb
    rw [hq] at g5
    have t := h.1
    have t2 := g3.1
    have tl := told_ok t2 g5 (e := e) (by omega)
    refine ⟨σ2, ?_, g2⟩
    show lp_X5_tight_67_b (lp_X5_tight_67 nf) 0 a (nI e) φ _ _ (nI 6) σ = _
    unfold lp_X5_tight_67_b
    rw [if_pos (by decide), chk_p (o0 t), r0_4 t, bd_p, chk_p (o24 t), g1, bc_p, chk_p (o0 t2), r0_4 t2, bd_p, chk_p (o24 t2), tl, bc_p]
  | succ d ih =>
    intro s σ h hr hb hd nf hnf
    obtain ⟨nf, rfl⟩ : ∃ k, nf = k + 1 := ⟨nf - 1, by omega⟩
    have hs : s < 6 := by omega
    have t := h.1
    obtain ⟨-, -, -, -, -, -, -, -, -, vl, vh⟩ := cs_val h hs
    obtain ⟨σ1, y1, y2, y3, y4, y5⟩ := c_change hw h hr hs
    rw [show RC (CH Φ (LO V S) (HI V S) s (mN Φ - 1)) = RCs Φ V S s from rfl] at y1
    have t1 := y3.1
    have b1 := hb.fr y5 (by decide) (by decide)
    have le : (6 : Int32) ≤ nI s ↔ False := by rw [show (6 : Int32) = nI 6 from rfl, nle (a := 6) (b := s) (by omega) (by omega)]
    have le := eq_false (fun z => le.mp z)
    show ∃ σ', lp_X5_tight_67_b (lp_X5_tight_67 nf) 0 a (nI e) φ _ _ (nI s) σ = _ ∧ _
    unfold lp_X5_tight_67_b
    rw [if_neg (of_eq_false le), chk_p (o0 t), r0_4 t, bd_p, chk_p (o24 t), y1, bc_p]
    by_cases c1 : RCs Φ V S s = tlo e
    · obtain ⟨s1, s2, s3⟩ := c_stand t1 b1 hs (a := V s - S s) (b := V s - S s) (Int.le_refl _)
      rw [vl, show LO V S s = tL Φ V S e s from (if_pos c1).symm, bmix_up, show tL Φ V S e s = tH Φ V S e s by unfold tL tH; rw [if_pos c1, if_pos c1], bmix_up] at s2
      have k2 := s3.kp (by decide)
      obtain ⟨σ2, e1, e2⟩ := ih (s + 1) _ (y3.kp k2) (fun j hj => Rep_fr (y4 j hj) s3 (by decide) (by decide) (by decide)) s2 (by omega) nf (by omega)
      refine ⟨σ2, ?_, (y2.seq k2).seq e2⟩
      rw [if_pos c1, chk_p (o0 t1), r0_4 t1, bd_p, r0_0 t1, bd_p, chk_p (o1 t1), c_low y3 hs, bc_p, chk_p (o0 t1), r0_0 t1, bd_p, chk_p (o1 t1), c_low y3 hs, bc_p, chk_p (o24 t1), s1, bc_p, lt_p, nI_s]
      exact e1
    · by_cases c2 : RCs Φ V S s = thi e
      · obtain ⟨s1, s2, s3⟩ := c_stand t1 b1 hs (a := V s + S s) (b := V s + S s) (Int.le_refl _)
        rw [vh, show HI V S s = tL Φ V S e s by unfold tL; rw [if_neg c1, if_pos c2], bmix_up, show tL Φ V S e s = tH Φ V S e s by unfold tL tH; rw [if_neg c1, if_pos c2, if_neg c1, if_pos c2], bmix_up] at s2
        have k2 := s3.kp (by decide)
        obtain ⟨σ2, e1, e2⟩ := ih (s + 1) _ (y3.kp k2) (fun j hj => Rep_fr (y4 j hj) s3 (by decide) (by decide) (by decide)) s2 (by omega) nf (by omega)
        refine ⟨σ2, ?_, (y2.seq k2).seq e2⟩
        rw [if_neg c1, if_pos c2, chk_p (o0 t1), r0_4 t1, bd_p, r0_0 t1, bd_p, chk_p (o1 t1), c_high y3 hs, bc_p, chk_p (o0 t1), r0_0 t1, bd_p, chk_p (o1 t1), c_high y3 hs, bc_p, chk_p (o24 t1), s1, bc_p, lt_p, nI_s]
        exact e1
      · rw [← bmix_same s (tL Φ V S e) (LO V S) (by unfold tL; rw [if_neg c1, if_neg c2]), ← bmix_same s (tH Φ V S e) (HI V S) (by unfold tH; rw [if_neg c1, if_neg c2])] at b1
        obtain ⟨σ2, e1, e2⟩ := ih (s + 1) σ1 y3 y4 b1 (by omega) nf (by omega)
        refine ⟨σ2, ?_, y2.seq e2⟩
        rw [if_neg c1, if_neg c2, lt_p, nI_s]
        exact e1
theorem m_tfin {φ f : Nat} {Φ : FM} {V S C : Nat → Int32} (hf : f < 7) (hw : WF Φ) (K : Nat → Int32 → Int32 → Int32 → HS → Option (Int64 × HS)) {e : Nat} (he : e < 2) {q : Int × Int} (hq : RT Φ (tL Φ V S e) (tH Φ V S e) = some q) : ∀ (d s : Nat) (σ : HS), CS σ φ f Φ V S C → (∀ j, j < 6 → hA σ 70 j = RCs Φ V S j) → BxM σ (bmix s (tL Φ V S e) (LO V S)) (bmix s (tH Φ V S e) (HI V S)) → s + d = 6 → ∀ nf, d < nf →
    ∃ σ', lp_X6_tight_66 K nf 48 (nI f) (nI e) (nI s) σ = some (EV (some q) e, σ') ∧ Kp σ σ' := by
  intro d
  induction d with
  | zero =>
    intro s σ h h70 hb hd nf hnf
    obtain ⟨nf, rfl⟩ : ∃ k, nf = k + 1 := ⟨nf - 1, by omega⟩
    have : s = 6 := by omega
    subst this
    rw [bmix_6' (fun s hs => (t_6 e s hs).1), bmix_6' (fun s hs => (t_6 e s hs).2)] at hb
    obtain ⟨σ2, g1, g2, g3, g4, g5, g6⟩ := m_spans hf hw h hb
    have t := h.1
    have t2 := g3.1
    have w1 := hw.1
    have rt := g4 (mN Φ - 1) (by omega)
    rw [show SP Φ (tL Φ V S e) (tH Φ V S e) (mN Φ - 1) = some q from hq] at rt
    obtain ⟨b1, b2, b3, b4⟩ := rt
    refine ⟨σ2, ?_, g2⟩
    show lp_X6_tight_66_b K (lp_X6_tight_66 K nf) 48 (nI f) (nI e) (nI 6) σ = _
    unfold lp_X6_tight_66_b
    have h2 : e = 0 ∨ e = 1 := by omega
    rcases h2 with z | z <;> subst z
    · rw [if_pos (by decide), chk_p (o48 t), g1, bc_p, if_pos (show nI 0 = 0 from rfl), chk_p (o48 t2), m_lo hf hw g3, bc_p, show EV (some q) 0 = Int64.ofInt q.1 from rfl, ofI_eq b2]
    · rw [if_pos (by decide), chk_p (o48 t), g1, bc_p, if_neg (by decide), chk_p (o48 t2), m_hi hf hw g3, bc_p, show EV (some q) 1 = Int64.ofInt q.2 from rfl, ofI_eq b3]
  | succ d ih =>
    intro s σ h h70 hb hd nf hnf
    obtain ⟨nf, rfl⟩ : ∃ k, nf = k + 1 := ⟨nf - 1, by omega⟩
    have hs : s < 6 := by omega
    have t := h.1
    have ie := inbE (i := s) (n := 6) hs (by omega)
    have ci := cl1000 (i := s) (by omega)
    have le : (6 : Int32) ≤ nI s ↔ False := by rw [show (6 : Int32) = nI 6 from rfl, nle (a := 6) (b := s) (by omega) (by omega)]
    have le := eq_false (fun z => le.mp z)
    have v70 := h70 s hs
    obtain ⟨bl, bh⟩ := hb.2 s hs
    have e1' : bmix s (tL Φ V S e) (LO V S) s = LO V S s := by unfold bmix; rw [if_neg (by omega)]
    have e2' : bmix s (tH Φ V S e) (HI V S) s = HI V S s := by unfold bmix; rw [if_neg (by omega)]
    rw [e1'] at bl
    rw [e2'] at bh
    have go : ∀ x : Int32, x.toInt = tL Φ V S e s → tL Φ V S e s = tH Φ V S e s → ∃ σ', f_X6_laysPoint 48 (nI s) x σ = some ((), sA (sA σ 62 s x) 63 s x) ∧ lp_X6_tight_66 K nf 48 (nI f) (nI e) (nI (s + 1)) (sA (sA σ 62 s x) 63 s x) = some (EV (some q) e, σ') ∧ Kp σ σ' := fun x hx1 hx2 => by
      obtain ⟨l1, l2, l3⟩ := m_laysPoint t hb hs (a := x)
      rw [hx1, bmix_up, hx2, bmix_up] at l2
      have k1 := l3.kp (by decide)
      obtain ⟨σ', g1, g2⟩ := ih (s + 1) _ (h.kp k1) (fun j hj => (l3.A (by decide) j).trans (h70 j hj)) l2 (by omega) nf (by omega)
      exact ⟨σ', l1, g1, k1.seq g2⟩
    show ∃ σ', lp_X6_tight_66_b K (lp_X6_tight_66 K nf) 48 (nI f) (nI e) (nI s) σ = _ ∧ _
    unfold lp_X6_tight_66_b
    have h2 : e = 0 ∨ e = 1 := by omega
    by_cases c1 : RCs Φ V S s = 1
    · rcases h2 with z | z <;> subst z
      · have tl : tL Φ V S 0 s = LO V S s := if_pos c1
        have th : tH Φ V S 0 s = LO V S s := if_pos c1
        obtain ⟨σ', l1, g1, g2⟩ := go (hA σ 62 s) (by rw [tl, bl]) (by rw [tl, th])
        refine ⟨σ', ?_, g2⟩
        rw [← g1]
        simp (decide := true) only [le, if_false, chk_p, lt_p, bd_p, bc_p, oc_n, oc_s, and_self, and_true, true_and, if_true, if_false, isO_sA', isO_sB', isO_rA', hlen_sA, hlen_sB, hlen_rA, hR_sA, hR_sB, hR_rA, Typ_sA', Typ_sB', Typ_rA', O48, r48_0, r48_1, r48_2, r48_3, r48_4, r48_5, r48_6, r48_8, r48_9, r48_10, r48_11, r48_12, r48_15, r48_21, r48_22, r48_23, r48_24, r48_25, r48_28, r48_30, r48_31, r48_32, r48_35, r48_37, r48_39, r48_40, r48_41, O62, l62, O63, l63, O70, l70, t, ie, ci, v70, c1, if_true, l1, nI_s]
      · have tl : tL Φ V S 1 s = HI V S s := by unfold tL; rw [if_neg (by rw [c1]; decide), if_pos (show RCs Φ V S s = thi 1 from c1)]
        have th : tH Φ V S 1 s = HI V S s := by unfold tH; rw [if_neg (by rw [c1]; decide), if_pos (show RCs Φ V S s = thi 1 from c1)]
        obtain ⟨σ', l1, g1, g2⟩ := go (hA σ 63 s) (by rw [tl, bh]) (by rw [tl, th])
        refine ⟨σ', ?_, g2⟩
        rw [← g1]
        simp (decide := true) only [le, if_false, chk_p, lt_p, bd_p, bc_p, oc_n, oc_s, and_self, and_true, true_and, if_true, if_false, isO_sA', isO_sB', isO_rA', hlen_sA, hlen_sB, hlen_rA, hR_sA, hR_sB, hR_rA, Typ_sA', Typ_sB', Typ_rA', O48, r48_0, r48_1, r48_2, r48_3, r48_4, r48_5, r48_6, r48_8, r48_9, r48_10, r48_11, r48_12, r48_15, r48_21, r48_22, r48_23, r48_24, r48_25, r48_28, r48_30, r48_31, r48_32, r48_35, r48_37, r48_39, r48_40, r48_41, O62, l62, O63, l63, O70, l70, t, ie, ci, v70, c1, if_true, l1, nI_s]
    · by_cases c2 : RCs Φ V S s = 2
      · rcases h2 with z | z <;> subst z
        · have tl : tL Φ V S 0 s = HI V S s := by unfold tL; rw [if_neg (by rw [c2]; decide), if_pos (show RCs Φ V S s = thi 0 from c2)]
          have th : tH Φ V S 0 s = HI V S s := by unfold tH; rw [if_neg (by rw [c2]; decide), if_pos (show RCs Φ V S s = thi 0 from c2)]
          obtain ⟨σ', l1, g1, g2⟩ := go (hA σ 63 s) (by rw [tl, bh]) (by rw [tl, th])
          refine ⟨σ', ?_, g2⟩
          rw [← g1]
          simp (decide := true) only [le, if_false, chk_p, lt_p, bd_p, bc_p, oc_n, oc_s, and_self, and_true, true_and, if_true, if_false, isO_sA', isO_sB', isO_rA', hlen_sA, hlen_sB, hlen_rA, hR_sA, hR_sB, hR_rA, Typ_sA', Typ_sB', Typ_rA', O48, r48_0, r48_1, r48_2, r48_3, r48_4, r48_5, r48_6, r48_8, r48_9, r48_10, r48_11, r48_12, r48_15, r48_21, r48_22, r48_23, r48_24, r48_25, r48_28, r48_30, r48_31, r48_32, r48_35, r48_37, r48_39, r48_40, r48_41, O62, l62, O63, l63, O70, l70, t, ie, ci, v70, c2, if_true, l1, nI_s]
        · have tl : tL Φ V S 1 s = LO V S s := if_pos c2
          have th : tH Φ V S 1 s = LO V S s := if_pos c2
          obtain ⟨σ', l1, g1, g2⟩ := go (hA σ 62 s) (by rw [tl, bl]) (by rw [tl, th])
          refine ⟨σ', ?_, g2⟩
          rw [← g1]
          simp (decide := true) only [le, if_false, chk_p, lt_p, bd_p, bc_p, oc_n, oc_s, and_self, and_true, true_and, if_true, if_false, isO_sA', isO_sB', isO_rA', hlen_sA, hlen_sB, hlen_rA, hR_sA, hR_sB, hR_rA, Typ_sA', Typ_sB', Typ_rA', O48, r48_0, r48_1, r48_2, r48_3, r48_4, r48_5, r48_6, r48_8, r48_9, r48_10, r48_11, r48_12, r48_15, r48_21, r48_22, r48_23, r48_24, r48_25, r48_28, r48_30, r48_31, r48_32, r48_35, r48_37, r48_39, r48_40, r48_41, O62, l62, O63, l63, O70, l70, t, ie, ci, v70, c2, if_true, l1, nI_s]
      · have n1 : ¬ RCs Φ V S s = tlo e := by rcases h2 with z | z <;> subst z <;> assumption
        have n2 : ¬ RCs Φ V S s = thi e := by rcases h2 with z | z <;> subst z <;> assumption
        rw [← bmix_same s (tL Φ V S e) (LO V S) (by unfold tL; rw [if_neg n1, if_neg n2]), ← bmix_same s (tH Φ V S e) (HI V S) (by unfold tH; rw [if_neg n1, if_neg n2])] at hb
        obtain ⟨σ', g1, g2⟩ := ih (s + 1) σ h h70 hb (by omega) nf (by omega)
        refine ⟨σ', ?_, g2⟩
        rw [← g1]
        simp (decide := true) only [le, if_false, chk_p, lt_p, bd_p, bc_p, oc_n, oc_s, and_self, and_true, true_and, if_true, if_false, isO_sA', isO_sB', isO_rA', hlen_sA, hlen_sB, hlen_rA, hR_sA, hR_sB, hR_rA, Typ_sA', Typ_sB', Typ_rA', O48, r48_0, r48_1, r48_2, r48_3, r48_4, r48_5, r48_6, r48_8, r48_9, r48_10, r48_11, r48_12, r48_15, r48_21, r48_22, r48_23, r48_24, r48_25, r48_28, r48_30, r48_31, r48_32, r48_35, r48_37, r48_39, r48_40, r48_41, O62, l62, O63, l63, O70, l70, t, ie, ci, v70, c1, c2, nI_s]
theorem m_tight {φ f : Nat} {Φ : FM} {V S C : Nat → Int32} (hf : f < 7) (hg : Good Φ) {p : Int × Int} (hx : RT Φ (LO V S) (HI V S) = some p) {e : Nat} (he : e < 2) {q : Int × Int} (hq : RT Φ (tL Φ V S e) (tH Φ V S e) = some q) : ∀ (d s : Nat) (σ : HS), CS σ φ f Φ V S C → (∀ j, j < s → hA σ 70 j = RCs Φ V S j) → s + d = 6 → ∀ nf, d < nf →
    ∃ σ', lp_X6_tight_36 nf 48 (nI f) (nI e) (nI s) σ = some (EV (some q) e, σ') ∧ Kp σ σ' := by
  intro d
  induction d with
  | zero =>
    intro s σ h h70 hd nf hnf
    obtain ⟨nf, rfl⟩ : ∃ k, nf = k + 1 := ⟨nf - 1, by omega⟩
    have : s = 6 := by omega
    subst this
    have t := h.1
    obtain ⟨σ1, b1, b2, b3, b4, b5⟩ := m_box h
    obtain ⟨σ2, e1, e2⟩ := m_tfin hf hg.1 (lp_X6_tight_36 nf) he hq 6 0 σ1 b3 (fun j hj => (b5.A (by decide) j).trans (h70 j hj)) (by rw [bmix_0, bmix_0]; exact b4) (by omega) 1000 (by omega)
    refine ⟨σ2, ?_, b2.seq e2⟩
    show lp_X6_tight_36_b (lp_X6_tight_36 nf) 48 (nI f) (nI e) (nI 6) σ = _
    unfold lp_X6_tight_36_b
    rw [if_pos (by decide), chk_p (o48 t), b1, bc_p, lt_p]
    exact e1
  | succ d ih =>
    intro s σ h h70 hd nf hnf
    obtain ⟨nf, rfl⟩ : ∃ k, nf = k + 1 := ⟨nf - 1, by omega⟩
    have hs : s < 6 := by omega
    have t := h.1
    obtain ⟨σ1, y1, y2, y3, y4⟩ := m_change hf hg h (by rw [hx]; exact fun z => by cases z) hs
    rw [show RC (CH Φ (LO V S) (HI V S) s (mN Φ - 1)) = RCs Φ V S s from rfl] at y1
    have t1 := y3.1
    have fr : Fr [70] σ1 (sA σ1 70 s (RCs Φ V S s)) := Fr_sA (by simp)
    have k1 : Kp σ1 (sA σ1 70 s (RCs Φ V S s)) := fr.kp (by decide)
    obtain ⟨σ2, e1, e2⟩ := ih (s + 1) (sA σ1 70 s (RCs Φ V S s)) (y3.kp k1) (fun j hj => by
      rw [hA_sA]
      by_cases z : j = s
      · rw [if_pos ⟨rfl, z⟩, z]
      · rw [if_neg (fun w => z w.2), y4 j (by omega)]; exact h70 j (by omega)) (by omega) nf (by omega)
    refine ⟨σ2, ?_, (y2.seq k1).seq e2⟩
    have le : (6 : Int32) ≤ nI s ↔ False := by rw [show (6 : Int32) = nI 6 from rfl, nle (a := 6) (b := s) (by omega) (by omega)]
    have le := eq_false (fun z => le.mp z)
    have ie := inbE (i := s) (n := 6) hs (by omega)
    have ci := cl1000 (i := s) (by omega)
    rw [← e1]
    show lp_X6_tight_36_b (lp_X6_tight_36 nf) 48 (nI f) (nI e) (nI s) σ = _
    unfold lp_X6_tight_36_b
    simp only [le, if_false, chk_p, lt_p, bd_p, bc_p, oc_n, oc_s, and_self, and_true, true_and, if_true, if_false, isO_sA', isO_sB', isO_rA', hlen_sA, hlen_sB, hlen_rA, hR_sA, hR_sB, hR_rA, Typ_sA', Typ_sB', Typ_rA', O48, r48_0, r48_1, r48_2, r48_3, r48_4, r48_5, r48_6, r48_8, r48_9, r48_10, r48_11, r48_12, r48_15, r48_21, r48_22, r48_23, r48_24, r48_25, r48_28, r48_30, r48_31, r48_32, r48_35, r48_37, r48_39, r48_40, r48_41, O70, l70, t, t1, y1, ie, ci, nI_s]
theorem op_tight (a w : Int32) : OpOK (f_X5_tight 0 a w) (f_X6_tight 48 a w) := by
  intro σ V S C n FS I
  have t := I.1
  rcases start I a with ⟨k, φ, hk, rfl, ef, hg, hc, hxi, em⟩ | ⟨ef, em⟩
  · rcases rng1 w with ⟨e, he, rfl, w0, w2, wm⟩ | ⟨wm, wc⟩
    · obtain ⟨σ1, x1, x2, x3, x4, x5, x6⟩ := c_now hg.1 hc
      have t1 := x3.1
      cases hx : RT (FS k) (LO V S) (HI V S) with
      | none =>
        obtain ⟨σ2, z1, z2, z3, z4, z5, z6⟩ := m_now hk hg.1 x3
        rw [hx] at x5 z1
        have xo' : ¬ (hA σ1 24 2 = 0) := by rw [show hA σ1 24 2 = 1 from x5]; decide
        refine opQ I ⟨-9223372036854775807, σ1, σ2, ?_, x2, ?_, z2⟩
        · unfold f_X5_tight
          rw [chk_p (o0 t), ef, bc_p, oc_s, if_neg (of_eq_false w0), if_pos (of_eq_true w2), chk_p (o0 t), x1, bc_p, chk_p (o0 t1), r0_4 t1, bd_p, chk_p (o24 t1), lt_p, if_neg xo']
        · unfold f_X6_tight
          rw [chk_p (o48 t1), em σ1 t1 x2.k7, bc_p, if_neg (by decide), wm, bc_p, if_neg (by decide), chk_p (o48 t1), z1, bc_p]
          exact if_pos rfl
      | some p =>
        rw [hx] at x5
        have xo' : hA σ1 24 2 = 0 := x5.1
        obtain ⟨q, hq, q1, q2, q3⟩ := rt_nar (t_in (Φ := FS k) (LOHI hc) e) hx
        obtain ⟨σ2, y1, y2⟩ := x_tight hg.1 hx (nI k) he hq 6 0 σ1 x3 x4 (by rw [bmix_0, bmix_0]; exact x6) (by omega) 1000 (by omega)
        have c2 := x3.kp y2
        have t2 := c2.1
        obtain ⟨σ3, z1, z2, z3, z4, z5, z6⟩ := m_now hk hg.1 c2
        rw [hx] at z1
        obtain ⟨σ4, v1, v2⟩ := m_tight hk hg hx he hq 6 0 σ3 z3 (fun j hj => by omega) (by omega) 1000 (by omega)
        refine opQ I ⟨EV (some q) e, σ2, σ4, ?_, x2.seq y2, ?_, z2.seq v2⟩
        · unfold f_X5_tight
          rw [chk_p (o0 t), ef, bc_p, oc_s, if_neg (of_eq_false w0), if_pos (of_eq_true w2), chk_p (o0 t), x1, bc_p, chk_p (o0 t1), r0_4 t1, bd_p, chk_p (o24 t1), lt_p, if_pos xo']
          have h2 : e = 0 ∨ e = 1 := by omega
          rcases h2 with z | z <;> subst z
          · rw [if_pos (show nI 0 = 0 from rfl), lt_p, if_pos (show nI 0 = 0 from rfl), lt_p, lt_p]
            exact y1
          · rw [if_neg (by decide), lt_p, if_neg (by decide), lt_p, lt_p]
            exact y1
        · unfold f_X6_tight
          rw [chk_p (o48 t2), em σ2 t2 (x2.seq y2).k7, bc_p, if_neg (by decide), wm, bc_p, if_neg (by decide), chk_p (o48 t2), z1, bc_p, if_neg (show ¬ rc (some p) = 0 from (by decide : ¬ (1 : Int32) = 0)), lt_p]
          exact v1
    · refine opN I (-9223372036854775808) ?_ ?_
      · unfold f_X5_tight
        rcases wc with wc | ⟨wc, wc2⟩
        · rw [chk_p (o0 t), ef, bc_p, oc_s, if_pos (of_eq_true wc)]
        · rw [chk_p (o0 t), ef, bc_p, oc_s, if_neg (of_eq_false wc), if_neg (of_eq_false wc2)]
      · unfold f_X6_tight
        rw [chk_p (o48 t), em σ t rfl, bc_p, if_neg (by decide), wm, bc_p, if_pos rfl]
  · refine opN I (-9223372036854775808) ?_ ?_
    · unfold f_X5_tight
      rw [chk_p (o0 t), ef, bc_p, oc_n]
    · unfold f_X6_tight
      rw [chk_p (o48 t), em, bc_p, if_pos rfl]
