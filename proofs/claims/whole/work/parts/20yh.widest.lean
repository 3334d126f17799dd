/-! widest, fits -/
theorem rt_nar {Φ : FM} {L H L' H' : Nat → Int} (h : ∀ s, L s ≤ L' s ∧ L' s ≤ H' s ∧ H' s ≤ H s) {p : Int × Int} (hx : RT Φ L H = some p) : ∃ q, RT Φ L' H' = some q ∧ q.1 ≤ q.2 ∧ p.1 ≤ q.1 ∧ q.2 ≤ p.2 := by
  obtain ⟨a, b, e, e1, e2, e3⟩ := SP_nar (Φ := Φ) h (mN Φ - 1) p.1 p.2 hx
  exact ⟨(a, b), e, e2, e1, e3⟩
def wid (x : Option (Int × Int)) : Int := match x with | none => 0 | some q => q.2 - q.1
def wW (Φ : FM) (V S : Nat → Int32) (s : Nat) : Int := wid (RT Φ (upI (LO V S) s (V s).toInt) (upI (HI V S) s (V s).toInt))
def stepW (Φ : FM) (V S : Nat → Int32) (s : Nat) (x : Int × Int) : Int × Int := if S s = 0 then x else if x.1 = -5 ∨ wW Φ V S s < x.2 then ((s : Int), wW Φ V S s) else x
def outW (Φ : FM) (V S : Nat → Int32) : Nat → Nat → Int × Int → Int × Int
  | 0, _, x => x
  | d + 1, s, x => outW Φ V S d (s + 1) (stepW Φ V S s x)
def okW (w0 : Int) (x : Int × Int) : Prop := -5 ≤ x.1 ∧ x.1 ≤ 5 ∧ 0 ≤ x.2 ∧ x.2 ≤ w0
theorem in_up {σ : HS} {φ f : Nat} {Φ : FM} {V S C : Nat → Int32} (h : CS σ φ f Φ V S C) {s : Nat} (hs : s < 6) : ∀ i, LO V S i ≤ upI (LO V S) s (V s).toInt i ∧ upI (LO V S) s (V s).toInt i ≤ upI (HI V S) s (V s).toInt i ∧ upI (HI V S) s (V s).toInt i ≤ HI V S i := fun i => by
  obtain ⟨-, -, -, -, -, -, v1, v2, -, -, -⟩ := cs_val h hs
  unfold upI
  by_cases e : i = s
  · rw [if_pos e, if_pos e, e]; unfold LO HI; rw [if_pos hs, if_pos hs]; omega
  · rw [if_neg e, if_neg e]; exact ⟨Int.le_refl _, LOHI h i, Int.le_refl _⟩
theorem c_standAs {σ : HS} {φ f : Nat} {Φ : FM} {V S C : Nat → Int32} (h : CS σ φ f Φ V S C) : ∃ σ', f_X4_standAs 24 1 σ = some ((), σ') ∧ Kp σ σ' ∧ CS σ' φ f Φ V S C ∧ Bx σ' (LO V S) (HI V S) := by
  obtain ⟨σ', e1, e2, e3⟩ := standAs_ok h.1
  have k : Kp σ σ' := e2.kp (by decide)
  have hb := Bx_now h.vals e3
  rw [cs_bL h, cs_bH h] at hb
  exact ⟨σ', e1, k, h.kp k, hb⟩
theorem okW_step {σ : HS} {φ f : Nat} {Φ : FM} {V S C : Nat → Int32} (h : CS σ φ f Φ V S C) {p : Int × Int} (hx : RT Φ (LO V S) (HI V S) = some p) {s : Nat} (hs : s < 6) {x : Int × Int} (ho : okW (p.2 - p.1) x) : okW (p.2 - p.1) (stepW Φ V S s x) := by
  obtain ⟨q, e, e1, e2, e3⟩ := rt_nar (in_up h hs) hx
  have ew : wW Φ V S s = q.2 - q.1 := by unfold wW; rw [e]; rfl
  unfold stepW
  by_cases c1 : S s = 0
  · rw [if_pos c1]; exact ho
  rw [if_neg c1]
  by_cases c2 : x.1 = -5 ∨ wW Φ V S s < x.2
  · rw [if_pos c2]
    exact ⟨by show (-5 : Int) ≤ (s : Int); omega, by show (s : Int) ≤ 5; omega, by show 0 ≤ wW Φ V S s; omega, by show wW Φ V S s ≤ _; omega⟩
  · rw [if_neg c2]; exact ho
theorem x_wid {φ f : Nat} {Φ : FM} {V S C : Nat → Int32} (hw : WF Φ) {p : Int × Int} (hx : RT Φ (LO V S) (HI V S) = some p) (g : inR (p.2 - p.1)) (a : Int32) : ∀ (d s : Nat) (x : Int × Int) (σ : HS), CS σ φ f Φ V S C → okW (p.2 - p.1) x → s + d = 6 → ∀ nf, d < nf →
    ∃ σ', lp_X5_widest_39 nf 0 a φ (iJ x.1) (Int64.ofInt x.2) (nI s) σ = some (iJ (outW Φ V S d s x).1, σ') ∧ Kp σ σ' := by
  intro d
  induction d with
  | zero =>
    intro s x σ h ho hd nf hnf
    obtain ⟨nf, rfl⟩ : ∃ k, nf = k + 1 := ⟨nf - 1, by omega⟩
    have : s = 6 := by omega
    subst this
    refine ⟨σ, ?_, Kp.rf⟩
    show lp_X5_widest_39_b (lp_X5_widest_39 nf) 0 a φ _ _ (nI 6) σ = _
    unfold lp_X5_widest_39_b
    exact if_pos (by decide)
  | succ d ih =>
    intro s x σ h ho hd nf hnf
    obtain ⟨nf, rfl⟩ : ∃ k, nf = k + 1 := ⟨nf - 1, by omega⟩
    have hs : s < 6 := by omega
    have t := h.1
    have ho1 := okW_step h hx hs ho
    obtain ⟨v1, v2, -⟩ := cs_val h hs
    have le : (6 : Int32) ≤ nI s ↔ False := by rw [show (6 : Int32) = nI 6 from rfl, nle (a := 6) (b := s) (by omega) (by omega)]
    have le := eq_false (fun z => le.mp z)
    have ie := inbE (i := s) (n := 6) hs (by omega)
    have ci := cl1000 (i := s) (by omega)
    show ∃ σ', lp_X5_widest_39_b (lp_X5_widest_39 nf) 0 a φ _ _ (nI s) σ = _ ∧ _
    unfold lp_X5_widest_39_b
    rw [show outW Φ V S (d + 1) s x = outW Φ V S d (s + 1) (stepW Φ V S s x) from rfl]
    by_cases c1 : S s = 0
    · obtain ⟨σ2, e1, e2⟩ := ih (s + 1) _ σ h ho1 (by omega) nf (by omega)
      refine ⟨σ2, ?_, e2⟩
      rw [show stepW Φ V S s x = x from if_pos c1] at e1 ⊢
      simp only [le, if_false, chk_p, lt_p, bd_p, bc_p, oc_n, oc_s, and_self, and_true, true_and, if_true, if_false, isO_sA', isO_sB', isO_rA', hlen_sA, hlen_sB, hlen_rA, hR_sA, hR_sB, hR_rA, Typ_sA', Typ_sB', Typ_rA', O0, r0_0, r0_1, r0_3, r0_4, r0_5, r0_6, r0_7, O1, r1_0, r1_1, r1_2, r1_3, r1_5, r1_6, r1_7, O3, l3, t, ie, ci, v2, c1, nI_s, e1]
    · obtain ⟨σ1, s1, s2, s3, s4⟩ := c_standAs h
      obtain ⟨v1', v2', -⟩ := cs_val s3 hs
      obtain ⟨r1, r2, r3⟩ := c_stand s3.1 s4 hs (a := V s) (b := V s) (Int.le_refl _)
      have k3 := r3.kp (by decide)
      have c3 := s3.kp k3
      obtain ⟨σ4, g1, g2, g3, g4, g5, g6, g7⟩ := c_carry hw c3 r2
      obtain ⟨q, e, q1, q2, q3⟩ := rt_nar (in_up h hs) hx
      rw [e] at g5
      obtain ⟨u1, u2, u3, u4⟩ := g5
      have hww : wW Φ V S s = q.2 - q.1 := by unfold wW; rw [e]; rfl
      have ew : (hB σ4 24 4 - hB σ4 24 3).toInt = wW Φ V S s := by rw [l_sub (by rw [u2, u3]; omega), u2, u3, hww]
      have ew' := ofI_eq ew
      obtain ⟨o1, o2, o3, o4⟩ := ho
      have cmp : (0 ≤ lg_cmp (hB σ4 24 4 - hB σ4 24 3) (Int64.ofInt x.2)) = ¬ (wW Φ V S s < x.2) := by
        rw [zc_ge, ew, ofI (by omega)]; exact propext ⟨fun z => by omega, fun z => by omega⟩
      have em : (iJ x.1 = (-5 : Int32)) = (x.1 = -5) := iJ_i (y := -5) (by omega) (by omega) (by omega) (by omega)
      obtain ⟨σ5, e1, e2⟩ := ih (s + 1) _ σ4 g3 ho1 (by omega) nf (by omega)
      refine ⟨σ5, ?_, ((s2.seq k3).seq g2).seq e2⟩
      have t1 := s3.1
      have t3 := c3.1
      have t4 := g3.1
      by_cases c2 : x.1 = -5
      · rw [show stepW Φ V S s x = ((s : Int), wW Φ V S s) by unfold stepW; rw [if_neg c1, if_pos (Or.inl c2)]] at e1 ⊢
        rw [← e1]
        have em' : (iJ x.1 = (-5 : Int32)) = True := em.trans (eq_true c2)
        simp only [le, if_false, chk_p, lt_p, bd_p, bc_p, oc_n, oc_s, and_self, and_true, true_and, if_true, if_false, isO_sA', isO_sB', isO_rA', hlen_sA, hlen_sB, hlen_rA, hR_sA, hR_sB, hR_rA, Typ_sA', Typ_sB', Typ_rA', O0, r0_0, r0_1, r0_3, r0_4, r0_5, r0_6, r0_7, O1, r1_0, r1_1, r1_2, r1_3, r1_5, r1_6, r1_7, O2, l2, O3, l3, O24, r24_0, r24_1, r24_5, r24_6, r24_7, r24_8, r24_9, t, t1, t3, t4, ie, ci, v2, v1', c1, s1, r1, g1, em', nI_s, ew', iJ_n (show s < 1000 by omega)]
      · have em' : (iJ x.1 = (-5 : Int32)) = False := em.trans (eq_false c2)
        by_cases c3 : wW Φ V S s < x.2
        · rw [show stepW Φ V S s x = ((s : Int), wW Φ V S s) by unfold stepW; rw [if_neg c1, if_pos (Or.inr c3)]] at e1 ⊢
          rw [← e1]
          simp only [le, if_false, chk_p, lt_p, bd_p, bc_p, oc_n, oc_s, and_self, and_true, true_and, if_true, if_false, isO_sA', isO_sB', isO_rA', hlen_sA, hlen_sB, hlen_rA, hR_sA, hR_sB, hR_rA, Typ_sA', Typ_sB', Typ_rA', O0, r0_0, r0_1, r0_3, r0_4, r0_5, r0_6, r0_7, O1, r1_0, r1_1, r1_2, r1_3, r1_5, r1_6, r1_7, O2, l2, O3, l3, O24, r24_0, r24_1, r24_5, r24_6, r24_7, r24_8, r24_9, t, t1, t3, t4, ie, ci, v2, v1', c1, s1, r1, g1, em', cmp, c3, not_true, nI_s, ew', iJ_n (show s < 1000 by omega)]
        · rw [show stepW Φ V S s x = x by unfold stepW; rw [if_neg c1, if_neg (by omega)]] at e1 ⊢
          rw [← e1]
          simp only [le, if_false, chk_p, lt_p, bd_p, bc_p, oc_n, oc_s, and_self, and_true, true_and, if_true, if_false, isO_sA', isO_sB', isO_rA', hlen_sA, hlen_sB, hlen_rA, hR_sA, hR_sB, hR_rA, Typ_sA', Typ_sB', Typ_rA', O0, r0_0, r0_1, r0_3, r0_4, r0_5, r0_6, r0_7, O1, r1_0, r1_1, r1_2, r1_3, r1_5, r1_6, r1_7, O2, l2, O3, l3, O24, r24_0, r24_1, r24_5, r24_6, r24_7, r24_8, r24_9, t, t1, t3, t4, ie, ci, v2, v1', c1, s1, r1, g1, em', cmp, c3, not_false_iff, nI_s]
theorem m_wid {φ f : Nat} {Φ : FM} {V S C : Nat → Int32} (hf : f < 7) (hw : WF Φ) {p : Int × Int} (hx : RT Φ (LO V S) (HI V S) = some p) (g : inR (p.2 - p.1)) : ∀ (d s : Nat) (x : Int × Int) (σ : HS), CS σ φ f Φ V S C → okW (p.2 - p.1) x → s + d = 6 → ∀ nf, d < nf →
    ∃ σ', lp_X6_widest_33 nf 48 (nI f) (iJ x.1) (Int64.ofInt x.2) (nI s) σ = some (iJ (outW Φ V S d s x).1, σ') ∧ Kp σ σ' := by
  intro d
  induction d with
  | zero =>
    intro s x σ h ho hd nf hnf
    obtain ⟨nf, rfl⟩ : ∃ k, nf = k + 1 := ⟨nf - 1, by omega⟩
    have : s = 6 := by omega
    subst this
    refine ⟨σ, ?_, Kp.rf⟩
    show lp_X6_widest_33_b (lp_X6_widest_33 nf) 48 (nI f) _ _ (nI 6) σ = _
    unfold lp_X6_widest_33_b
    exact if_pos (by decide)
  | succ d ih =>
    intro s x σ h ho hd nf hnf
    obtain ⟨nf, rfl⟩ : ∃ k, nf = k + 1 := ⟨nf - 1, by omega⟩
    have hs : s < 6 := by omega
    have t := h.1
    have ho1 := okW_step h hx hs ho
    have le : (6 : Int32) ≤ nI s ↔ False := by rw [show (6 : Int32) = nI 6 from rfl, nle (a := 6) (b := s) (by omega) (by omega)]
    have le := eq_false (fun z => le.mp z)
    show ∃ σ', lp_X6_widest_33_b (lp_X6_widest_33 nf) 48 (nI f) _ _ (nI s) σ = _ ∧ _
    unfold lp_X6_widest_33_b
    rw [show outW Φ V S (d + 1) s x = outW Φ V S d (s + 1) (stepW Φ V S s x) from rfl]
    by_cases c1 : S s = 0
    · obtain ⟨σ2, e1, e2⟩ := ih (s + 1) _ σ h ho1 (by omega) nf (by omega)
      refine ⟨σ2, ?_, e2⟩
      rw [show stepW Φ V S s x = x from if_pos c1] at e1 ⊢
      simp only [le, if_false, chk_p, lt_p, bd_p, bc_p, oc_n, oc_s, and_self, and_true, true_and, if_true, if_false, isO_sA', isO_sB', isO_rA', hlen_sA, hlen_sB, hlen_rA, hR_sA, hR_sB, hR_rA, Typ_sA', Typ_sB', Typ_rA', O48, r48_0, r48_1, r48_2, r48_3, r48_4, r48_5, r48_6, r48_8, r48_9, r48_10, r48_11, r48_12, r48_15, r48_21, r48_22, r48_23, r48_24, r48_25, r48_28, r48_30, r48_31, r48_32, r48_35, r48_37, r48_39, r48_40, r48_41, t, m_span h hs, c1, nI_s, e1]
    · obtain ⟨σ1, s1, s2, s3, s4, -⟩ := m_box h
      obtain ⟨r1, r2, r3⟩ := m_laysPoint s3.1 s4 hs (a := V s)
      have k3 := r3.kp (by decide)
      have c3 := s3.kp k3
      obtain ⟨σ4, g1, g2, g3, g4⟩ := m_width hf hw c3 r2
      obtain ⟨q, e, q1, q2, q3⟩ := rt_nar (in_up h hs) hx
      have hww : wW Φ V S s = q.2 - q.1 := by unfold wW; rw [e]; rfl
      have ew : oW (WD (RT Φ (upI (LO V S) s (V s).toInt) (upI (HI V S) s (V s).toInt))) = Int64.ofInt (wW Φ V S s) := by
        rw [e, hww]; show oW (if inR (q.2 - q.1) then some (q.2 - q.1) else none) = _
        rw [if_pos (by omega)]; rfl
      rw [ew] at g1
      obtain ⟨o1, o2, o3, o4⟩ := ho
      have cmp : (0 ≤ lg_cmp (Int64.ofInt (wW Φ V S s)) (Int64.ofInt x.2)) = ¬ (wW Φ V S s < x.2) := by
        rw [zc_ge, ofI (by omega), ofI (by omega)]; exact propext ⟨fun z => by omega, fun z => by omega⟩
      have em : (iJ x.1 = (-5 : Int32)) = (x.1 = -5) := iJ_i (y := -5) (by omega) (by omega) (by omega) (by omega)
      obtain ⟨σ5, e1, e2⟩ := ih (s + 1) _ σ4 g3 ho1 (by omega) nf (by omega)
      refine ⟨σ5, ?_, ((s2.seq k3).seq g2).seq e2⟩
      have t1 := s3.1
      have t3 := c3.1
      have t4 := g3.1
      by_cases c2 : x.1 = -5
      · rw [show stepW Φ V S s x = ((s : Int), wW Φ V S s) by unfold stepW; rw [if_neg c1, if_pos (Or.inl c2)]] at e1 ⊢
        rw [← e1]
        have em' : (iJ x.1 = (-5 : Int32)) = True := em.trans (eq_true c2)
        simp only [le, if_false, chk_p, lt_p, bd_p, bc_p, oc_n, oc_s, and_self, and_true, true_and, if_true, if_false, isO_sA', isO_sB', isO_rA', hlen_sA, hlen_sB, hlen_rA, hR_sA, hR_sB, hR_rA, Typ_sA', Typ_sB', Typ_rA', O48, r48_0, r48_1, r48_2, r48_3, r48_4, r48_5, r48_6, r48_8, r48_9, r48_10, r48_11, r48_12, r48_15, r48_21, r48_22, r48_23, r48_24, r48_25, r48_28, r48_30, r48_31, r48_32, r48_35, r48_37, r48_39, r48_40, r48_41, t, t1, t3, t4, m_span h hs, m_val s3 hs, c1, s1, r1, g1, em', nI_s, iJ_n (show s < 1000 by omega)]
      · have em' : (iJ x.1 = (-5 : Int32)) = False := em.trans (eq_false c2)
        by_cases c3 : wW Φ V S s < x.2
        · rw [show stepW Φ V S s x = ((s : Int), wW Φ V S s) by unfold stepW; rw [if_neg c1, if_pos (Or.inr c3)]] at e1 ⊢
          rw [← e1]
          simp only [le, if_false, chk_p, lt_p, bd_p, bc_p, oc_n, oc_s, and_self, and_true, true_and, if_true, if_false, isO_sA', isO_sB', isO_rA', hlen_sA, hlen_sB, hlen_rA, hR_sA, hR_sB, hR_rA, Typ_sA', Typ_sB', Typ_rA', O48, r48_0, r48_1, r48_2, r48_3, r48_4, r48_5, r48_6, r48_8, r48_9, r48_10, r48_11, r48_12, r48_15, r48_21, r48_22, r48_23, r48_24, r48_25, r48_28, r48_30, r48_31, r48_32, r48_35, r48_37, r48_39, r48_40, r48_41, t, t1, t3, t4, m_span h hs, m_val s3 hs, c1, s1, r1, g1, em', cmp, c3, not_true, nI_s, iJ_n (show s < 1000 by omega)]
        · rw [show stepW Φ V S s x = x by unfold stepW; rw [if_neg c1, if_neg (by omega)]] at e1 ⊢
          rw [← e1]
          simp only [le, if_false, chk_p, lt_p, bd_p, bc_p, oc_n, oc_s, and_self, and_true, true_and, if_true, if_false, isO_sA', isO_sB', isO_rA', hlen_sA, hlen_sB, hlen_rA, hR_sA, hR_sB, hR_rA, Typ_sA', Typ_sB', Typ_rA', O48, r48_0, r48_1, r48_2, r48_3, r48_4, r48_5, r48_6, r48_8, r48_9, r48_10, r48_11, r48_12, r48_15, r48_21, r48_22, r48_23, r48_24, r48_25, r48_28, r48_30, r48_31, r48_32, r48_35, r48_37, r48_39, r48_40, r48_41, t, t1, t3, t4, m_span h hs, m_val s3 hs, c1, s1, r1, g1, em', cmp, c3, not_false_iff, nI_s]
theorem op_widest (a : Int32) : OpOK (f_X5_widest 0 a) (f_X6_widest 48 a) := by
  intro σ V S C n FS I
  have t := I.1
  rcases start I a with ⟨k, φ, hk, rfl, ef, hg, hc, hxi, em⟩ | ⟨ef, em⟩
  · obtain ⟨σ1, x1, x2, x3, x4, x5, x6⟩ := c_now hg.1 hc
    have t1 := x3.1
    have hwd := hasWidth_ok t1 x5
    by_cases hw : WD (RT (FS k) (LO V S) (HI V S)) = none
    · obtain ⟨σ2, z1, z2, z3⟩ := m_widthNow hk hg.1 x3
      have ow := oW_no (Φ := FS k) (LOHI x3)
      rw [hw] at hwd z1 ow
      have ow1 : (lg_cmp (oW none) (-9223372036854775807) = 0) = True := ow.trans (eq_true rfl)
      refine opQ I ⟨-6, σ1, σ2, ?_, x2, ?_, z2⟩
      · unfold f_X5_widest
        simp only [chk_p, lt_p, bd_p, bc_p, oc_n, oc_s, and_self, and_true, true_and, if_true, if_false, isO_sA', isO_sB', isO_rA', hlen_sA, hlen_sB, hlen_rA, hR_sA, hR_sB, hR_rA, Typ_sA', Typ_sB', Typ_rA', O0, r0_0, r0_1, r0_3, r0_4, r0_5, r0_6, r0_7, O24, r24_0, r24_1, r24_5, r24_6, r24_7, r24_8, r24_9, t, t1, ef, if_false, x1, hwd, Option.isSome_none, Bool.false_eq_true]
      · unfold f_X6_widest
        simp only [chk_p, lt_p, bd_p, bc_p, oc_n, oc_s, and_self, and_true, true_and, if_true, if_false, isO_sA', isO_sB', isO_rA', hlen_sA, hlen_sB, hlen_rA, hR_sA, hR_sB, hR_rA, Typ_sA', Typ_sB', Typ_rA', O48, r48_0, r48_1, r48_2, r48_3, r48_4, r48_5, r48_6, r48_8, r48_9, r48_10, r48_11, r48_12, r48_15, r48_21, r48_22, r48_23, r48_24, r48_25, r48_28, r48_30, r48_31, r48_32, r48_35, r48_37, r48_39, r48_40, r48_41, t1, em σ1 t1 x2.k7, beq1, if_false, z1, ow1]
    · obtain ⟨wd, hw'⟩ := Option.ne_none_iff_exists'.mp hw
      obtain ⟨p, hp, hpw, hw0, hwr⟩ := WD_some (LOHI hc) hw'
      subst hpw
      have ok0 : okW (p.2 - p.1) (-5, 0) := ⟨Int.le_refl (-5), (by decide : (-5 : Int) ≤ 5), Int.le_refl 0, hw0⟩
      obtain ⟨σ2, y1, y2⟩ := x_wid hg.1 hp hwr (nI k) 6 0 (-5, 0) σ1 x3 ok0 (by omega) 1000 (by omega)
      have c2 := x3.kp y2
      have t2 := c2.1
      obtain ⟨σ3, z1, z2, z3⟩ := m_widthNow hk hg.1 c2
      have t3 := z3.1
      obtain ⟨σ4, u1, u2⟩ := m_wid hk hg.1 hp hwr 6 0 (-5, 0) σ3 z3 ok0 (by omega) 1000 (by omega)
      have ow := oW_no (Φ := FS k) (LOHI x3)
      have ow' : (WD (RT (FS k) (LO V S) (HI V S)) = none) = False := eq_false hw
      rw [ow'] at ow
      rw [hw'] at hwd z1 ow
      refine opQ I ⟨iJ (outW (FS k) V S 6 0 (-5, 0)).1, σ2, σ4, ?_, x2.seq y2, ?_, z2.seq u2⟩
      · unfold f_X5_widest
        simp only [chk_p, lt_p, bd_p, bc_p, oc_n, oc_s, and_self, and_true, true_and, if_true, if_false, isO_sA', isO_sB', isO_rA', hlen_sA, hlen_sB, hlen_rA, hR_sA, hR_sB, hR_rA, Typ_sA', Typ_sB', Typ_rA', O0, r0_0, r0_1, r0_3, r0_4, r0_5, r0_6, r0_7, O24, r24_0, r24_1, r24_5, r24_6, r24_7, r24_8, r24_9, t, t1, ef, if_false, x1, hwd, Option.isSome_some, beq1]
        exact y1
      · unfold f_X6_widest
        simp only [chk_p, lt_p, bd_p, bc_p, oc_n, oc_s, and_self, and_true, true_and, if_true, if_false, isO_sA', isO_sB', isO_rA', hlen_sA, hlen_sB, hlen_rA, hR_sA, hR_sB, hR_rA, Typ_sA', Typ_sB', Typ_rA', O48, r48_0, r48_1, r48_2, r48_3, r48_4, r48_5, r48_6, r48_8, r48_9, r48_10, r48_11, r48_12, r48_15, r48_21, r48_22, r48_23, r48_24, r48_25, r48_28, r48_30, r48_31, r48_32, r48_35, r48_37, r48_39, r48_40, r48_41, t2, t3, em σ2 t2 (x2.seq y2).k7, beq1, if_false, z1, ow]
        exact u1
  · refine opN I (-1) ?_ ?_
    · unfold f_X5_widest
      simp only [chk_p, lt_p, bd_p, bc_p, oc_n, oc_s, and_self, and_true, true_and, if_true, if_false, isO_sA', isO_sB', isO_rA', hlen_sA, hlen_sB, hlen_rA, hR_sA, hR_sB, hR_rA, Typ_sA', Typ_sB', Typ_rA', O0, r0_0, r0_1, r0_3, r0_4, r0_5, r0_6, r0_7, t, ef]
    · unfold f_X6_widest
      simp only [chk_p, lt_p, bd_p, bc_p, oc_n, oc_s, and_self, and_true, true_and, if_true, if_false, isO_sA', isO_sB', isO_rA', hlen_sA, hlen_sB, hlen_rA, hR_sA, hR_sB, hR_rA, Typ_sA', Typ_sB', Typ_rA', O48, r48_0, r48_1, r48_2, r48_3, r48_4, r48_5, r48_6, r48_8, r48_9, r48_10, r48_11, r48_12, r48_15, r48_21, r48_22, r48_23, r48_24, r48_25, r48_28, r48_30, r48_31, r48_32, r48_35, r48_37, r48_39, r48_40, r48_41, t, em]
