/-! fits -/
def fitB (Φ : FM) (V S : Nat → Int32) (s : Nat) (told : Int) (v : Int) : Bool := match RT Φ (upI (LO V S) s (v - (S s).toInt)) (upI (HI V S) s (v + (S s).toInt)) with
  | none => false
  | some p => decide (p.1 ≤ told) && decide (told ≤ p.2)
def cntF (b : Int → Bool) : Nat → Int → Nat
  | 0, _ => 0
  | d + 1, v => (if b v = true then 1 else 0) + cntF b d (v + 1)
def lstF (b : Int → Bool) : Nat → Int → Int
  | 0, _ => -1000
  | d + 1, v => if b v = true then v else lstF b d (v + 1)
theorem cntF_le (b : Int → Bool) : ∀ d v, cntF b d v ≤ d := by
  intro d
  induction d with
  | zero => intro v; exact Nat.le_refl _
  | succ d ih =>
    intro v
    have := ih (v + 1)
    show (if b v = true then 1 else 0) + cntF b d (v + 1) ≤ d + 1
    by_cases c : b v = true
    · rw [if_pos c]; omega
    · rw [if_neg c]; omega
theorem z9 : (99 : Int32).toInt = 99 := rfl
theorem x_fit {φ f : Nat} {Φ : FM} {V S C : Nat → Int32} (hw : WF Φ) {s : Nat} (hs : s < 6) (a : Int32) (told : Int64) {e : Nat} (he : e < 2) : ∀ (d : Nat) (v : Int) (n : Nat) (l : Int) (L0 H0 : Nat → Int) (σ : HS), CS σ φ f Φ V S C → Bx σ L0 H0 → (∀ x, upI L0 s x = upI (LO V S) s x ∧ upI H0 s x = upI (HI V S) s x) → -99 ≤ v → v + d = 100 → n + d ≤ 500 → ∀ nf, d < nf →
    ∃ σ', lp_X5_fits_55 nf 0 a (nI s) told (nI e) φ (nI n) (iJ l) (iJ v) σ = some ((if e = 0 then nI (n + cntF (fitB Φ V S s told.toInt) d v) else iJ (if n = 0 then (if cntF (fitB Φ V S s told.toInt) d v = 0 then l else lstF (fitB Φ V S s told.toInt) d v) else l)), σ') ∧ Kp σ σ' := by
  intro d
  induction d with
  | zero =>
    intro v n l L0 H0 σ h hb h0 hv hd hn nf hnf
    obtain ⟨nf, rfl⟩ : ∃ k, nf = k + 1 := ⟨nf - 1, by omega⟩
    refine ⟨σ, ?_, Kp.rf⟩
    show lp_X5_fits_55_b (lp_X5_fits_55 nf) 0 a (nI s) told (nI e) φ _ _ (iJ v) σ = _
    unfold lp_X5_fits_55_b
    have lt : ((99 : Int32) < iJ v) = True := by rw [i_lt, z9, iT (by omega) (by omega)]; exact eq_true (by omega)
    have e0 : (nI e = 0) = (e = 0) := nE (a := e) (b := 0) (by omega) (by omega)
    simp only [lt, if_true, e0]
    by_cases c : e = 0
    · rw [if_pos c, if_pos c]; rfl
    · rw [if_neg c, if_neg c]
      by_cases c2 : n = 0
      · rw [if_pos c2, if_pos (show cntF (fitB Φ V S s told.toInt) 0 v = 0 from rfl)]
      · rw [if_neg c2]
  | succ d ih =>
    intro v n l L0 H0 σ h hb h0 hv hd hn nf hnf
    obtain ⟨nf, rfl⟩ : ∃ k, nf = k + 1 := ⟨nf - 1, by omega⟩
    have t := h.1
    obtain ⟨v1, v2, -, -, -, -, -, r1, -⟩ := cs_val h hs
    have ie := inbE (i := s) (n := 6) hs (by omega)
    have ci := cl1000 (i := s) (by omega)
    have ev : (iJ v).toInt = v := iT (by omega) (by omega)
    have es : (iJ v - S s).toInt = v - (S s).toInt := by rw [i_sub (by omega) (by omega) (by omega) (by omega), ev]
    have ea : (iJ v + S s).toInt = v + (S s).toInt := by rw [i_add (by omega) (by omega) (by omega) (by omega), ev]
    obtain ⟨s1, s2, s3⟩ := c_stand t hb hs (a := iJ v - S s) (b := iJ v + S s) (by omega)
    rw [es, ea, (h0 _).1, (h0 _).2] at s2
    have k1 := s3.kp (by decide)
    have c1 := h.kp k1
    obtain ⟨σ2, g1, g2, g3, g4, g5, g6, g7⟩ := c_carry hw c1 s2
    have t1 := c1.1
    have t2 := g3.1
    have h0' : ∀ x, upI (upI (LO V S) s (v - (S s).toInt)) s x = upI (LO V S) s x ∧ upI (upI (HI V S) s (v + (S s).toInt)) s x = upI (HI V S) s x := fun x => ⟨upI_upI _ _ _ _, upI_upI _ _ _ _⟩
    have lt : ((99 : Int32) < iJ v) = False := by rw [i_lt, z9, ev]; exact eq_false (by omega)
    have n0 : (nI n = 0) = (n = 0) := nE (a := n) (b := 0) (by omega) (by omega)
    have n1 : n = 0 → (nI n = 0) = True := fun c => n0.trans (eq_true c)
    have n2 : ¬ n = 0 → (nI n = 0) = False := fun c => n0.trans (eq_false c)
    have ec : cntF (fitB Φ V S s told.toInt) (d + 1) v = (if fitB Φ V S s told.toInt v = true then 1 else 0) + cntF (fitB Φ V S s told.toInt) d (v + 1) := rfl
    have el : lstF (fitB Φ V S s told.toInt) (d + 1) v = if fitB Φ V S s told.toInt v = true then v else lstF (fitB Φ V S s told.toInt) d (v + 1) := rfl
    show ∃ σ', lp_X5_fits_55_b (lp_X5_fits_55 nf) 0 a (nI s) told (nI e) φ _ _ (iJ v) σ = _ ∧ _
    unfold lp_X5_fits_55_b
    rw [ec, el]
    cases hx : RT Φ (upI (LO V S) s (v - (S s).toInt)) (upI (HI V S) s (v + (S s).toInt)) with
    | none =>
      rw [hx] at g5
      have g5' : hA σ2 24 2 = 1 := g5
      have hf : ¬ fitB Φ V S s told.toInt v = true := by unfold fitB; rw [hx]; exact fun z => by cases z
      rw [if_neg hf, if_neg hf, Nat.zero_add]
      obtain ⟨σ3, e1, e2⟩ := ih (v + 1) n l _ _ σ2 g3 g6 h0' (by omega) (by omega) (by omega) nf (by omega)
      refine ⟨σ3, ?_, (k1.seq g2).seq e2⟩
      rw [← e1]
      simp only [lt, if_false, chk_p, lt_p, bd_p, bc_p, oc_n, oc_s, and_self, and_true, true_and, if_true, if_false, isO_sA', isO_sB', isO_rA', hlen_sA, hlen_sB, hlen_rA, hR_sA, hR_sB, hR_rA, Typ_sA', Typ_sB', Typ_rA', O0, r0_0, r0_1, r0_3, r0_4, r0_5, r0_6, r0_7, O1, r1_0, r1_1, r1_2, r1_3, r1_5, r1_6, r1_7, O3, l3, O24, r24_0, r24_1, r24_5, r24_6, r24_7, r24_8, r24_9, t, t1, t2, ie, ci, v2, s1, g1, g5', beq1, iJ_1]
    | some p =>
      rw [hx] at g5
      obtain ⟨u1, u2, u3, u4⟩ := g5
      have q1 : (0 < lg_cmp (hB σ2 24 3) told) = ¬ (p.1 ≤ told.toInt) := by rw [zc_gt, u2]; exact propext ⟨fun z => by omega, fun z => by omega⟩
      have q2 : (0 < lg_cmp told (hB σ2 24 4)) = ¬ (told.toInt ≤ p.2) := by rw [zc_gt, u3]; exact propext ⟨fun z => by omega, fun z => by omega⟩
      by_cases z1 : p.1 ≤ told.toInt
      · by_cases z2 : told.toInt ≤ p.2
        · have hf : fitB Φ V S s told.toInt v = true := by unfold fitB; rw [hx]; simp [z1, z2]
          rw [if_pos hf, if_pos hf]
          by_cases c : n = 0
          · obtain ⟨σ3, e1, e2⟩ := ih (v + 1) (n + 1) v _ _ σ2 g3 g6 h0' (by omega) (by omega) (by omega) nf (by omega)
            refine ⟨σ3, ?_, (k1.seq g2).seq e2⟩
            rw [if_pos c, if_neg (show ¬ (1 + cntF (fitB Φ V S s told.toInt) d (v + 1) = 0) by omega), ← Nat.add_assoc]
            rw [if_neg (show ¬ (n + 1 = 0) by omega)] at e1
            rw [← e1]
            simp only [lt, if_false, chk_p, lt_p, bd_p, bc_p, oc_n, oc_s, and_self, and_true, true_and, if_true, if_false, isO_sA', isO_sB', isO_rA', hlen_sA, hlen_sB, hlen_rA, hR_sA, hR_sB, hR_rA, Typ_sA', Typ_sB', Typ_rA', O0, r0_0, r0_1, r0_3, r0_4, r0_5, r0_6, r0_7, O1, r1_0, r1_1, r1_2, r1_3, r1_5, r1_6, r1_7, O3, l3, O24, r24_0, r24_1, r24_5, r24_6, r24_7, r24_8, r24_9, t, t1, t2, ie, ci, v2, s1, g1, u1, q1, q2, z1, z2, not_true, n1 c, iJ_1, nI_s]
          · obtain ⟨σ3, e1, e2⟩ := ih (v + 1) (n + 1) l _ _ σ2 g3 g6 h0' (by omega) (by omega) (by omega) nf (by omega)
            refine ⟨σ3, ?_, (k1.seq g2).seq e2⟩
            rw [if_neg c, ← Nat.add_assoc]
            rw [if_neg (show ¬ (n + 1 = 0) by omega)] at e1
            rw [← e1]
            simp only [lt, if_false, chk_p, lt_p, bd_p, bc_p, oc_n, oc_s, and_self, and_true, true_and, if_true, if_false, isO_sA', isO_sB', isO_rA', hlen_sA, hlen_sB, hlen_rA, hR_sA, hR_sB, hR_rA, Typ_sA', Typ_sB', Typ_rA', O0, r0_0, r0_1, r0_3, r0_4, r0_5, r0_6, r0_7, O1, r1_0, r1_1, r1_2, r1_3, r1_5, r1_6, r1_7, O3, l3, O24, r24_0, r24_1, r24_5, r24_6, r24_7, r24_8, r24_9, t, t1, t2, ie, ci, v2, s1, g1, u1, q1, q2, z1, z2, not_true, n2 c, iJ_1, nI_s]
        · have hf : ¬ fitB Φ V S s told.toInt v = true := by unfold fitB; rw [hx]; simp [z2]
          rw [if_neg hf, if_neg hf, Nat.zero_add]
          obtain ⟨σ3, e1, e2⟩ := ih (v + 1) n l _ _ σ2 g3 g6 h0' (by omega) (by omega) (by omega) nf (by omega)
          refine ⟨σ3, ?_, (k1.seq g2).seq e2⟩
          rw [← e1]
          simp only [lt, if_false, chk_p, lt_p, bd_p, bc_p, oc_n, oc_s, and_self, and_true, true_and, if_true, if_false, isO_sA', isO_sB', isO_rA', hlen_sA, hlen_sB, hlen_rA, hR_sA, hR_sB, hR_rA, Typ_sA', Typ_sB', Typ_rA', O0, r0_0, r0_1, r0_3, r0_4, r0_5, r0_6, r0_7, O1, r1_0, r1_1, r1_2, r1_3, r1_5, r1_6, r1_7, O3, l3, O24, r24_0, r24_1, r24_5, r24_6, r24_7, r24_8, r24_9, t, t1, t2, ie, ci, v2, s1, g1, u1, q1, q2, z1, z2, not_true, not_false_iff, iJ_1]
      · have hf : ¬ fitB Φ V S s told.toInt v = true := by unfold fitB; rw [hx]; simp [z1]
        rw [if_neg hf, if_neg hf, Nat.zero_add]
        obtain ⟨σ3, e1, e2⟩ := ih (v + 1) n l _ _ σ2 g3 g6 h0' (by omega) (by omega) (by omega) nf (by omega)
        refine ⟨σ3, ?_, (k1.seq g2).seq e2⟩
        rw [← e1]
        simp only [lt, if_false, chk_p, lt_p, bd_p, bc_p, oc_n, oc_s, and_self, and_true, true_and, if_true, if_false, isO_sA', isO_sB', isO_rA', hlen_sA, hlen_sB, hlen_rA, hR_sA, hR_sB, hR_rA, Typ_sA', Typ_sB', Typ_rA', O0, r0_0, r0_1, r0_3, r0_4, r0_5, r0_6, r0_7, O1, r1_0, r1_1, r1_2, r1_3, r1_5, r1_6, r1_7, O3, l3, O24, r24_0, r24_1, r24_5, r24_6, r24_7, r24_8, r24_9, t, t1, t2, ie, ci, v2, s1, g1, u1, q1, z1, not_false_iff, iJ_1]
theorem iJ_m (x : Int) : iJ x + (-1 : Int32) = iJ (x + -1) := by
  unfold iJ; rw [Int32.ofInt_add, show Int32.ofInt (-1) = (-1 : Int32) by decide]
theorem m_fit {φ f : Nat} {Φ : FM} {V S C : Nat → Int32} (hf : f < 7) (hw : WF Φ) {s : Nat} (hs : s < 6) (told : Int64) {e : Nat} (he : e < 2) : ∀ (d k : Nat) (v : Int) (σ : HS), CS σ φ f Φ V S C → v = 99 - k → k + d = 199 → ∀ nf, d < nf →
    ∃ σ', lp_X6_fits_40 nf 48 (nI f) (nI s) told (nI e) (nI (cntF (fitB Φ V S s told.toInt) k (v + 1))) (iJ (lstF (fitB Φ V S s told.toInt) k (v + 1))) (iJ v) σ = some ((if e = 0 then nI (cntF (fitB Φ V S s told.toInt) 199 (-99)) else iJ (lstF (fitB Φ V S s told.toInt) 199 (-99))), σ') ∧ Kp σ σ' := by
  intro d
  induction d with
  | zero =>
    intro k v σ h hv hd nf hnf
    obtain ⟨nf, rfl⟩ : ∃ k, nf = k + 1 := ⟨nf - 1, by omega⟩
    refine ⟨σ, ?_, Kp.rf⟩
    have hk : k = 199 := by omega
    subst hk
    have hv' : v = -100 := by omega
    subst hv'
    show lp_X6_fits_40_b (lp_X6_fits_40 nf) 48 (nI f) (nI s) told (nI e) _ _ (iJ (-100)) σ = _
    unfold lp_X6_fits_40_b
    have e0 : (nI e = 0) = (e = 0) := nE (a := e) (b := 0) (by omega) (by omega)
    rw [if_pos (by decide)]
    simp only [e0]
    by_cases c : e = 0
    · rw [if_pos c, if_pos c]; rfl
    · rw [if_neg c, if_neg c]; rfl
  | succ d ih =>
    intro k v σ h hv hd nf hnf
    obtain ⟨nf, rfl⟩ : ∃ k, nf = k + 1 := ⟨nf - 1, by omega⟩
    have t := h.1
    obtain ⟨-, -, -, -, -, -, -, r1, -⟩ := cs_val h hs
    have ev : (iJ v).toInt = v := iT (by omega) (by omega)
    have es : (iJ v - S s).toInt = v - (S s).toInt := by rw [i_sub (by omega) (by omega) (by omega) (by omega), ev]
    have ea : (iJ v + S s).toInt = v + (S s).toInt := by rw [i_add (by omega) (by omega) (by omega) (by omega), ev]
    obtain ⟨σ1, b1, b2, b3, b4, -⟩ := m_box h
    obtain ⟨s1, s2, s3⟩ := m_lays b3.1 b4 hs (a := iJ v - S s) (b := iJ v + S s) (by omega)
    rw [es, ea] at s2
    have k1 := s3.kp (by decide)
    have c1 := b3.kp k1
    obtain ⟨σ2, g1, g2, g3, g4, g5, g6⟩ := m_spans hf hw c1 s2
    have t1 := c1.1
    have t0 := b3.1
    have t2 := g3.1
    have lt : (iJ v < (-99 : Int32)) = False := by rw [i_lt, ev, show (-99 : Int32).toInt = -99 from rfl]; exact eq_false (by omega)
    have ec : cntF (fitB Φ V S s told.toInt) (k + 1) v = (if fitB Φ V S s told.toInt v = true then 1 else 0) + cntF (fitB Φ V S s told.toInt) k (v + 1) := rfl
    have el : lstF (fitB Φ V S s told.toInt) (k + 1) v = if fitB Φ V S s told.toInt v = true then v else lstF (fitB Φ V S s told.toInt) k (v + 1) := rfl
    obtain ⟨σ3, e1, e2⟩ := ih (k + 1) (v + -1) σ2 g3 (by omega) (by omega) nf (by omega)
    rw [show v + -1 + 1 = v by omega, ec, el] at e1
    refine ⟨σ3, ?_, ((b2.seq k1).seq g2).seq e2⟩
    show lp_X6_fits_40_b (lp_X6_fits_40 nf) 48 (nI f) (nI s) told (nI e) _ _ (iJ v) σ = _
    unfold lp_X6_fits_40_b
    rw [← e1]
    have w1 := hw.1
    cases hx : RT Φ (upI (LO V S) s (v - (S s).toInt)) (upI (HI V S) s (v + (S s).toInt)) with
    | none =>
      rw [hx] at g1
      have hf' : ¬ fitB Φ V S s told.toInt v = true := by unfold fitB; rw [hx]; exact fun z => by cases z
      rw [if_neg hf', if_neg hf', Nat.zero_add]
      simp only [lt, if_false, chk_p, lt_p, bd_p, bc_p, oc_n, oc_s, and_self, and_true, true_and, if_true, if_false, isO_sA', isO_sB', isO_rA', hlen_sA, hlen_sB, hlen_rA, hR_sA, hR_sB, hR_rA, Typ_sA', Typ_sB', Typ_rA', O48, r48_0, r48_1, r48_2, r48_3, r48_4, r48_5, r48_6, r48_8, r48_9, r48_10, r48_11, r48_12, r48_15, r48_21, r48_22, r48_23, r48_24, r48_25, r48_28, r48_30, r48_31, r48_32, r48_35, r48_37, r48_39, r48_40, r48_41, t, t0, t1, t2, b1, m_span b3 hs, s1, g1, rc, iJ_m]
    | some p =>
      rw [hx] at g1
      have rt := g4 (mN Φ - 1) (by omega)
      rw [show SP Φ (upI (LO V S) s (v - (S s).toInt)) (upI (HI V S) s (v + (S s).toInt)) (mN Φ - 1) = some p from hx] at rt
      obtain ⟨u1, u2, u3, u4⟩ := rt
      have q := isIn64_ok told (hB σ2 64 (mN Φ - 1)) (hB σ2 65 (mN Φ - 1)) σ2
      rw [show (hB σ2 64 (mN Φ - 1)).toInt = p.1 from u2, show (hB σ2 65 (mN Φ - 1)).toInt = p.2 from u3] at q
      by_cases z : p.1 ≤ told.toInt ∧ told.toInt ≤ p.2
      · have hf' : fitB Φ V S s told.toInt v = true := by unfold fitB; rw [hx]; simp [z.1, z.2]
        rw [if_pos hf', if_pos hf']
        rw [if_pos z] at q
        simp only [lt, if_false, chk_p, lt_p, bd_p, bc_p, oc_n, oc_s, and_self, and_true, true_and, if_true, if_false, isO_sA', isO_sB', isO_rA', hlen_sA, hlen_sB, hlen_rA, hR_sA, hR_sB, hR_rA, Typ_sA', Typ_sB', Typ_rA', O48, r48_0, r48_1, r48_2, r48_3, r48_4, r48_5, r48_6, r48_8, r48_9, r48_10, r48_11, r48_12, r48_15, r48_21, r48_22, r48_23, r48_24, r48_25, r48_28, r48_30, r48_31, r48_32, r48_35, r48_37, r48_39, r48_40, r48_41, t, t0, t1, t2, b1, m_span b3 hs, s1, g1, rc, beq1, m_lo hf hw g3, m_hi hf hw g3, q, iJ_m, nI_s, Nat.add_comm 1]
      · have hf' : ¬ fitB Φ V S s told.toInt v = true := by
          unfold fitB; rw [hx]
          show ¬ (decide (p.1 ≤ told.toInt) && decide (told.toInt ≤ p.2)) = true
          simpa using z
        rw [if_neg hf', if_neg hf', Nat.zero_add]
        rw [if_neg z] at q
        simp only [lt, if_false, chk_p, lt_p, bd_p, bc_p, oc_n, oc_s, and_self, and_true, true_and, if_true, if_false, isO_sA', isO_sB', isO_rA', hlen_sA, hlen_sB, hlen_rA, hR_sA, hR_sB, hR_rA, Typ_sA', Typ_sB', Typ_rA', O48, r48_0, r48_1, r48_2, r48_3, r48_4, r48_5, r48_6, r48_8, r48_9, r48_10, r48_11, r48_12, r48_15, r48_21, r48_22, r48_23, r48_24, r48_25, r48_28, r48_30, r48_31, r48_32, r48_35, r48_37, r48_39, r48_40, r48_41, t, t0, t1, t2, b1, m_span b3 hs, s1, g1, rc, beq1, m_lo hf hw g3, m_hi hf hw g3, q, iJ_m]
theorem cnt_lst (b : Int → Bool) : ∀ d v, cntF b d v = 0 → lstF b d v = -1000 := by
  intro d
  induction d with
  | zero => intro v _; rfl
  | succ d ih =>
    intro v h
    have h' : (if b v = true then 1 else 0) + cntF b d (v + 1) = 0 := h
    show (if b v = true then v else lstF b d (v + 1)) = -1000
    by_cases c : b v = true
    · rw [if_pos c] at h'; omega
    · rw [if_neg c] at h' ⊢; exact ih _ (by omega)
theorem op_fits (a b : Int32) (told : Int64) (w : Int32) : OpOK (f_X5_fits 0 a b told w) (f_X6_fits 48 a b told w) := by
  intro σ V S C n FS I
  have t := I.1
  rcases start I a with ⟨k, φ, hk, rfl, ef, hg, hc, hxi, em⟩ | ⟨ef, em⟩
  · rcases srcC b with ⟨s, hs, rfl, xs, ms⟩ | ⟨xs, ms⟩
    · rcases rng1 w with ⟨e, he, rfl, w0, w2, wm⟩ | ⟨wm, wc⟩
      · obtain ⟨σ1, x1, x2, x3, x4⟩ := c_standAs hc
        obtain ⟨σ2, y1, y2⟩ := x_fit hg.1 hs (nI k) told he 199 (-99) 0 (-1000) _ _ σ1 x3 x4 (fun x => ⟨rfl, rfl⟩) (by omega) (by omega) (by omega) 1000 (by omega)
        have c2 := x3.kp y2
        have t1 := x3.1
        have t2 := c2.1
        obtain ⟨σ3, z1, z2⟩ := m_fit hk hg.1 hs told he 199 0 99 σ2 c2 (by omega) (by omega) 1000 (by omega)
        rw [Nat.zero_add, if_pos rfl] at y1
        have eqq : (if cntF (fitB (FS k) V S s told.toInt) 199 (-99) = 0 then (-1000 : Int) else lstF (fitB (FS k) V S s told.toInt) 199 (-99)) = lstF (fitB (FS k) V S s told.toInt) 199 (-99) := by
          by_cases c : cntF (fitB (FS k) V S s told.toInt) 199 (-99) = 0
          · rw [if_pos c, cnt_lst _ _ _ c]
          · rw [if_neg c]
        rw [eqq] at y1
        refine opQ I ⟨(if e = 0 then nI (cntF (fitB (FS k) V S s told.toInt) 199 (-99)) else iJ (lstF (fitB (FS k) V S s told.toInt) 199 (-99))), σ2, σ3, ?_, x2.seq y2, ?_, z2⟩
        · unfold f_X5_fits
          simp only [chk_p, lt_p, bd_p, bc_p, oc_n, oc_s, and_self, and_true, true_and, if_true, if_false, isO_sA', isO_sB', isO_rA', hlen_sA, hlen_sB, hlen_rA, hR_sA, hR_sB, hR_rA, Typ_sA', Typ_sB', Typ_rA', O0, r0_0, r0_1, r0_3, r0_4, r0_5, r0_6, r0_7, O24, r24_0, r24_1, r24_5, r24_6, r24_7, r24_8, r24_9, t, t1, ef, xs, w0, w2, beq1, if_false, x1]
          exact y1
        · unfold f_X6_fits
          simp only [chk_p, lt_p, bd_p, bc_p, oc_n, oc_s, and_self, and_true, true_and, if_true, if_false, isO_sA', isO_sB', isO_rA', hlen_sA, hlen_sB, hlen_rA, hR_sA, hR_sB, hR_rA, Typ_sA', Typ_sB', Typ_rA', O48, r48_0, r48_1, r48_2, r48_3, r48_4, r48_5, r48_6, r48_8, r48_9, r48_10, r48_11, r48_12, r48_15, r48_21, r48_22, r48_23, r48_24, r48_25, r48_28, r48_30, r48_31, r48_32, r48_35, r48_37, r48_39, r48_40, r48_41, t2, em σ2 t2 (x2.seq y2).k7, ms, wm, beq1, if_false]
          exact z1
      · refine opN I (-1) ?_ ?_
        · unfold f_X5_fits
          rcases wc with wc | ⟨wc, wc2⟩
          · simp only [chk_p, lt_p, bd_p, bc_p, oc_n, oc_s, and_self, and_true, true_and, if_true, if_false, isO_sA', isO_sB', isO_rA', hlen_sA, hlen_sB, hlen_rA, hR_sA, hR_sB, hR_rA, Typ_sA', Typ_sB', Typ_rA', O0, r0_0, r0_1, r0_3, r0_4, r0_5, r0_6, r0_7, t, ef, xs, beq1, if_false, wc]
          · simp only [chk_p, lt_p, bd_p, bc_p, oc_n, oc_s, and_self, and_true, true_and, if_true, if_false, isO_sA', isO_sB', isO_rA', hlen_sA, hlen_sB, hlen_rA, hR_sA, hR_sB, hR_rA, Typ_sA', Typ_sB', Typ_rA', O0, r0_0, r0_1, r0_3, r0_4, r0_5, r0_6, r0_7, t, ef, xs, beq1, wc, wc2, if_false]
        · unfold f_X6_fits
          simp only [chk_p, lt_p, bd_p, bc_p, oc_n, oc_s, and_self, and_true, true_and, if_true, if_false, isO_sA', isO_sB', isO_rA', hlen_sA, hlen_sB, hlen_rA, hR_sA, hR_sB, hR_rA, Typ_sA', Typ_sB', Typ_rA', O48, r48_0, r48_1, r48_2, r48_3, r48_4, r48_5, r48_6, r48_8, r48_9, r48_10, r48_11, r48_12, r48_15, r48_21, r48_22, r48_23, r48_24, r48_25, r48_28, r48_30, r48_31, r48_32, r48_35, r48_37, r48_39, r48_40, r48_41, t, em σ t rfl, ms, beq1, wm, if_false]
    · refine opN I (-1) ?_ ?_
      · unfold f_X5_fits
        simp only [chk_p, lt_p, bd_p, bc_p, oc_n, oc_s, and_self, and_true, true_and, if_true, if_false, isO_sA', isO_sB', isO_rA', hlen_sA, hlen_sB, hlen_rA, hR_sA, hR_sB, hR_rA, Typ_sA', Typ_sB', Typ_rA', O0, r0_0, r0_1, r0_3, r0_4, r0_5, r0_6, r0_7, t, ef, xs]
      · unfold f_X6_fits
        simp only [chk_p, lt_p, bd_p, bc_p, oc_n, oc_s, and_self, and_true, true_and, if_true, if_false, isO_sA', isO_sB', isO_rA', hlen_sA, hlen_sB, hlen_rA, hR_sA, hR_sB, hR_rA, Typ_sA', Typ_sB', Typ_rA', O48, r48_0, r48_1, r48_2, r48_3, r48_4, r48_5, r48_6, r48_8, r48_9, r48_10, r48_11, r48_12, r48_15, r48_21, r48_22, r48_23, r48_24, r48_25, r48_28, r48_30, r48_31, r48_32, r48_35, r48_37, r48_39, r48_40, r48_41, t, em σ t rfl, ms, beq1, if_false]
  · refine opN I (-1) ?_ ?_
    · unfold f_X5_fits
      simp only [chk_p, lt_p, bd_p, bc_p, oc_n, oc_s, and_self, and_true, true_and, if_true, if_false, isO_sA', isO_sB', isO_rA', hlen_sA, hlen_sB, hlen_rA, hR_sA, hR_sB, hR_rA, Typ_sA', Typ_sB', Typ_rA', O0, r0_0, r0_1, r0_3, r0_4, r0_5, r0_6, r0_7, t, ef]
    · unfold f_X6_fits
      simp only [chk_p, lt_p, bd_p, bc_p, oc_n, oc_s, and_self, and_true, true_and, if_true, if_false, isO_sA', isO_sB', isO_rA', hlen_sA, hlen_sB, hlen_rA, hR_sA, hR_sB, hR_rA, Typ_sA', Typ_sB', Typ_rA', O48, r48_0, r48_1, r48_2, r48_3, r48_4, r48_5, r48_6, r48_8, r48_9, r48_10, r48_11, r48_12, r48_15, r48_21, r48_22, r48_23, r48_24, r48_25, r48_28, r48_30, r48_31, r48_32, r48_35, r48_37, r48_39, r48_40, r48_41, t, em]
