/-! corner -/
theorem bit_sub : ∀ c, c < 64 → ∀ a, a < 64 → (nI c &&& (nI a ^^^ (-1 : Int32)) = 0) = (c &&& a = c) := by
  have h : ∀ c, c < 64 → ∀ a, a < 64 → decide (nI c &&& (nI a ^^^ (-1 : Int32)) = 0) = decide (c &&& a = c) := by decide +kernel
  intro c hc a ha
  have := h c hc a ha
  exact propext (decide_eq_decide.mp this)
def crn (V S : Nat → Int32) (k s : Nat) : Int := if k.testBit s = true then HI V S s else LO V S s
def w64 (Φ : FM) (V S : Nat → Int32) (k : Nat) : Int64 := Int64.ofInt (pv Φ (pt (crn V S k)) (mN Φ - 1))
def mM (e : Nat) (w : Nat → Int64) : Nat → Int64
  | 0 => w 0
  | k + 1 => if e = 0 then (if w (k + 1) < mM e w k then w (k + 1) else mM e w k) else (if w (k + 1) < mM e w k then mM e w k else w (k + 1))
theorem mM_le (w : Nat → Int64) : ∀ k j, j ≤ k → (mM 0 w k).toInt ≤ (w j).toInt := by
  intro k
  induction k with
  | zero => intro j hj; rw [show j = 0 by omega]; exact Int.le_refl _
  | succ k ih =>
    intro j hj
    rw [show mM 0 w (k + 1) = (if w (k + 1) < mM 0 w k then w (k + 1) else mM 0 w k) from rfl, l_min]
    by_cases e : j = k + 1
    · subst e; omega
    · have := ih j (by omega); omega
theorem mM_ge (e : Nat) (he : e ≠ 0) (w : Nat → Int64) : ∀ k j, j ≤ k → (w j).toInt ≤ (mM e w k).toInt := by
  intro k
  induction k with
  | zero => intro j hj; rw [show j = 0 by omega]; exact Int.le_refl _
  | succ k ih =>
    intro j hj
    rw [show mM e w (k + 1) = (if w (k + 1) < mM e w k then mM e w k else w (k + 1)) from if_neg he, l_max]
    by_cases z : j = k + 1
    · subst z; omega
    · have := ih j (by omega); omega
theorem mM_skip (e : Nat) (w : Nat → Int64) {k j : Nat} (hj : j ≤ k) (h : w (k + 1) = w j) : mM e w (k + 1) = mM e w k := by
  by_cases he : e = 0
  · subst he
    have := mM_le w k j hj
    show (if w (k + 1) < mM 0 w k then w (k + 1) else mM 0 w k) = _
    rw [h, if_neg (by rw [l_lt]; omega)]
  · have := mM_ge e he w k j hj
    rw [show mM e w (k + 1) = (if w (k + 1) < mM e w k then mM e w k else w (k + 1)) from if_neg he, h]
    by_cases z : w j < mM e w k
    · rw [if_pos z]
    · rw [if_neg z]
      rw [l_lt] at z
      exact Int64.toInt_inj.mp (by omega)
theorem crn_in {V S : Nat → Int32} (hl : ∀ s, LO V S s ≤ HI V S s) (k : Nat) : ∀ s, s < 6 → LO V S s ≤ crn V S k s ∧ crn V S k s ≤ HI V S s := fun s _ => by
  have := hl s
  unfold crn
  by_cases c : k.testBit s = true
  · rw [if_pos c]; omega
  · rw [if_neg c]; omega
theorem w64_sub {Φ : FM} (hw : WF Φ) (V S : Nat → Int32) (k : Nat) : w64 Φ V S (k &&& sN Φ (mN Φ)) = w64 Φ V S k := by
  have w1 := hw.1
  unfold w64 pv
  rw [SP_dep hw.2.2 (L := pt (crn V S (k &&& sN Φ (mN Φ)))) (H := pt (crn V S (k &&& sN Φ (mN Φ)))) (L' := pt (crn V S k)) (H' := pt (crn V S k)) (fun i hi k0 => by
    have e : pt (crn V S (k &&& sN Φ (mN Φ))) (mU Φ i) = pt (crn V S k) (mU Φ i) := by
      unfold pt crn
      rw [Nat.testBit_and, sN_bit (mN Φ) i hi k0, Bool.and_true]
    exact ⟨e, e⟩) (mN Φ - 1) (by omega)]
theorem x_wac {φ f : Nat} {Φ : FM} {V S C : Nat → Int32} (hw : WF Φ) {k : Nat} (hk : k < 64) (ha : ∀ i, i < mN Φ → SP Φ (pt (crn V S k)) (pt (crn V S k)) i ≠ none) : ∀ d i (σ : HS), CS σ φ f Φ V S C → (∀ s, s < i → (hA σ 27 s).toInt = crn V S k s) → i + d = 6 → ∀ nf, d < nf → ∃ σ', lp_X5_worthAtCorner_2 nf 0 φ (nI k) (nI i) σ = some (w64 Φ V S k, σ') ∧ Kp σ σ' ∧ CS σ' φ f Φ V S C := by
  intro d
  induction d with
  | zero =>
    intro i σ h hat hi nf hnf
    obtain ⟨nf, rfl⟩ : ∃ k, nf = k + 1 := ⟨nf - 1, by omega⟩
    have : i = 6 := by omega
    subst this
    obtain ⟨σ', e1, e2, e3, -⟩ := c_worth hw h (v := pt (crn V S k)) (fun s hs => by rw [hat s hs]; unfold pt; rw [if_pos hs]) ha
    refine ⟨σ', ?_, e2, e3⟩
    have t := h.1
    show lp_X5_worthAtCorner_2_b (lp_X5_worthAtCorner_2 nf) 0 φ (nI k) (nI 6) σ = _
    unfold lp_X5_worthAtCorner_2_b
    rw [if_pos (by decide)]
    simp only [chk_p, lt_p, bd_p, bc_p, oc_n, oc_s, and_self, and_true, true_and, if_true, if_false, isO_sA', isO_sB', isO_rA', hlen_sA, hlen_sB, hlen_rA, hR_sA, hR_sB, hR_rA, Typ_sA', Typ_sB', Typ_rA', O0, r0_0, r0_1, r0_3, r0_4, r0_5, r0_6, r0_7, O24, r24_0, r24_1, r24_5, r24_6, r24_7, r24_8, r24_9, t, e1]
    rfl
  | succ d ih =>
    intro i σ h hat hi nf hnf
    obtain ⟨nf, rfl⟩ : ∃ k, nf = k + 1 := ⟨nf - 1, by omega⟩
    have hi6 : i < 6 := by omega
    have t := h.1
    obtain ⟨-, -, -, -, -, -, -, -, -, vl, vh⟩ := cs_val h hi6
    have go : ∀ x : Int32, x.toInt = crn V S k i → ∃ σ', lp_X5_worthAtCorner_2 nf 0 φ (nI k) (nI (i + 1)) (sA σ 27 i x) = some (w64 Φ V S k, σ') ∧ Kp σ σ' ∧ CS σ' φ f Φ V S C := fun x hx => by
      have fr : Fr [27] σ (sA σ 27 i x) := Fr_sA (by simp)
      have k : Kp σ (sA σ 27 i x) := fr.kp (by decide)
      obtain ⟨σ', e1, e2, e3⟩ := ih (i + 1) (sA σ 27 i x) (h.kp k) (fun s hs => by
        rw [hA_sA]
        by_cases z : s = i
        · rw [if_pos ⟨rfl, z⟩, z]; exact hx
        · rw [if_neg (fun y => z y.2)]; exact hat s (by omega)) (by omega) nf (by omega)
      exact ⟨σ', e1, k.seq e2, e3⟩
    have le : (6 : Int32) ≤ nI i ↔ False := by rw [show (6 : Int32) = nI 6 from rfl, nle (a := 6) (b := i) (by omega) (by omega)]
    have le := eq_false (fun z => le.mp z)
    have ie := inbE (i := i) (n := 6) (by omega) (by omega)
    have ci := cl1000 (i := i) (by omega)
    show ∃ σ', lp_X5_worthAtCorner_2_b (lp_X5_worthAtCorner_2 nf) 0 φ (nI k) (nI i) σ = _ ∧ _
    unfold lp_X5_worthAtCorner_2_b
    by_cases c : k.testBit i = true
    · obtain ⟨σ', e1, e2, e3⟩ := go (V i + S i) (by unfold crn; rw [if_pos c, vh])
      refine ⟨σ', ?_, e2, e3⟩
      rw [← e1]
      simp (decide := true) only [le, if_false, bit_at k hk i hi6, c, if_true, chk_p, lt_p, bd_p, bc_p, oc_n, oc_s, and_self, and_true, true_and, if_true, if_false, isO_sA', isO_sB', isO_rA', hlen_sA, hlen_sB, hlen_rA, hR_sA, hR_sB, hR_rA, Typ_sA', Typ_sB', Typ_rA', O0, r0_0, r0_1, r0_3, r0_4, r0_5, r0_6, r0_7, O1, r1_0, r1_1, r1_2, r1_3, r1_5, r1_6, r1_7, O24, r24_0, r24_1, r24_5, r24_6, r24_7, r24_8, r24_9, O27, l27, t, c_high h hi6, ie, ci, nI_s]
    · obtain ⟨σ', e1, e2, e3⟩ := go (V i - S i) (by unfold crn; rw [if_neg c, vl])
      refine ⟨σ', ?_, e2, e3⟩
      rw [← e1]
      simp (decide := true) only [le, if_false, bit_at k hk i hi6, c, if_true, chk_p, lt_p, bd_p, bc_p, oc_n, oc_s, and_self, and_true, true_and, if_true, if_false, isO_sA', isO_sB', isO_rA', hlen_sA, hlen_sB, hlen_rA, hR_sA, hR_sB, hR_rA, Typ_sA', Typ_sB', Typ_rA', O0, r0_0, r0_1, r0_3, r0_4, r0_5, r0_6, r0_7, O1, r1_0, r1_1, r1_2, r1_3, r1_5, r1_6, r1_7, O24, r24_0, r24_1, r24_5, r24_6, r24_7, r24_8, r24_9, O27, l27, t, c_low h hi6, ie, ci, nI_s]
theorem x_corner {φ f : Nat} {Φ : FM} {V S C : Nat → Int32} (hg : Good Φ) {p : Int × Int} (hx : RT Φ (LO V S) (HI V S) = some p) (a : Int32) {e : Nat} (he : e < 2) : ∀ d k (σ : HS), CS σ φ f Φ V S C → XI σ φ Φ → k + 1 + d = 64 → ∀ nf, d < nf → ∃ σ', lp_X5_corner_53 nf 0 a (nI e) φ (mM e (w64 Φ V S) k) (nI (k + 1)) σ = some (mM e (w64 Φ V S) 63, σ') ∧ Kp σ σ' := by
  intro d
  induction d with
  | zero =>
    intro k σ h hxi hd nf hnf
    obtain ⟨nf, rfl⟩ : ∃ k, nf = k + 1 := ⟨nf - 1, by omega⟩
    have : k = 63 := by omega
    subst this
    refine ⟨σ, ?_, Kp.rf⟩
    show lp_X5_corner_53_b (lp_X5_corner_53 nf) 0 a (nI e) φ _ (nI 64) σ = _
    unfold lp_X5_corner_53_b
    exact if_pos (by decide)
  | succ d ih =>
    intro k σ h hxi hd nf hnf
    obtain ⟨nf, rfl⟩ : ∃ k, nf = k + 1 := ⟨nf - 1, by omega⟩
    have hk : k + 1 < 64 := by omega
    have t := h.1
    obtain ⟨b1, b2⟩ := sN_ok hg.1.2.2 (mN Φ) (Nat.le_refl _)
    have q0 := eq_true h.2.1.1.2.1
    have le : (64 : Int32) ≤ nI (k + 1) ↔ False := by rw [show (64 : Int32) = nI 64 from rfl, nle (a := 64) (b := k + 1) (by omega) (by omega)]
    have le := eq_false (fun z => le.mp z)
    have bs := bit_sub (k + 1) hk _ b1
    have e0 : (nI e = 0) = (e = 0) := nE (a := e) (b := 0) (by omega) (by omega)
    show ∃ σ', lp_X5_corner_53_b (lp_X5_corner_53 nf) 0 a (nI e) φ _ (nI (k + 1)) σ = _ ∧ _
    unfold lp_X5_corner_53_b
    by_cases c : (k + 1) &&& sN Φ (mN Φ) = k + 1
    · obtain ⟨σ1, y1, y2, y3⟩ := x_wac hg.1 hk (pt_some hg (by rw [hx]; exact fun z => by cases z) (crn_in (LOHI h) (k + 1))) 6 0 σ h (fun s hs => by omega) (by omega) 1000 (by omega)
      have y1' : f_X5_worthAtCorner 0 φ (nI (k + 1)) σ = some (w64 Φ V S (k + 1), σ1) := y1
      obtain ⟨σ2, e1, e2⟩ := ih (k + 1) σ1 y3 (Kq.xi y2 h.2.1 hxi) (by omega) nf (by omega)
      refine ⟨σ2, ?_, y2.seq e2⟩
      rw [← e1]
      rw [show mM e (w64 Φ V S) (k + 1) = if e = 0 then (if w64 Φ V S (k + 1) < mM e (w64 Φ V S) k then w64 Φ V S (k + 1) else mM e (w64 Φ V S) k) else (if w64 Φ V S (k + 1) < mM e (w64 Φ V S) k then mM e (w64 Φ V S) k else w64 Φ V S (k + 1)) from rfl]
      by_cases c0 : e = 0
      · simp only [le, if_false, chk_p, lt_p, bd_p, bc_p, oc_n, oc_s, and_self, and_true, true_and, if_true, if_false, isO_sA', isO_sB', isO_rA', hlen_sA, hlen_sB, hlen_rA, hR_sA, hR_sB, hR_rA, Typ_sA', Typ_sB', Typ_rA', O0, r0_0, r0_1, r0_3, r0_4, r0_5, r0_6, r0_7, t, q0, hxi.1, b2, bs, c, y1', e0.trans (eq_true c0), eq_true c0, nI_s]
      · simp only [le, if_false, chk_p, lt_p, bd_p, bc_p, oc_n, oc_s, and_self, and_true, true_and, if_true, if_false, isO_sA', isO_sB', isO_rA', hlen_sA, hlen_sB, hlen_rA, hR_sA, hR_sB, hR_rA, Typ_sA', Typ_sB', Typ_rA', O0, r0_0, r0_1, r0_3, r0_4, r0_5, r0_6, r0_7, t, q0, hxi.1, b2, bs, c, y1', e0.trans (eq_false c0), eq_false c0, nI_s]
    · have lt : (k + 1) &&& sN Φ (mN Φ) ≤ k := by have := Nat.and_le_left (n := k + 1) (m := sN Φ (mN Φ)); omega
      obtain ⟨σ2, e1, e2⟩ := ih (k + 1) σ h hxi (by omega) nf (by omega)
      refine ⟨σ2, ?_, e2⟩
      rw [mM_skip e (w64 Φ V S) lt (w64_sub hg.1 V S (k + 1)).symm] at e1
      rw [← e1]
      simp only [le, if_false, chk_p, lt_p, bd_p, bc_p, oc_n, oc_s, and_self, and_true, true_and, if_true, if_false, isO_sA', isO_sB', isO_rA', hlen_sA, hlen_sB, hlen_rA, hR_sA, hR_sB, hR_rA, Typ_sA', Typ_sB', Typ_rA', q0, hxi.1, b2, bs, c, nI_s]
theorem m_crn {φ f : Nat} {Φ : FM} {V S C : Nat → Int32} (hf : f < 7) (hw : WF Φ) (K : Nat → Int32 → Int32 → Int64 → Int32 → HS → Option (Int64 × HS)) {e : Nat} (he : e < 2) (u : Int64) {k : Nat} (hk : k < 64) (ha : ∀ i, i < mN Φ → SP Φ (pt (crn V S k)) (pt (crn V S k)) i ≠ none) {L0 H0 : Nat → Int} (z0 : ∀ s, 6 ≤ s → L0 s = 0) (z1 : ∀ s, 6 ≤ s → H0 s = 0) : ∀ d i (σ : HS), CS σ φ f Φ V S C → BxM σ (bmix i (crn V S k) L0) (bmix i (crn V S k) H0) → i + d = 6 → ∀ nf, d < nf → ∃ σ', lp_X6_corner_49 K nf 48 (nI f) (nI e) u (nI k) (nI i) σ = K 48 (nI f) (nI e) (if k = 0 then w64 Φ V S k else if e = 0 then (if w64 Φ V S k < u then w64 Φ V S k else u) else (if w64 Φ V S k < u then u else w64 Φ V S k)) (nI (k + 1)) σ' ∧ Kp σ σ' ∧ CS σ' φ f Φ V S C ∧ BxM σ' (pt (crn V S k)) (pt (crn V S k)) := by
  intro d
  induction d with
  | zero =>
    intro i σ h hb hi nf hnf
    obtain ⟨nf, rfl⟩ : ∃ k, nf = k + 1 := ⟨nf - 1, by omega⟩
    have : i = 6 := by omega
    subst this
    rw [bmix_6 z0, bmix_6 z1] at hb
    obtain ⟨r, σ', e1, e2, e3, e4, e5⟩ := m_pt hf hw h hb ha
    refine ⟨σ', ?_, e2, e3, e4⟩
    have t := h.1
    have t1 := e3.1
    have e0 : (nI e = 0) = (e = 0) := nE (a := e) (b := 0) (by omega) (by omega)
    have k0 : (nI k = 0) = (k = 0) := nE (a := k) (b := 0) (by omega) (by omega)
    rw [show Int64.ofInt (pv Φ (pt (crn V S k)) (mN Φ - 1)) = w64 Φ V S k from rfl] at e5
    show lp_X6_corner_49_b K (lp_X6_corner_49 K nf) 48 (nI f) (nI e) u (nI k) (nI 6) σ = _
    unfold lp_X6_corner_49_b
    rw [if_pos (by decide)]
    simp only [chk_p, lt_p, bd_p, bc_p, oc_n, oc_s, and_self, and_true, true_and, if_true, if_false, isO_sA', isO_sB', isO_rA', hlen_sA, hlen_sB, hlen_rA, hR_sA, hR_sB, hR_rA, Typ_sA', Typ_sB', Typ_rA', O48, r48_0, r48_1, r48_2, r48_3, r48_4, r48_5, r48_6, r48_8, r48_9, r48_10, r48_11, r48_12, r48_15, r48_21, r48_22, r48_23, r48_24, r48_25, r48_28, r48_30, r48_31, r48_32, r48_35, r48_37, r48_39, r48_40, r48_41, t, t1, e1, e5, e0, k0, nI_s]
    by_cases c0 : k = 0
    · rw [if_pos c0, if_pos c0]
    · rw [if_neg c0, if_neg c0]
      by_cases c1 : e = 0
      · rw [if_pos c1, if_pos c1]
      · rw [if_neg c1, if_neg c1]
  | succ d ih =>
    intro i σ h hb hi nf hnf
    obtain ⟨nf, rfl⟩ : ∃ k, nf = k + 1 := ⟨nf - 1, by omega⟩
    have hi6 : i < 6 := by omega
    have t := h.1
    obtain ⟨-, -, -, -, -, -, -, -, -, vl, vh⟩ := cs_val h hi6
    have go : ∀ x : Int32, x.toInt = crn V S k i → ∃ σ', f_X6_laysPoint 48 (nI i) x σ = some ((), sA (sA σ 62 i x) 63 i x) ∧ lp_X6_corner_49 K nf 48 (nI f) (nI e) u (nI k) (nI (i + 1)) (sA (sA σ 62 i x) 63 i x) = K 48 (nI f) (nI e) (if k = 0 then w64 Φ V S k else if e = 0 then (if w64 Φ V S k < u then w64 Φ V S k else u) else (if w64 Φ V S k < u then u else w64 Φ V S k)) (nI (k + 1)) σ' ∧ Kp σ σ' ∧ CS σ' φ f Φ V S C ∧ BxM σ' (pt (crn V S k)) (pt (crn V S k)) := fun x hx => by
      obtain ⟨l1, l2, l3⟩ := m_laysPoint t hb hi6 (a := x)
      rw [hx, bmix_up, bmix_up] at l2
      have k1 := l3.kp (by decide)
      obtain ⟨σ', e1, e2, e3, e4⟩ := ih (i + 1) _ (h.kp k1) l2 (by omega) nf (by omega)
      exact ⟨σ', l1, e1, k1.seq e2, e3, e4⟩
    have le : (6 : Int32) ≤ nI i ↔ False := by rw [show (6 : Int32) = nI 6 from rfl, nle (a := 6) (b := i) (by omega) (by omega)]
    have le := eq_false (fun z => le.mp z)
    show ∃ σ', lp_X6_corner_49_b K (lp_X6_corner_49 K nf) 48 (nI f) (nI e) u (nI k) (nI i) σ = _ ∧ _
    unfold lp_X6_corner_49_b
    by_cases c : k.testBit i = true
    · obtain ⟨σ', l1, e1, e2, e3⟩ := go (V i + S i) (by unfold crn; rw [if_pos c, vh])
      refine ⟨σ', ?_, e2, e3⟩
      rw [← e1]
      simp (decide := true) only [le, if_false, bit_at k hk i hi6, c, if_true, chk_p, lt_p, bd_p, bc_p, oc_n, oc_s, and_self, and_true, true_and, if_true, if_false, isO_sA', isO_sB', isO_rA', hlen_sA, hlen_sB, hlen_rA, hR_sA, hR_sB, hR_rA, Typ_sA', Typ_sB', Typ_rA', O48, r48_0, r48_1, r48_2, r48_3, r48_4, r48_5, r48_6, r48_8, r48_9, r48_10, r48_11, r48_12, r48_15, r48_21, r48_22, r48_23, r48_24, r48_25, r48_28, r48_30, r48_31, r48_32, r48_35, r48_37, r48_39, r48_40, r48_41, t, m_val h hi6, m_span h hi6, l1, nI_s]
    · obtain ⟨σ', l1, e1, e2, e3⟩ := go (V i - S i) (by unfold crn; rw [if_neg c, vl])
      refine ⟨σ', ?_, e2, e3⟩
      rw [← e1]
      simp (decide := true) only [le, if_false, bit_at k hk i hi6, c, if_true, chk_p, lt_p, bd_p, bc_p, oc_n, oc_s, and_self, and_true, true_and, if_true, if_false, isO_sA', isO_sB', isO_rA', hlen_sA, hlen_sB, hlen_rA, hR_sA, hR_sB, hR_rA, Typ_sA', Typ_sB', Typ_rA', O48, r48_0, r48_1, r48_2, r48_3, r48_4, r48_5, r48_6, r48_8, r48_9, r48_10, r48_11, r48_12, r48_15, r48_21, r48_22, r48_23, r48_24, r48_25, r48_28, r48_30, r48_31, r48_32, r48_35, r48_37, r48_39, r48_40, r48_41, t, m_val h hi6, m_span h hi6, l1, nI_s]
def mM' (e : Nat) (w : Nat → Int64) (k : Nat) : Int64 := match k with | 0 => 0 | k + 1 => mM e w k
theorem m_corner {φ f : Nat} {Φ : FM} {V S C : Nat → Int32} (hf : f < 7) (hg : Good Φ) {p : Int × Int} (hx : RT Φ (LO V S) (HI V S) = some p) {e : Nat} (he : e < 2) : ∀ d k (L0 H0 : Nat → Int) (σ : HS), CS σ φ f Φ V S C → BxM σ L0 H0 → (∀ s, 6 ≤ s → L0 s = 0) → (∀ s, 6 ≤ s → H0 s = 0) → k + d = 64 → ∀ nf, d < nf → ∃ σ', lp_X6_corner_39 nf 48 (nI f) (nI e) (mM' e (w64 Φ V S) k) (nI k) σ = some (mM e (w64 Φ V S) 63, σ') ∧ Kp σ σ' := by
  intro d
  induction d with
  | zero =>
    intro k L0 H0 σ h hb z0 z1 hd nf hnf
    obtain ⟨nf, rfl⟩ : ∃ k, nf = k + 1 := ⟨nf - 1, by omega⟩
    have : k = 64 := by omega
    subst this
    refine ⟨σ, ?_, Kp.rf⟩
    show lp_X6_corner_39_b (lp_X6_corner_39 nf) 48 (nI f) (nI e) _ (nI 64) σ = _
    unfold lp_X6_corner_39_b
    exact if_pos (by decide)
  | succ d ih =>
    intro k L0 H0 σ h hb z0 z1 hd nf hnf
    obtain ⟨nf, rfl⟩ : ∃ k, nf = k + 1 := ⟨nf - 1, by omega⟩
    have hk : k < 64 := by omega
    have le : (64 : Int32) ≤ nI k ↔ False := by rw [show (64 : Int32) = nI 64 from rfl, nle (a := 64) (b := k) (by omega) (by omega)]
    have le := eq_false (fun z => le.mp z)
    obtain ⟨σ1, y1, y2, y3, y4⟩ := m_crn hf hg.1 (lp_X6_corner_39 nf) he (mM' e (w64 Φ V S) k) hk (pt_some hg (by rw [hx]; exact fun z => by cases z) (crn_in (LOHI h) k)) z0 z1 6 0 σ h (by rw [bmix_0, bmix_0]; exact hb) (by omega) 1000 (by omega)
    obtain ⟨σ2, e1, e2⟩ := ih (k + 1) _ _ σ1 y3 y4 (fun s hs => by unfold pt; rw [if_neg (by omega)]) (fun s hs => by unfold pt; rw [if_neg (by omega)]) (by omega) nf (by omega)
    refine ⟨σ2, ?_, y2.seq e2⟩
    have em : mM' e (w64 Φ V S) (k + 1) = (if k = 0 then w64 Φ V S k else if e = 0 then (if w64 Φ V S k < mM' e (w64 Φ V S) k then w64 Φ V S k else mM' e (w64 Φ V S) k) else (if w64 Φ V S k < mM' e (w64 Φ V S) k then mM' e (w64 Φ V S) k else w64 Φ V S k)) := by
      cases k with
      | zero => rw [if_pos rfl]; rfl
      | succ k => rw [if_neg (by omega)]; rfl
    rw [em] at e1
    rw [← e1, ← y1]
    show lp_X6_corner_39_b (lp_X6_corner_39 nf) 48 (nI f) (nI e) _ (nI k) σ = _
    unfold lp_X6_corner_39_b
    rw [if_neg (of_eq_false le), lt_p]
    rfl
theorem op_corner (a w : Int32) : OpOK (f_X5_corner 0 a w) (f_X6_corner 48 a w) := by
  intro σ V S C n FS I
  have t := I.1
  rcases start I a with ⟨k, φ, hk, rfl, ef, hg, hc, hxi, em⟩ | ⟨ef, em⟩
  · rcases rng1 w with ⟨e, he, rfl, w0, w2, wm⟩ | ⟨wm, wc⟩
    · obtain ⟨σ1, x1, x2, x3, x4, x5, x6⟩ := c_now hg.1 hc
      have t1 := x3.1
      cases hx : RT (FS k) (LO V S) (HI V S) with
      | none =>
        obtain ⟨σ2, z1, z2, z3, z4, z5, z6⟩ := m_now hk hg.1 x3
        rw [hx] at x5 z1
        have xo' : hA σ1 24 2 = 1 := x5
        refine opQ I ⟨-9223372036854775807, σ1, σ2, ?_, x2, ?_, z2⟩
        · unfold f_X5_corner
          simp only [chk_p, lt_p, bd_p, bc_p, oc_n, oc_s, and_self, and_true, true_and, if_true, if_false, isO_sA', isO_sB', isO_rA', hlen_sA, hlen_sB, hlen_rA, hR_sA, hR_sB, hR_rA, Typ_sA', Typ_sB', Typ_rA', O0, r0_0, r0_1, r0_3, r0_4, r0_5, r0_6, r0_7, O24, r24_0, r24_1, r24_5, r24_6, r24_7, r24_8, r24_9, t, t1, ef, w0, w2, if_false, x1, xo', beq1]
        · unfold f_X6_corner
          rw [chk_p (o48 t1), em σ1 t1 x2.k7, bc_p, if_neg (by decide), wm, bc_p, if_neg (by decide), chk_p (o48 t1), z1, bc_p]
          exact if_pos rfl
      | some p =>
        rw [hx] at x5
        have xo' : hA σ1 24 2 = 0 := x5.1
        obtain ⟨σ2, y1, y2, y3⟩ := x_wac hg.1 (show 0 < 64 by decide) (pt_some hg (by rw [hx]; exact fun z => by cases z) (crn_in (LOHI hc) 0)) 6 0 σ1 x3 (fun s hs => by omega) (by omega) 1000 (by omega)
        have y1' : f_X5_worthAtCorner 0 φ 0 σ1 = some (w64 (FS k) V S 0, σ2) := y1
        obtain ⟨σ3, u1, u2⟩ := x_corner hg hx (nI k) he 63 0 σ2 y3 (Kq.xi y2 x3.2.1 (Kq.xi x2 hc.2.1 hxi)) (by omega) 1000 (by omega)
        have c3 := y3.kp u2
        have t3 := c3.1
        obtain ⟨σ4, z1, z2, z3, z4, z5, z6⟩ := m_now hk hg.1 c3
        rw [hx] at z1
        have t4 := z3.1
        obtain ⟨σ5, v1, v2⟩ := m_corner hk hg hx he 64 0 _ _ σ4 z3 z5 (LO6 V S) (HI6 V S) (by omega) 1000 (by omega)
        refine opQ I ⟨mM e (w64 (FS k) V S) 63, σ3, σ5, ?_, (x2.seq y2).seq u2, ?_, z2.seq v2⟩
        · unfold f_X5_corner
          rw [chk_p (o0 t), ef, bc_p, oc_s, if_neg (of_eq_false w0), if_pos (of_eq_true w2), chk_p (o0 t), x1, bc_p, chk_p (o0 t1), r0_4 t1, bd_p, chk_p (o24 t1), lt_p, if_pos xo', y1', bc_p, lt_p]
          exact u1
        · unfold f_X6_corner
          rw [chk_p (o48 t3), em σ3 t3 ((x2.seq y2).seq u2).k7, bc_p, if_neg (by decide), wm, bc_p, if_neg (by decide), chk_p (o48 t3), z1, bc_p, if_neg (show ¬ rc (some p) = 0 from (by decide : ¬ (1 : Int32) = 0)), lt_p, lt_p]
          exact v1
    · refine opN I (-9223372036854775808) ?_ ?_
      · unfold f_X5_corner
        rcases wc with wc | ⟨wc, wc2⟩
        · simp only [chk_p, lt_p, bd_p, bc_p, oc_n, oc_s, and_self, and_true, true_and, if_true, if_false, isO_sA', isO_sB', isO_rA', hlen_sA, hlen_sB, hlen_rA, hR_sA, hR_sB, hR_rA, Typ_sA', Typ_sB', Typ_rA', O0, r0_0, r0_1, r0_3, r0_4, r0_5, r0_6, r0_7, t, ef, wc]
        · simp only [chk_p, lt_p, bd_p, bc_p, oc_n, oc_s, and_self, and_true, true_and, if_true, if_false, isO_sA', isO_sB', isO_rA', hlen_sA, hlen_sB, hlen_rA, hR_sA, hR_sB, hR_rA, Typ_sA', Typ_sB', Typ_rA', O0, r0_0, r0_1, r0_3, r0_4, r0_5, r0_6, r0_7, t, ef, wc, wc2, if_false]
      · unfold f_X6_corner
        rw [chk_p (o48 t), em σ t rfl, bc_p, if_neg (by decide), wm, bc_p, if_pos rfl]
  · refine opN I (-9223372036854775808) ?_ ?_
    · unfold f_X5_corner
      simp only [chk_p, lt_p, bd_p, bc_p, oc_n, oc_s, and_self, and_true, true_and, if_true, if_false, isO_sA', isO_sB', isO_rA', hlen_sA, hlen_sB, hlen_rA, hR_sA, hR_sB, hR_rA, Typ_sA', Typ_sB', Typ_rA', O0, r0_0, r0_1, r0_3, r0_4, r0_5, r0_6, r0_7, t, ef]
    · unfold f_X6_corner
      rw [chk_p (o48 t), em, bc_p, if_pos rfl]
