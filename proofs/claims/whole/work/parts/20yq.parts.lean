/-! alike, in the reference; letters, depth, likeness; parts -/
theorem ltK {a : Nat} (h : a < 1000) : ((1 : Int32) < nI a) = (1 < a) := propext (by rw [show (1 : Int32) = nI 1 from rfl, nI_ltI (by omega) (by omega)])
theorem m_al {σ : HS} (t : Typ σ) {f g : Nat} (hf : f < 7) (hg : g < 7) {Φ Ψ : FM} (hm : MF σ f Φ) (hm2 : MF σ g Ψ) (hw : WF Φ) (hw2 : WF Ψ) : ∀ n m i j, i < n → i < m → i < mN Φ → j < mN Ψ → g_MA n 0 48 (nI f) (nI i) (nI g) (nI j) σ = some (if alI Φ Ψ m i j = true then 1 else 0, σ) := by
  intro n
  induction n with
  | zero => intro m i j h; omega
  | succ n ih =>
    intro m i j h1 h2 hi hj
    obtain ⟨m, rfl⟩ : ∃ k, m = k + 1 := ⟨m - 1, by omega⟩
    have w60 := hw.2.1
    have v60 := hw2.2.1
    obtain ⟨k5, ku0, ku1, ku, kv, kv0, kp⟩ := hw.2.2 i hi
    obtain ⟨l5, lu0, lu1, lu, lv, lv0, lp⟩ := hw2.2.2 j hj
    obtain ⟨c1, c2, c3, c4⟩ := hm.2 i hi
    obtain ⟨d1, d2, d3, d4⟩ := hm2.2 j hj
    have pe := inbE (i := 60 * f + i) (n := 420) (by omega) (by omega)
    have cp := cl1000 (i := 60 * f + i) (by omega)
    have qe := inbE (i := 60 * g + j) (n := 420) (by omega) (by omega)
    have cq := cl1000 (i := 60 * g + j) (by omega)
    have ek : (nI (mK Φ i) = nI (mK Ψ j)) = (mK Φ i = mK Ψ j) := nE (by omega) (by omega)
    rw [show alI Φ Ψ (m + 1) i j = if mK Φ i ≠ mK Ψ j then false else if mK Φ i ≤ 1 then mU Φ i == mU Ψ j else alI Φ Ψ m (mU Φ i) (mU Ψ j) && (mK Φ i == 2 || alI Φ Ψ m (mV Φ i) (mV Ψ j)) from rfl]
    show (if 0 = 0 then b_X6_areAlike (g_MA n) 48 (nI f) (nI i) (nI g) (nI j) σ else none) = _
    rw [if_pos rfl]
    unfold b_X6_areAlike
    by_cases e : mK Φ i = mK Ψ j
    · rw [if_neg (show ¬ (mK Φ i ≠ mK Ψ j) from fun z => z e)]
      by_cases k1 : mK Φ i ≤ 1
      · rw [if_pos k1]
        have lk : ((1 : Int32) < nI (mK Φ i)) = False := (ltK (by omega)).trans (eq_false (by omega))
        have u1 : mU Φ i ≤ 9999 := by
          by_cases z : mK Φ i = 0
          · have := ku0 z; omega
          · exact ku1 (by omega)
        have u2 : mU Ψ j ≤ 9999 := by
          by_cases z : mK Ψ j = 0
          · have := lu0 z; omega
          · exact lu1 (by omega)
        have eu : (nI (mU Φ i) = nI (mU Ψ j)) = (mU Φ i = mU Ψ j) := propext (nI_eq (by omega) (by omega))
        simp only [chk_p, lt_p, bd_p, bc_p, oc_n, oc_s, and_self, and_true, true_and, if_true, if_false, isO_sA', isO_sB', isO_rA', hlen_sA, hlen_sB, hlen_rA, hR_sA, hR_sB, hR_rA, Typ_sA', Typ_sB', Typ_rA', O48, r48_0, r48_1, r48_2, r48_3, r48_4, r48_5, r48_6, r48_8, r48_9, r48_10, r48_11, r48_12, r48_15, r48_21, r48_22, r48_23, r48_24, r48_25, r48_28, r48_30, r48_31, r48_32, r48_35, r48_37, r48_39, r48_40, r48_41, O51, l51, O52, l52, t, at_ok, pe, cp, qe, cq, c1, c2, d1, d2, ek.trans (eq_true e), lk, if_false, eu]
        by_cases z : mU Φ i = mU Ψ j
        · rw [if_pos z, if_pos (by rw [z]; exact beq_self_eq_true _)]
        · rw [if_neg z, if_neg (by rw [beq_iff_eq]; exact z)]
      · rw [if_neg k1]
        have lk : ((1 : Int32) < nI (mK Φ i)) = True := (ltK (by omega)).trans (eq_true (by omega))
        have hu := ku (by omega)
        have hu2 := lu (by omega)
        have r1 := ih m (mU Φ i) (mU Ψ j) (by omega) (by omega) (by omega) (by omega)
        have e2 : (nI (mK Φ i) = 2) = (mK Φ i = 2) := nE (b := 2) (by omega) (by omega)
        by_cases a1 : alI Φ Ψ m (mU Φ i) (mU Ψ j) = true
        · rw [if_pos a1] at r1
          by_cases k2 : mK Φ i = 2
          · rw [if_pos (by rw [a1, k2]; rfl)]
            simp only [chk_p, lt_p, bd_p, bc_p, oc_n, oc_s, and_self, and_true, true_and, if_true, if_false, isO_sA', isO_sB', isO_rA', hlen_sA, hlen_sB, hlen_rA, hR_sA, hR_sB, hR_rA, Typ_sA', Typ_sB', Typ_rA', O48, r48_0, r48_1, r48_2, r48_3, r48_4, r48_5, r48_6, r48_8, r48_9, r48_10, r48_11, r48_12, r48_15, r48_21, r48_22, r48_23, r48_24, r48_25, r48_28, r48_30, r48_31, r48_32, r48_35, r48_37, r48_39, r48_40, r48_41, O51, l51, O52, l52, t, at_ok, pe, cp, qe, cq, c1, c2, d1, d2, ek.trans (eq_true e), lk, r1, beq1, if_false, e2.trans (eq_true k2)]
          · have hv := kv (by omega)
            have hv2 := lv (by omega)
            have r2 := ih m (mV Φ i) (mV Ψ j) (by omega) (by omega) (by omega) (by omega)
            have k2' : (mK Φ i == 2) = false := by rw [beq_eq_false_iff_ne]; exact k2
            rw [a1, k2', Bool.true_and, Bool.false_or]
            by_cases a2 : alI Φ Ψ m (mV Φ i) (mV Ψ j) = true
            · rw [if_pos a2] at r2 ⊢
              simp only [chk_p, lt_p, bd_p, bc_p, oc_n, oc_s, and_self, and_true, true_and, if_true, if_false, isO_sA', isO_sB', isO_rA', hlen_sA, hlen_sB, hlen_rA, hR_sA, hR_sB, hR_rA, Typ_sA', Typ_sB', Typ_rA', O48, r48_0, r48_1, r48_2, r48_3, r48_4, r48_5, r48_6, r48_8, r48_9, r48_10, r48_11, r48_12, r48_15, r48_21, r48_22, r48_23, r48_24, r48_25, r48_28, r48_30, r48_31, r48_32, r48_35, r48_37, r48_39, r48_40, r48_41, O51, l51, O52, l52, O53, l53, t, at_ok, pe, cp, qe, cq, c1, c2, c3, d1, d2, d3, ek.trans (eq_true e), lk, r1, beq1, if_false, e2.trans (eq_false k2), r2]
            · rw [if_neg a2] at r2 ⊢
              simp only [chk_p, lt_p, bd_p, bc_p, oc_n, oc_s, and_self, and_true, true_and, if_true, if_false, isO_sA', isO_sB', isO_rA', hlen_sA, hlen_sB, hlen_rA, hR_sA, hR_sB, hR_rA, Typ_sA', Typ_sB', Typ_rA', O48, r48_0, r48_1, r48_2, r48_3, r48_4, r48_5, r48_6, r48_8, r48_9, r48_10, r48_11, r48_12, r48_15, r48_21, r48_22, r48_23, r48_24, r48_25, r48_28, r48_30, r48_31, r48_32, r48_35, r48_37, r48_39, r48_40, r48_41, O51, l51, O52, l52, O53, l53, t, at_ok, pe, cp, qe, cq, c1, c2, c3, d1, d2, d3, ek.trans (eq_true e), lk, r1, beq1, if_false, e2.trans (eq_false k2), r2]
        · rw [if_neg a1] at r1
          rw [if_neg (by rw [Bool.eq_false_iff.mpr a1, Bool.false_and]; exact fun z => by cases z)]
          simp only [chk_p, lt_p, bd_p, bc_p, oc_n, oc_s, and_self, and_true, true_and, if_true, if_false, isO_sA', isO_sB', isO_rA', hlen_sA, hlen_sB, hlen_rA, hR_sA, hR_sB, hR_rA, Typ_sA', Typ_sB', Typ_rA', O48, r48_0, r48_1, r48_2, r48_3, r48_4, r48_5, r48_6, r48_8, r48_9, r48_10, r48_11, r48_12, r48_15, r48_21, r48_22, r48_23, r48_24, r48_25, r48_28, r48_30, r48_31, r48_32, r48_35, r48_37, r48_39, r48_40, r48_41, O51, l51, O52, l52, t, at_ok, pe, cp, qe, cq, c1, c2, d1, d2, ek.trans (eq_true e), lk, r1]
    · rw [if_pos e, if_neg (fun z => by cases z)]
      simp only [chk_p, lt_p, bd_p, bc_p, oc_n, oc_s, and_self, and_true, true_and, if_true, if_false, isO_sA', isO_sB', isO_rA', hlen_sA, hlen_sB, hlen_rA, hR_sA, hR_sB, hR_rA, Typ_sA', Typ_sB', Typ_rA', O48, r48_0, r48_1, r48_2, r48_3, r48_4, r48_5, r48_6, r48_8, r48_9, r48_10, r48_11, r48_12, r48_15, r48_21, r48_22, r48_23, r48_24, r48_25, r48_28, r48_30, r48_31, r48_32, r48_35, r48_37, r48_39, r48_40, r48_41, O51, l51, t, at_ok, pe, cp, qe, cq, c1, d1, ek.trans (eq_false e), if_false]
theorem m_like {σ : HS} (t : Typ σ) {f : Nat} (hf : f < 7) {Φ : FM} (hm : MF σ f Φ) (hw : WF Φ) {i j : Nat} (hi : i < mN Φ) (hj : j < mN Φ) : f_X6_areAlike 48 (nI f) (nI i) (nI f) (nI j) σ = some (if alF Φ i j = true then 1 else 0, σ) := by
  have w60 := hw.2.1
  exact m_al t hf hf hm hm hw hw 64 61 i j (by omega) (by omega) hi hj
def fstB (Φ : FM) (i j : Nat) : Bool := allB (fun k => !(alF Φ i k)) (min i j)
theorem fstB_s (Φ : FM) (i j : Nat) : fstB Φ i (j + 1) = (fstB Φ i j && !(alF Φ i j && decide (j < i))) := by
  unfold fstB
  by_cases c : j < i
  · rw [show min i (j + 1) = j + 1 by omega, show min i j = j by omega, decide_eq_true c, Bool.and_true]; rfl
  · rw [show min i (j + 1) = i by omega, show min i j = i by omega, decide_eq_false c, Bool.and_false, Bool.not_false, Bool.and_true]
def b2i (b : Bool) : Int32 := if b = true then 1 else 0
theorem nI_mx (a b : Nat) (ha : a < 1000) (hb : b < 1000) : (if nI a < nI b then nI b else nI a) = nI (max a b) := by
  by_cases c : a < b
  · rw [if_pos ((nI_ltI (by omega) (by omega)).mpr c), show max a b = b by omega]
  · rw [if_neg (fun z => c ((nI_ltI (by omega) (by omega)).mp z)), show max a b = a by omega]
theorem m_lik2 {σ : HS} (t : Typ σ) {f : Nat} (hf : f < 7) {Φ : FM} (hm : MF σ f Φ) (hw : WF Φ) (K : Nat → Int32 → Int32 → Int32 → Int32 → Int32 → HS → Option (Int32 × HS)) (e : Int32) (x y : Nat) (hy : y ≤ 60) {i : Nat} (hi : i < mN Φ) : ∀ d j, j + d = mN Φ → ∀ nf, d < nf → lp_X6_likeOf_28 K nf 48 (nI f) e (nI x) (nI y) (nI i) (nI (cntB (alF Φ i) j)) (b2i (fstB Φ i j)) (nI j) σ = K 48 (nI f) e (nI (x + (if allB (fun k => !(alF Φ i k)) i = true then 1 else 0))) (nI (max y (cntB (alF Φ i) (mN Φ)))) (nI (i + 1)) σ := by
  have w60 := hw.2.1
  have fe := inbE (i := f) (n := 7) hf (by omega)
  have cf := cl1000 (i := f) (by omega)
  have hn := hm.1
  intro d
  induction d with
  | zero =>
    intro j hd nf hnf
    obtain ⟨nf, rfl⟩ : ∃ k, nf = k + 1 := ⟨nf - 1, by omega⟩
    have : j = mN Φ := by omega
    subst this
    have cl := cntB_le (alF Φ i) (mN Φ)
    have le : (nI (mN Φ) ≤ nI (mN Φ)) = True := eq_true (Int32.le_refl _)
    have ef : fstB Φ i (mN Φ) = allB (fun k => !(alF Φ i k)) i := by unfold fstB; rw [show min i (mN Φ) = i by omega]
    show lp_X6_likeOf_28_b K (lp_X6_likeOf_28 K nf) 48 (nI f) e (nI x) (nI y) (nI i) _ _ (nI (mN Φ)) σ = _
    unfold lp_X6_likeOf_28_b
    rw [ef]
    have mx := nI_mx y (cntB (alF Φ i) (mN Φ)) (by omega) (by omega)
    by_cases c : allB (fun k => !(alF Φ i k)) i = true
    · simp (decide := true) only [chk_p, lt_p, bd_p, bc_p, oc_n, oc_s, and_self, and_true, true_and, if_true, if_false, isO_sA', isO_sB', isO_rA', hlen_sA, hlen_sB, hlen_rA, hR_sA, hR_sB, hR_rA, Typ_sA', Typ_sB', Typ_rA', O48, r48_0, r48_1, r48_2, r48_3, r48_4, r48_5, r48_6, r48_8, r48_9, r48_10, r48_11, r48_12, r48_15, r48_21, r48_22, r48_23, r48_24, r48_25, r48_28, r48_30, r48_31, r48_32, r48_35, r48_37, r48_39, r48_40, r48_41, O55, l55, t, fe, cf, hn, le, c, b2i, if_true, if_false, nI_s, mx]
    · simp (decide := true) only [chk_p, lt_p, bd_p, bc_p, oc_n, oc_s, and_self, and_true, true_and, if_true, if_false, isO_sA', isO_sB', isO_rA', hlen_sA, hlen_sB, hlen_rA, hR_sA, hR_sB, hR_rA, Typ_sA', Typ_sB', Typ_rA', O48, r48_0, r48_1, r48_2, r48_3, r48_4, r48_5, r48_6, r48_8, r48_9, r48_10, r48_11, r48_12, r48_15, r48_21, r48_22, r48_23, r48_24, r48_25, r48_28, r48_30, r48_31, r48_32, r48_35, r48_37, r48_39, r48_40, r48_41, O55, l55, t, fe, cf, hn, le, c, b2i, if_true, if_false, nI_s, mx, Int32.add_zero, Nat.add_zero]
  | succ d ih =>
    intro j hd nf hnf
    obtain ⟨nf, rfl⟩ : ∃ k, nf = k + 1 := ⟨nf - 1, by omega⟩
    have hj : j < mN Φ := by omega
    have le := nle (a := mN Φ) (b := j) (by omega) (by omega)
    have al := m_like t hf hm hw hi hj
    have ji : (nI j < nI i) = (j < i) := propext (nI_ltI (by omega) (by omega))
    have g := ih (j + 1) (by omega) nf (by omega)
    rw [show cntB (alF Φ i) (j + 1) = cntB (alF Φ i) j + (if alF Φ i j = true then 1 else 0) from rfl, fstB_s] at g
    rw [← g]
    show lp_X6_likeOf_28_b K (lp_X6_likeOf_28 K nf) 48 (nI f) e (nI x) (nI y) (nI i) _ _ (nI j) σ = _
    unfold lp_X6_likeOf_28_b
    cases ca : alF Φ i j <;> cases cb : fstB Φ i j <;> rw [ca] at al <;> by_cases cj : j < i
    all_goals simp (decide := true) only [chk_p, lt_p, bd_p, bc_p, oc_n, oc_s, and_self, and_true, true_and, if_true, if_false, isO_sA', isO_sB', isO_rA', hlen_sA, hlen_sB, hlen_rA, hR_sA, hR_sB, hR_rA, Typ_sA', Typ_sB', Typ_rA', O48, r48_0, r48_1, r48_2, r48_3, r48_4, r48_5, r48_6, r48_8, r48_9, r48_10, r48_11, r48_12, r48_15, r48_21, r48_22, r48_23, r48_24, r48_25, r48_28, r48_30, r48_31, r48_32, r48_35, r48_37, r48_39, r48_40, r48_41, O55, l55, t, fe, cf, hn, le, al, b2i, ji, cj, if_true, if_false, nI_s, Int32.add_zero, Nat.add_zero, decide_true, decide_false, Bool.and_true, Bool.and_false, Bool.not_true, Bool.not_false, Bool.true_and, Bool.false_and]
theorem m_lik1 {σ : HS} (t : Typ σ) {f : Nat} (hf : f < 7) {Φ : FM} (hm : MF σ f Φ) (hw : WF Φ) (e : Int32) : ∀ d i, i + d = mN Φ → ∀ nf, d < nf → lp_X6_likeOf_8 nf 48 (nI f) e (nI (cntB (fun i => allB (fun j => !(alF Φ i j)) i) i)) (nI (maxN (fun i => cntB (alF Φ i) (mN Φ)) i)) (nI i) σ = some (if e = 0 then nI (unlN Φ) else nI (malN Φ), σ) := by
  have w60 := hw.2.1
  have fe := inbE (i := f) (n := 7) hf (by omega)
  have cf := cl1000 (i := f) (by omega)
  have hn := hm.1
  intro d
  induction d with
  | zero =>
    intro i hd nf hnf
    obtain ⟨nf, rfl⟩ : ∃ k, nf = k + 1 := ⟨nf - 1, by omega⟩
    have : i = mN Φ := by omega
    subst this
    have le : (nI (mN Φ) ≤ nI (mN Φ)) = True := eq_true (Int32.le_refl _)
    show lp_X6_likeOf_8_b (lp_X6_likeOf_8 nf) 48 (nI f) e _ _ (nI (mN Φ)) σ = _
    unfold lp_X6_likeOf_8_b
    simp only [chk_p, lt_p, bd_p, bc_p, oc_n, oc_s, and_self, and_true, true_and, if_true, if_false, isO_sA', isO_sB', isO_rA', hlen_sA, hlen_sB, hlen_rA, hR_sA, hR_sB, hR_rA, Typ_sA', Typ_sB', Typ_rA', O48, r48_0, r48_1, r48_2, r48_3, r48_4, r48_5, r48_6, r48_8, r48_9, r48_10, r48_11, r48_12, r48_15, r48_21, r48_22, r48_23, r48_24, r48_25, r48_28, r48_30, r48_31, r48_32, r48_35, r48_37, r48_39, r48_40, r48_41, O55, l55, t, fe, cf, hn, le]
    by_cases c : e = 0
    · rw [if_pos c, if_pos c]; rfl
    · rw [if_neg c, if_neg c]; rfl
  | succ d ih =>
    intro i hd nf hnf
    obtain ⟨nf, rfl⟩ : ∃ k, nf = k + 1 := ⟨nf - 1, by omega⟩
    have hi : i < mN Φ := by omega
    have le := nle (a := mN Φ) (b := i) (by omega) (by omega)
    have g := ih (i + 1) (by omega) nf (by omega)
    have mx60 : ∀ i, maxN (fun i => cntB (alF Φ i) (mN Φ)) i ≤ 60 := by
      intro i
      induction i with
      | zero => exact Nat.zero_le _
      | succ i ih => show max _ _ ≤ 60; have := cntB_le (alF Φ i) (mN Φ); have : cntB (alF Φ i) (mN Φ) ≤ 60 := by omega
                     exact Nat.max_le.mpr ⟨ih, this⟩
    have l2 := m_lik2 t hf hm hw (lp_X6_likeOf_8 nf) e (cntB (fun i => allB (fun j => !(alF Φ i j)) i) i) (maxN (fun i => cntB (alF Φ i) (mN Φ)) i) (mx60 i) hi (mN Φ) 0 (by omega) 1000 (by omega)
    rw [show cntB (alF Φ i) 0 = 0 from rfl, show fstB Φ i 0 = true by unfold fstB; rw [show min i 0 = 0 by omega]; rfl, show b2i true = 1 from rfl, show nI 0 = 0 from rfl] at l2
    rw [← g]
    rw [show cntB (fun i => allB (fun j => !(alF Φ i j)) i) (i + 1) = cntB (fun i => allB (fun j => !(alF Φ i j)) i) i + (if allB (fun j => !(alF Φ i j)) i = true then 1 else 0) from rfl, show maxN (fun i => cntB (alF Φ i) (mN Φ)) (i + 1) = max (maxN (fun i => cntB (alF Φ i) (mN Φ)) i) (cntB (alF Φ i) (mN Φ)) from rfl, ← l2]
    show lp_X6_likeOf_8_b (lp_X6_likeOf_8 nf) 48 (nI f) e _ _ (nI i) σ = _
    unfold lp_X6_likeOf_8_b
    rw [chk_p (o48 t), r48_6 t, bd_p, chk_p (by rw [O55 t, l55 t, fe]; exact ⟨trivial, trivial⟩), cf, hn, lt_p, if_neg (of_eq_false le), lt_p, lt_p, lt_p]
theorem m_likeOf {σ : HS} (t : Typ σ) {f : Nat} (hf : f < 7) {Φ : FM} (hm : MF σ f Φ) (hw : WF Φ) (e : Int32) : f_X6_likeOf 48 (nI f) e σ = some (if e = 0 then nI (unlN Φ) else nI (malN Φ), σ) := by
  have w60 := hw.2.1
  exact m_lik1 t hf hm hw e (mN Φ) 0 (by omega) 1000 (by omega)
theorem and31 : ∀ u, u < 6 → nI u &&& (31 : Int32) = nI u := by decide
theorem m_let {σ : HS} (t : Typ σ) {f : Nat} (hf : f < 7) {Φ : FM} (hm : MF σ f Φ) (hw : WF Φ) : ∀ d i, i + d = mN Φ → ∀ nf, d < nf → lp_X6_lettersOf_4 nf 48 (nI f) (srcs Φ i) (nI i) σ = some (srcs Φ (mN Φ), σ) := by
  have w60 := hw.2.1
  have fe := inbE (i := f) (n := 7) hf (by omega)
  have cf := cl1000 (i := f) (by omega)
  have hn := hm.1
  intro d
  induction d with
  | zero =>
    intro i hd nf hnf
    obtain ⟨nf, rfl⟩ : ∃ k, nf = k + 1 := ⟨nf - 1, by omega⟩
    have : i = mN Φ := by omega
    subst this
    have le : (nI (mN Φ) ≤ nI (mN Φ)) = True := eq_true (Int32.le_refl _)
    show lp_X6_lettersOf_4_b (lp_X6_lettersOf_4 nf) 48 (nI f) _ (nI (mN Φ)) σ = _
    unfold lp_X6_lettersOf_4_b
    simp only [chk_p, lt_p, bd_p, bc_p, oc_n, oc_s, and_self, and_true, true_and, if_true, if_false, isO_sA', isO_sB', isO_rA', hlen_sA, hlen_sB, hlen_rA, hR_sA, hR_sB, hR_rA, Typ_sA', Typ_sB', Typ_rA', O48, r48_0, r48_1, r48_2, r48_3, r48_4, r48_5, r48_6, r48_8, r48_9, r48_10, r48_11, r48_12, r48_15, r48_21, r48_22, r48_23, r48_24, r48_25, r48_28, r48_30, r48_31, r48_32, r48_35, r48_37, r48_39, r48_40, r48_41, O55, l55, t, fe, cf, hn, le]
  | succ d ih =>
    intro i hd nf hnf
    obtain ⟨nf, rfl⟩ : ∃ k, nf = k + 1 := ⟨nf - 1, by omega⟩
    have hi : i < mN Φ := by omega
    obtain ⟨c1, c2, c3, c4⟩ := hm.2 i hi
    obtain ⟨k5, ku0, ku1, ku, kv, kv0, kp⟩ := hw.2.2 i hi
    have pe := inbE (i := 60 * f + i) (n := 420) (by omega) (by omega)
    have cp := cl1000 (i := 60 * f + i) (by omega)
    have le := nle (a := mN Φ) (b := i) (by omega) (by omega)
    have g := ih (i + 1) (by omega) nf (by omega)
    have k0 : (nI (mK Φ i) = 0) = (mK Φ i = 0) := nE (b := 0) (by omega) (by omega)
    rw [← g]
    rw [show srcs Φ (i + 1) = srcs Φ i ||| (if mK Φ i = 0 then (1 : Int32) <<< (nI (mU Φ i)) else 0) from rfl]
    show lp_X6_lettersOf_4_b (lp_X6_lettersOf_4 nf) 48 (nI f) _ (nI i) σ = _
    unfold lp_X6_lettersOf_4_b
    by_cases c : mK Φ i = 0
    · rw [if_pos c]
      simp only [chk_p, lt_p, bd_p, bc_p, oc_n, oc_s, and_self, and_true, true_and, if_true, if_false, isO_sA', isO_sB', isO_rA', hlen_sA, hlen_sB, hlen_rA, hR_sA, hR_sB, hR_rA, Typ_sA', Typ_sB', Typ_rA', O48, r48_0, r48_1, r48_2, r48_3, r48_4, r48_5, r48_6, r48_8, r48_9, r48_10, r48_11, r48_12, r48_15, r48_21, r48_22, r48_23, r48_24, r48_25, r48_28, r48_30, r48_31, r48_32, r48_35, r48_37, r48_39, r48_40, r48_41, O51, l51, O52, l52, O55, l55, t, fe, cf, hn, le, if_false, at_ok, pe, cp, c1, c2, k0.trans (eq_true c), and31 _ (ku0 c), nI_s]
    · rw [if_neg c]
      simp only [chk_p, lt_p, bd_p, bc_p, oc_n, oc_s, and_self, and_true, true_and, if_true, if_false, isO_sA', isO_sB', isO_rA', hlen_sA, hlen_sB, hlen_rA, hR_sA, hR_sB, hR_rA, Typ_sA', Typ_sB', Typ_rA', O48, r48_0, r48_1, r48_2, r48_3, r48_4, r48_5, r48_6, r48_8, r48_9, r48_10, r48_11, r48_12, r48_15, r48_21, r48_22, r48_23, r48_24, r48_25, r48_28, r48_30, r48_31, r48_32, r48_35, r48_37, r48_39, r48_40, r48_41, O51, l51, O52, l52, O55, l55, t, fe, cf, hn, le, if_false, at_ok, pe, cp, c1, c2, k0.trans (eq_false c), nI_s]
theorem depI_le (Φ : FM) (hw : wfR Φ) : ∀ n i, i < mN Φ → depI Φ n i ≤ i := by
  intro n
  induction n with
  | zero => intro i _; exact Nat.zero_le _
  | succ n ih =>
    intro i hi
    obtain ⟨k5, ku0, ku1, ku, kv, kv0, kp⟩ := hw i hi
    show (if mK Φ i ≤ 1 then 0 else if mK Φ i = 2 then 1 + depI Φ n (mU Φ i) else 1 + max (depI Φ n (mU Φ i)) (depI Φ n (mV Φ i))) ≤ i
    by_cases k1 : mK Φ i ≤ 1
    · rw [if_pos k1]; omega
    · rw [if_neg k1]
      have hu := ku (by omega)
      have a := ih (mU Φ i) (by omega)
      by_cases k2 : mK Φ i = 2
      · rw [if_pos k2]; omega
      · rw [if_neg k2]
        have hv := kv (by omega)
        have b := ih (mV Φ i) (by omega)
        omega
theorem m_dep {σ : HS} (t : Typ σ) {f : Nat} (hf : f < 7) {Φ : FM} (hm : MF σ f Φ) (hw : WF Φ) : ∀ n m i, i < n → i < m → i < mN Φ → g_MD n 0 48 (nI f) (nI i) σ = some (nI (depI Φ m i), σ) := by
  have w60 := hw.2.1
  intro n
  induction n with
  | zero => intro m i h; omega
  | succ n ih =>
    intro m i h1 h2 hi
    obtain ⟨m, rfl⟩ : ∃ k, m = k + 1 := ⟨m - 1, by omega⟩
    obtain ⟨k5, ku0, ku1, ku, kv, kv0, kp⟩ := hw.2.2 i hi
    obtain ⟨c1, c2, c3, c4⟩ := hm.2 i hi
    have pe := inbE (i := 60 * f + i) (n := 420) (by omega) (by omega)
    have cp := cl1000 (i := 60 * f + i) (by omega)
    rw [show depI Φ (m + 1) i = if mK Φ i ≤ 1 then 0 else if mK Φ i = 2 then 1 + depI Φ m (mU Φ i) else 1 + max (depI Φ m (mU Φ i)) (depI Φ m (mV Φ i)) from rfl]
    show (if 0 = 0 then b_X6_depthOf (g_MD n) 48 (nI f) (nI i) σ else none) = _
    rw [if_pos rfl]
    unfold b_X6_depthOf
    have lk := ltK (a := mK Φ i) (by omega)
    by_cases k1 : mK Φ i ≤ 1
    · rw [if_pos k1]
      simp only [chk_p, lt_p, bd_p, bc_p, oc_n, oc_s, and_self, and_true, true_and, if_true, if_false, isO_sA', isO_sB', isO_rA', hlen_sA, hlen_sB, hlen_rA, hR_sA, hR_sB, hR_rA, Typ_sA', Typ_sB', Typ_rA', O48, r48_0, r48_1, r48_2, r48_3, r48_4, r48_5, r48_6, r48_8, r48_9, r48_10, r48_11, r48_12, r48_15, r48_21, r48_22, r48_23, r48_24, r48_25, r48_28, r48_30, r48_31, r48_32, r48_35, r48_37, r48_39, r48_40, r48_41, O51, l51, t, at_ok, pe, cp, c1, lk.trans (eq_false (by omega)), if_false]
      rfl
    · rw [if_neg k1]
      have hu := ku (by omega)
      have r1 := ih m (mU Φ i) (by omega) (by omega) (by omega)
      have e2 : (nI (mK Φ i) = 2) = (mK Φ i = 2) := nE (b := 2) (by omega) (by omega)
      have p1 : ∀ a : Nat, (1 : Int32) + nI a = nI (1 + a) := fun a => nI_plus 1 a
      by_cases k2 : mK Φ i = 2
      · rw [if_pos k2]
        simp only [chk_p, lt_p, bd_p, bc_p, oc_n, oc_s, and_self, and_true, true_and, if_true, if_false, isO_sA', isO_sB', isO_rA', hlen_sA, hlen_sB, hlen_rA, hR_sA, hR_sB, hR_rA, Typ_sA', Typ_sB', Typ_rA', O48, r48_0, r48_1, r48_2, r48_3, r48_4, r48_5, r48_6, r48_8, r48_9, r48_10, r48_11, r48_12, r48_15, r48_21, r48_22, r48_23, r48_24, r48_25, r48_28, r48_30, r48_31, r48_32, r48_35, r48_37, r48_39, r48_40, r48_41, O51, l51, O52, l52, t, at_ok, pe, cp, c1, c2, lk.trans (eq_true (by omega)), r1, e2.trans (eq_true k2), p1]
      · rw [if_neg k2]
        have hv := kv (by omega)
        have r2 := ih m (mV Φ i) (by omega) (by omega) (by omega)
        have d1 := depI_le Φ hw.2.2 m (mU Φ i) (by omega)
        have d2 := depI_le Φ hw.2.2 m (mV Φ i) (by omega)
        have mx := nI_mx (depI Φ m (mU Φ i)) (depI Φ m (mV Φ i)) (by omega) (by omega)
        simp only [chk_p, lt_p, bd_p, bc_p, oc_n, oc_s, and_self, and_true, true_and, if_true, if_false, isO_sA', isO_sB', isO_rA', hlen_sA, hlen_sB, hlen_rA, hR_sA, hR_sB, hR_rA, Typ_sA', Typ_sB', Typ_rA', O48, r48_0, r48_1, r48_2, r48_3, r48_4, r48_5, r48_6, r48_8, r48_9, r48_10, r48_11, r48_12, r48_15, r48_21, r48_22, r48_23, r48_24, r48_25, r48_28, r48_30, r48_31, r48_32, r48_35, r48_37, r48_39, r48_40, r48_41, O51, l51, O52, l52, O53, l53, t, at_ok, pe, cp, c1, c2, c3, lk.trans (eq_true (by omega)), r1, r2, e2.trans (eq_false k2), if_false, mx, p1]
theorem op_parts (a w : Int32) : OpOK (f_X5_parts 0 a w) (f_X6_parts 48 a w) := by
  intro σ V S C n FS I
  have t := I.1
  rcases start I a with ⟨k, φ, hk, rfl, ef, hg, hc, hxi, em⟩ | ⟨ef, em⟩
  · have q0 := eq_true hc.2.1.1.2.1
    have hn := hc.2.1.2.1
    obtain ⟨x1, x2, x3, x4⟩ := hxi
    have hm := hc.2.2.1
    have eml := em σ t rfl
    have fe := inbE (i := k) (n := 7) hk (by omega)
    have cf := cl1000 (i := k) (by omega)
    have w60 := hg.1.2.1
    have w1 := hg.1.1
    have lk0 := m_likeOf t hk hm hg.1 0
    have lk1 := m_likeOf t hk hm hg.1 1
    rw [if_pos rfl] at lk0
    rw [if_neg (by decide)] at lk1
    have lt : f_X6_lettersOf 48 (nI k) σ = some (srcs (FS k) (mN (FS k)), σ) := m_let t hk hm hg.1 (mN (FS k)) 0 (by omega) 1000 (by omega)
    have dp : f_X6_depthOf 48 (nI k) (nI (mN (FS k) - 1)) σ = some (nI (depI (FS k) 61 (mN (FS k) - 1)), σ) := m_dep t hk hm hg.1 64 61 _ (by omega) (by omega) (by omega)
    have ro := rootOf_ok t hk hm.1 hg.1
    have h0 := hm.1
    by_cases c0 : w = 0
    · subst c0
      refine opN I (nI (mN (FS k))) ?_ ?_
      · unfold f_X5_parts
        simp (decide := true) only [chk_p, lt_p, bd_p, bc_p, oc_n, oc_s, and_self, and_true, true_and, if_true, if_false, isO_sA', isO_sB', isO_rA', hlen_sA, hlen_sB, hlen_rA, hR_sA, hR_sB, hR_rA, Typ_sA', Typ_sB', Typ_rA', O0, r0_0, r0_1, r0_3, r0_4, r0_5, r0_6, r0_7, t, ef, q0, hn]
      · unfold f_X6_parts
        simp (decide := true) only [chk_p, lt_p, bd_p, bc_p, oc_n, oc_s, and_self, and_true, true_and, if_true, if_false, isO_sA', isO_sB', isO_rA', hlen_sA, hlen_sB, hlen_rA, hR_sA, hR_sB, hR_rA, Typ_sA', Typ_sB', Typ_rA', O48, r48_0, r48_1, r48_2, r48_3, r48_4, r48_5, r48_6, r48_8, r48_9, r48_10, r48_11, r48_12, r48_15, r48_21, r48_22, r48_23, r48_24, r48_25, r48_28, r48_30, r48_31, r48_32, r48_35, r48_37, r48_39, r48_40, r48_41, O55, l55, t, eml, beq1, if_false, fe, cf, h0]
    by_cases c1 : w = 1
    · subst c1
      refine opN I (nI (unlN (FS k))) ?_ ?_
      · unfold f_X5_parts
        simp (decide := true) only [chk_p, lt_p, bd_p, bc_p, oc_n, oc_s, and_self, and_true, true_and, if_true, if_false, isO_sA', isO_sB', isO_rA', hlen_sA, hlen_sB, hlen_rA, hR_sA, hR_sB, hR_rA, Typ_sA', Typ_sB', Typ_rA', O0, r0_0, r0_1, r0_3, r0_4, r0_5, r0_6, r0_7, t, ef, q0, x3, if_false]
      · unfold f_X6_parts
        simp (decide := true) only [chk_p, lt_p, bd_p, bc_p, oc_n, oc_s, and_self, and_true, true_and, if_true, if_false, isO_sA', isO_sB', isO_rA', hlen_sA, hlen_sB, hlen_rA, hR_sA, hR_sB, hR_rA, Typ_sA', Typ_sB', Typ_rA', O48, r48_0, r48_1, r48_2, r48_3, r48_4, r48_5, r48_6, r48_8, r48_9, r48_10, r48_11, r48_12, r48_15, r48_21, r48_22, r48_23, r48_24, r48_25, r48_28, r48_30, r48_31, r48_32, r48_35, r48_37, r48_39, r48_40, r48_41, t, eml, beq1, if_false, lk0]
    by_cases c2 : w = 2
    · subst c2
      refine opN I (nI (malN (FS k))) ?_ ?_
      · unfold f_X5_parts
        simp (decide := true) only [chk_p, lt_p, bd_p, bc_p, oc_n, oc_s, and_self, and_true, true_and, if_true, if_false, isO_sA', isO_sB', isO_rA', hlen_sA, hlen_sB, hlen_rA, hR_sA, hR_sB, hR_rA, Typ_sA', Typ_sB', Typ_rA', O0, r0_0, r0_1, r0_3, r0_4, r0_5, r0_6, r0_7, t, ef, q0, x4, if_false]
      · unfold f_X6_parts
        simp (decide := true) only [chk_p, lt_p, bd_p, bc_p, oc_n, oc_s, and_self, and_true, true_and, if_true, if_false, isO_sA', isO_sB', isO_rA', hlen_sA, hlen_sB, hlen_rA, hR_sA, hR_sB, hR_rA, Typ_sA', Typ_sB', Typ_rA', O48, r48_0, r48_1, r48_2, r48_3, r48_4, r48_5, r48_6, r48_8, r48_9, r48_10, r48_11, r48_12, r48_15, r48_21, r48_22, r48_23, r48_24, r48_25, r48_28, r48_30, r48_31, r48_32, r48_35, r48_37, r48_39, r48_40, r48_41, t, eml, beq1, if_false, lk1]
    by_cases c3 : w = 3
    · subst c3
      refine opN I (srcs (FS k) (mN (FS k))) ?_ ?_
      · unfold f_X5_parts
        simp (decide := true) only [chk_p, lt_p, bd_p, bc_p, oc_n, oc_s, and_self, and_true, true_and, if_true, if_false, isO_sA', isO_sB', isO_rA', hlen_sA, hlen_sB, hlen_rA, hR_sA, hR_sB, hR_rA, Typ_sA', Typ_sB', Typ_rA', O0, r0_0, r0_1, r0_3, r0_4, r0_5, r0_6, r0_7, t, ef, q0, x1, if_false]
      · unfold f_X6_parts
        simp (decide := true) only [chk_p, lt_p, bd_p, bc_p, oc_n, oc_s, and_self, and_true, true_and, if_true, if_false, isO_sA', isO_sB', isO_rA', hlen_sA, hlen_sB, hlen_rA, hR_sA, hR_sB, hR_rA, Typ_sA', Typ_sB', Typ_rA', O48, r48_0, r48_1, r48_2, r48_3, r48_4, r48_5, r48_6, r48_8, r48_9, r48_10, r48_11, r48_12, r48_15, r48_21, r48_22, r48_23, r48_24, r48_25, r48_28, r48_30, r48_31, r48_32, r48_35, r48_37, r48_39, r48_40, r48_41, t, eml, beq1, if_false, lt]
    by_cases c4 : w = 4
    · subst c4
      refine opN I (nI (depI (FS k) 61 (mN (FS k) - 1))) ?_ ?_
      · unfold f_X5_parts
        simp (decide := true) only [chk_p, lt_p, bd_p, bc_p, oc_n, oc_s, and_self, and_true, true_and, if_true, if_false, isO_sA', isO_sB', isO_rA', hlen_sA, hlen_sB, hlen_rA, hR_sA, hR_sB, hR_rA, Typ_sA', Typ_sB', Typ_rA', O0, r0_0, r0_1, r0_3, r0_4, r0_5, r0_6, r0_7, t, ef, q0, x2, if_false]
      · unfold f_X6_parts
        simp (decide := true) only [chk_p, lt_p, bd_p, bc_p, oc_n, oc_s, and_self, and_true, true_and, if_true, if_false, isO_sA', isO_sB', isO_rA', hlen_sA, hlen_sB, hlen_rA, hR_sA, hR_sB, hR_rA, Typ_sA', Typ_sB', Typ_rA', O48, r48_0, r48_1, r48_2, r48_3, r48_4, r48_5, r48_6, r48_8, r48_9, r48_10, r48_11, r48_12, r48_15, r48_21, r48_22, r48_23, r48_24, r48_25, r48_28, r48_30, r48_31, r48_32, r48_35, r48_37, r48_39, r48_40, r48_41, t, eml, beq1, if_false, ro, dp]
    refine opN I (-1) ?_ ?_
    · unfold f_X5_parts
      simp only [chk_p, lt_p, bd_p, bc_p, oc_n, oc_s, and_self, and_true, true_and, if_true, if_false, isO_sA', isO_sB', isO_rA', hlen_sA, hlen_sB, hlen_rA, hR_sA, hR_sB, hR_rA, Typ_sA', Typ_sB', Typ_rA', O0, r0_0, r0_1, r0_3, r0_4, r0_5, r0_6, r0_7, t, ef, c0, c1, c2, c3, c4, if_false]
    · unfold f_X6_parts
      simp only [chk_p, lt_p, bd_p, bc_p, oc_n, oc_s, and_self, and_true, true_and, if_true, if_false, isO_sA', isO_sB', isO_rA', hlen_sA, hlen_sB, hlen_rA, hR_sA, hR_sB, hR_rA, Typ_sA', Typ_sB', Typ_rA', O48, r48_0, r48_1, r48_2, r48_3, r48_4, r48_5, r48_6, r48_8, r48_9, r48_10, r48_11, r48_12, r48_15, r48_21, r48_22, r48_23, r48_24, r48_25, r48_28, r48_30, r48_31, r48_32, r48_35, r48_37, r48_39, r48_40, r48_41, t, eml, beq1, c0, c1, c2, c3, c4, if_false]
  · refine opN I (-1) ?_ ?_
    · unfold f_X5_parts
      rw [chk_p (o0 t), ef, bc_p, oc_n]
    · unfold f_X6_parts
      rw [chk_p (o48 t), em, bc_p, if_pos rfl]
