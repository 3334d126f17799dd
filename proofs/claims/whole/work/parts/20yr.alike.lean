/-! alike: the order in which parts end tells how they are made -/
abbrev stp (Φ : FM) (st : Nat → Nat) : Prop := ∀ i, i < mN Φ → (mK Φ i ≤ 1 → st i = i) ∧ (mK Φ i = 2 → mU Φ i + 1 = i ∧ st i = st (mU Φ i)) ∧ (3 ≤ mK Φ i → mV Φ i + 1 = i ∧ mU Φ i + 1 = st (mV Φ i) ∧ st i = st (mU Φ i))
theorem st_le {Φ : FM} (hw : wfR Φ) {st : Nat → Nat} (h : stp Φ st) : ∀ i, i < mN Φ → st i ≤ i := by
  intro i
  induction i using Nat.strongRecOn with
  | _ i ih =>
    intro hi
    obtain ⟨a, b, c⟩ := h i hi
    obtain ⟨k5, ku0, ku1, ku, kv, -⟩ := hw i hi
    by_cases k1 : mK Φ i ≤ 1
    · rw [a k1]; exact Nat.le_refl _
    · have hu := ku (by omega)
      have i1 := ih _ hu (by omega)
      by_cases k2 : mK Φ i = 2
      · rw [(b k2).2]; omega
      · rw [(c (by omega)).2.2]; omega
theorem st_in {Φ : FM} (hw : wfR Φ) {st : Nat → Nat} (h : stp Φ st) : ∀ i, i < mN Φ → ∀ j, st i ≤ j → j ≤ i → st i ≤ st j := by
  intro i
  induction i using Nat.strongRecOn with
  | _ i ih =>
    intro hi j h1 h2
    obtain ⟨a, b, c⟩ := h i hi
    obtain ⟨k5, ku0, ku1, ku, kv, -⟩ := hw i hi
    by_cases e : j = i
    · rw [e]; exact Nat.le_refl _
    by_cases k1 : mK Φ i ≤ 1
    · have := a k1; omega
    · have hu := ku (by omega)
      by_cases k2 : mK Φ i = 2
      · obtain ⟨b1, b2⟩ := b k2
        rw [b2] at h1 ⊢
        exact ih _ hu (by omega) j h1 (by omega)
      · obtain ⟨c1, c2, c3⟩ := c (by omega)
        have hv := kv (by omega)
        rw [c3] at h1 ⊢
        by_cases z : j ≤ mU Φ i
        · exact ih _ hu (by omega) j h1 z
        · have := ih _ hv (by omega) j (by omega) (by omega)
          have := st_le hw h (mU Φ i) (by omega)
          omega
theorem st_root {Φ : FM} (hw : WF Φ) (hr : RCH Φ) {st : Nat → Nat} (h : stp Φ st) : st (mN Φ - 1) = 0 := by
  have w1 := hw.1
  have l := st_le hw.2.2 h (mN Φ - 1) (by omega)
  by_cases z : st (mN Φ - 1) = 0
  · exact z
  · obtain ⟨s, hs⟩ : ∃ s, st (mN Φ - 1) = s + 1 := ⟨st (mN Φ - 1) - 1, by omega⟩
    obtain ⟨j, hj, hjn, hc⟩ := hr s (by omega)
    have n := st_in hw.2.2 h (mN Φ - 1) (by omega) j (by omega) (by omega)
    obtain ⟨a, b, c⟩ := h j hjn
    obtain ⟨k5, ku0, ku1, ku, kv, -⟩ := hw.2.2 j hjn
    rcases hc with ⟨k2, hu⟩ | ⟨k3, hv⟩
    · have lu := st_le hw.2.2 h (mU Φ j) (by omega)
      by_cases k2' : mK Φ j = 2
      · have := (b k2').2; omega
      · have := (c (by omega)).2.2; omega
    · obtain ⟨c1, c2, c3⟩ := c k3
      have lu := st_le hw.2.2 h (mU Φ j) (by have := ku (by omega); omega)
      have lv := st_le hw.2.2 h (mV Φ j) (by omega)
      omega
def wth (Φ : FM) (i : Nat) : Nat := if mK Φ i ≤ 1 then mU Φ i else 0
theorem al_seq {Φ Ψ : FM} (hw : wfR Φ) (hw2 : wfR Ψ) {st st' : Nat → Nat} (h : stp Φ st) (h' : stp Ψ st') : ∀ i, i < mN Φ → ∀ m j, i < m → j < mN Ψ → alI Φ Ψ m i j = true → i - st i = j - st' j ∧ ∀ k, k ≤ i - st i → mK Φ (st i + k) = mK Ψ (st' j + k) ∧ wth Φ (st i + k) = wth Ψ (st' j + k) := by
  intro i
  induction i using Nat.strongRecOn with
  | _ i ih =>
    intro hi m j hm hj hal
    obtain ⟨m, rfl⟩ : ∃ k, m = k + 1 := ⟨m - 1, by omega⟩
    rw [show alI Φ Ψ (m + 1) i j = if mK Φ i ≠ mK Ψ j then false else if mK Φ i ≤ 1 then mU Φ i == mU Ψ j else alI Φ Ψ m (mU Φ i) (mU Ψ j) && (mK Φ i == 2 || alI Φ Ψ m (mV Φ i) (mV Ψ j)) from rfl] at hal
    obtain ⟨a, b, c⟩ := h i hi
    obtain ⟨a', b', c'⟩ := h' j hj
    obtain ⟨k5, ku0, ku1, ku, kv, -⟩ := hw i hi
    obtain ⟨l5, lu0, lu1, lu, lv, -⟩ := hw2 j hj
    by_cases e : mK Φ i = mK Ψ j
    · rw [if_neg (show ¬ (mK Φ i ≠ mK Ψ j) from fun z => z e)] at hal
      have wi : 1 < mK Φ i → wth Φ i = wth Ψ j := fun z => by unfold wth; rw [if_neg (by omega), if_neg (by omega)]
      by_cases k1 : mK Φ i ≤ 1
      · rw [if_pos k1, beq_iff_eq] at hal
        rw [a k1, a' (by omega)]
        refine ⟨by omega, fun k hk => ?_⟩
        rw [show k = 0 by omega, Nat.add_zero, Nat.add_zero]
        refine ⟨e, ?_⟩
        unfold wth; rw [if_pos k1, if_pos (by omega), hal]
      · rw [if_neg k1, Bool.and_eq_true] at hal
        have hu := ku (by omega)
        have hu2 := lu (by omega)
        obtain ⟨r1, r2⟩ := ih _ hu (by omega) m (mU Ψ j) (by omega) (by omega) hal.1
        have lu1' := st_le hw h (mU Φ i) (by omega)
        have lu2' := st_le hw2 h' (mU Ψ j) (by omega)
        by_cases k2 : mK Φ i = 2
        · obtain ⟨b1, b2⟩ := b k2
          obtain ⟨b3, b4⟩ := b' (by omega)
          rw [b2, b4]
          refine ⟨by omega, fun k hk => ?_⟩
          by_cases z : k ≤ mU Φ i - st (mU Φ i)
          · exact r2 k z
          · rw [show st (mU Φ i) + k = i by omega, show st' (mU Ψ j) + k = j by omega]
            exact ⟨e, wi (by omega)⟩
        · have hv := kv (by omega)
          have hv2 := lv (by omega)
          have al2 : alI Φ Ψ m (mV Φ i) (mV Ψ j) = true := by
            have := hal.2
            rw [Bool.or_eq_true, beq_iff_eq] at this
            exact this.elim (fun z => absurd z k2) id
          obtain ⟨r3, r4⟩ := ih _ hv (by omega) m (mV Ψ j) (by omega) (by omega) al2
          obtain ⟨c1, c2, c3⟩ := c (by omega)
          obtain ⟨c4, c5, c6⟩ := c' (by omega)
          have lv1' := st_le hw h (mV Φ i) (by omega)
          have lv2' := st_le hw2 h' (mV Ψ j) (by omega)
          rw [c3, c6]
          refine ⟨by omega, fun k hk => ?_⟩
          by_cases z : k ≤ mU Φ i - st (mU Φ i)
          · exact r2 k z
          · by_cases z2 : k - (mU Φ i - st (mU Φ i)) - 1 ≤ mV Φ i - st (mV Φ i)
            · have := r4 (k - (mU Φ i - st (mU Φ i)) - 1) z2
              rw [show st (mV Φ i) + (k - (mU Φ i - st (mU Φ i)) - 1) = st (mU Φ i) + k by omega, show st' (mV Ψ j) + (k - (mU Φ i - st (mU Φ i)) - 1) = st' (mU Ψ j) + k by omega] at this
              exact this
            · rw [show st (mU Φ i) + k = i by omega, show st' (mU Ψ j) + k = j by omega]
              exact ⟨e, wi (by omega)⟩
    · rw [if_pos e] at hal; cases hal
theorem seq_al {Φ Ψ : FM} (hw : wfR Φ) (hw2 : wfR Ψ) (hN : mN Φ = mN Ψ) {st st' : Nat → Nat} (h : stp Φ st) (h' : stp Ψ st') (he : ∀ i, i < mN Φ → mK Φ i = mK Ψ i ∧ wth Φ i = wth Ψ i) : ∀ i, i < mN Φ → st i = st' i ∧ ∀ m, i < m → alI Φ Ψ m i i = true := by
  intro i
  induction i using Nat.strongRecOn with
  | _ i ih =>
    intro hi
    obtain ⟨a, b, c⟩ := h i hi
    obtain ⟨a', b', c'⟩ := h' i (by omega)
    obtain ⟨k5, ku0, ku1, ku, kv, -⟩ := hw i hi
    obtain ⟨e, ew⟩ := he i hi
    have al : ∀ m, alI Φ Ψ (m + 1) i i = if mK Φ i ≠ mK Ψ i then false else if mK Φ i ≤ 1 then mU Φ i == mU Ψ i else alI Φ Ψ m (mU Φ i) (mU Ψ i) && (mK Φ i == 2 || alI Φ Ψ m (mV Φ i) (mV Ψ i)) := fun m => rfl
    by_cases k1 : mK Φ i ≤ 1
    · refine ⟨by rw [a k1, a' (by omega)], fun m hm => ?_⟩
      obtain ⟨m, rfl⟩ : ∃ k, m = k + 1 := ⟨m - 1, by omega⟩
      unfold wth at ew
      rw [if_pos k1, if_pos (by omega)] at ew
      rw [al, if_neg (fun z => z e), if_pos k1, ew]
      exact beq_self_eq_true _
    · have hu := ku (by omega)
      obtain ⟨i1, i2⟩ := ih _ hu (by omega)
      by_cases k2 : mK Φ i = 2
      · obtain ⟨b1, b2⟩ := b k2
        obtain ⟨b3, b4⟩ := b' (by omega)
        have eu : mU Φ i = mU Ψ i := by omega
        refine ⟨by rw [b2, b4, i1, eu], fun m hm => ?_⟩
        obtain ⟨m, rfl⟩ : ∃ k, m = k + 1 := ⟨m - 1, by omega⟩
        rw [al, if_neg (fun z => z e), if_neg k1, ← eu, i2 m (by omega), k2]
        rfl
      · obtain ⟨c1, c2, c3⟩ := c (by omega)
        obtain ⟨c4, c5, c6⟩ := c' (by omega)
        have hv := kv (by omega)
        obtain ⟨i3, i4⟩ := ih _ hv (by omega)
        have ev : mV Φ i = mV Ψ i := by omega
        have eu : mU Φ i = mU Ψ i := by rw [← ev, ← i3] at c5; omega
        refine ⟨by rw [c3, c6, i1, eu], fun m hm => ?_⟩
        obtain ⟨m, rfl⟩ : ∃ k, m = k + 1 := ⟨m - 1, by omega⟩
        rw [al, if_neg (fun z => z e), if_neg k1, ← eu, ← ev, i2 m (by omega), i4 m (by omega), Bool.or_true]
        rfl
theorem al_iff {Φ Ψ : FM} (hg : Good Φ) (hg2 : Good Ψ) : alI Φ Ψ 61 (mN Φ - 1) (mN Ψ - 1) = true ↔ mN Φ = mN Ψ ∧ ∀ i, i < mN Φ → mK Φ i = mK Ψ i ∧ wth Φ i = wth Ψ i := by
  obtain ⟨hw, hr, st, hst⟩ := hg
  obtain ⟨hw2, hr2, st', hst'⟩ := hg2
  have w1 := hw.1
  have w2 := hw2.1
  have w60 := hw.2.1
  constructor
  · intro hal
    obtain ⟨e1, e2⟩ := al_seq hw.2.2 hw2.2.2 hst hst' (mN Φ - 1) (by omega) 61 (mN Ψ - 1) (by omega) (by omega) hal
    rw [st_root hw hr hst, st_root hw2 hr2 hst'] at e1 e2
    refine ⟨by omega, fun i hi => ?_⟩
    have := e2 i (by omega)
    rw [Nat.zero_add] at this
    exact this
  · rintro ⟨hN, he⟩
    have := (seq_al hw.2.2 hw2.2.2 hN hst hst' he (mN Φ - 1) (by omega)).2 61 (by omega)
    rw [← hN]; exact this
def eqB (Φ Ψ : FM) (i : Nat) : Bool := decide (mK Φ i = mK Ψ i) && decide (wth Φ i = wth Ψ i)
def allF (b : Nat → Bool) : Nat → Nat → Bool
  | 0, _ => true
  | d + 1, i => b i && allF b d (i + 1)
theorem allF_iff (b : Nat → Bool) : ∀ d i, allF b d i = true ↔ ∀ k, i ≤ k → k < i + d → b k = true := by
  intro d
  induction d with
  | zero => intro i; exact ⟨fun _ k h1 h2 => by omega, fun _ => rfl⟩
  | succ d ih =>
    intro i
    rw [show allF b (d + 1) i = (b i && allF b d (i + 1)) from rfl, Bool.and_eq_true, ih (i + 1)]
    constructor
    · rintro ⟨h1, h2⟩ k h3 h4
      by_cases e : k = i
      · rw [e]; exact h1
      · exact h2 k (by omega) (by omega)
    · intro h
      exact ⟨h i (Nat.le_refl _) (by omega), fun k h1 h2 => h k (by omega) (by omega)⟩
theorem wth_le {Φ : FM} (hw : wfR Φ) {i : Nat} (hi : i < mN Φ) : wth Φ i ≤ 9999 := by
  obtain ⟨k5, ku0, ku1, ku, kv, -⟩ := hw i hi
  unfold wth
  by_cases k1 : mK Φ i ≤ 1
  · rw [if_pos k1]
    by_cases z : mK Φ i = 0
    · have := ku0 z; omega
    · exact ku1 (by omega)
  · rw [if_neg k1]; omega
theorem x_isl {σ : HS} {φ ψ : Nat} {Φ Ψ : FM} (hx : XF σ φ Φ) (hy : XF σ ψ Ψ) (hw : WF Φ) (hw2 : WF Ψ) (hN : mN Φ = mN Ψ) : ∀ d i, i + d = mN Φ → ∀ nf, d < nf → lp_X0_isLike_15 nf φ ψ (nI i) σ = some (if allF (eqB Φ Ψ) d i = true then 1 else 0, σ) := by
  have w60 := hw.2.1
  obtain ⟨ft, hn, hc⟩ := hx
  obtain ⟨ft2, hn2, hc2⟩ := hy
  obtain ⟨f0, f1, ⟨a1, a2, a3⟩, -, -, -, ⟨g1, g2, g3⟩⟩ := ft
  obtain ⟨f0', f1', ⟨a1', a2', a3'⟩, -, -, -, ⟨g1', g2', g3'⟩⟩ := ft2
  have q1 := eq_true f1
  have q2 := eq_true a2
  have q5 := eq_true g2
  have q1' := eq_true f1'
  have q2' := eq_true a2'
  have q5' := eq_true g2'
  intro d
  induction d with
  | zero =>
    intro i hd nf hnf
    obtain ⟨nf, rfl⟩ : ∃ k, nf = k + 1 := ⟨nf - 1, by omega⟩
    have : i = mN Φ := by omega
    subst this
    have le : (nI (mN Φ) ≤ nI (mN Φ)) = True := eq_true (Int32.le_refl _)
    show lp_X0_isLike_15_b (lp_X0_isLike_15 nf) φ ψ (nI (mN Φ)) σ = _
    unfold lp_X0_isLike_15_b
    simp only [chk_p, lt_p, bd_p, bc_p, oc_n, oc_s, and_self, and_true, true_and, if_true, if_false, isO_sA', isO_sB', isO_rA', hlen_sA, hlen_sB, hlen_rA, hR_sA, hR_sB, hR_rA, Typ_sA', Typ_sB', Typ_rA', q1, hn, le]
    rfl
  | succ d ih =>
    intro i hd nf hnf
    obtain ⟨nf, rfl⟩ : ∃ k, nf = k + 1 := ⟨nf - 1, by omega⟩
    have hi : i < mN Φ := by omega
    obtain ⟨c1, c2, c3, c4, c5⟩ := hc i hi
    obtain ⟨d1, d2, d3, d4, d5⟩ := hc2 i (by omega)
    obtain ⟨k5, -⟩ := hw.2.2 i hi
    obtain ⟨l5, -⟩ := hw2.2.2 i (by omega)
    have wl := wth_le hw.2.2 hi
    have wl2 := wth_le hw2.2.2 (show i < mN Ψ by omega)
    rw [show (if mK Φ i ≤ 1 then mU Φ i else 0) = wth Φ i from rfl] at c5
    rw [show (if mK Ψ i ≤ 1 then mU Ψ i else 0) = wth Ψ i from rfl] at d5
    have ib := inbE (i := i) hi (by omega)
    have ib2 := inbE (i := i) (n := mN Ψ) (by omega) (by omega)
    have ci := cl1000 (i := i) (by omega)
    have le := nle (a := mN Φ) (b := i) (by omega) (by omega)
    have ek : (nI (mK Φ i) = nI (mK Ψ i)) = (mK Φ i = mK Ψ i) := nE (by omega) (by omega)
    have ew : (nI (wth Φ i) = nI (wth Ψ i)) = (wth Φ i = wth Ψ i) := propext (nI_eq (by omega) (by omega))
    have g := ih (i + 1) (by omega) nf (by omega)
    rw [show allF (eqB Φ Ψ) (d + 1) i = (eqB Φ Ψ i && allF (eqB Φ Ψ) d (i + 1)) from rfl]
    show lp_X0_isLike_15_b (lp_X0_isLike_15 nf) φ ψ (nI i) σ = _
    unfold lp_X0_isLike_15_b
    by_cases z1 : mK Φ i = mK Ψ i
    · by_cases z2 : wth Φ i = wth Ψ i
      · rw [show eqB Φ Ψ i = true by unfold eqB; rw [decide_eq_true z1, decide_eq_true z2]; rfl, Bool.true_and, ← g]
        simp only [chk_p, lt_p, bd_p, bc_p, oc_n, oc_s, and_self, and_true, true_and, if_true, if_false, isO_sA', isO_sB', isO_rA', hlen_sA, hlen_sB, hlen_rA, hR_sA, hR_sB, hR_rA, Typ_sA', Typ_sB', Typ_rA', q1, q2, q5, q1', q2', q5', a1, a3, g1, g3, a1', a3', g1', g3', hn, le, if_false, ib, ib2, ci, c1, c5, d1, d5, ek.trans (eq_true z1), ew.trans (eq_true z2), nI_s]
      · rw [show eqB Φ Ψ i = false by unfold eqB; rw [decide_eq_false z2, Bool.and_false], Bool.false_and, if_neg (fun z => by cases z)]
        simp only [chk_p, lt_p, bd_p, bc_p, oc_n, oc_s, and_self, and_true, true_and, if_true, if_false, isO_sA', isO_sB', isO_rA', hlen_sA, hlen_sB, hlen_rA, hR_sA, hR_sB, hR_rA, Typ_sA', Typ_sB', Typ_rA', q1, q2, q5, q1', q2', q5', a1, a3, g1, g3, a1', a3', g1', g3', hn, le, if_false, ib, ib2, ci, c1, c5, d1, d5, ek.trans (eq_true z1), ew.trans (eq_false z2)]
    · rw [show eqB Φ Ψ i = false by unfold eqB; rw [decide_eq_false z1, Bool.false_and], Bool.false_and, if_neg (fun z => by cases z)]
      simp only [chk_p, lt_p, bd_p, bc_p, oc_n, oc_s, and_self, and_true, true_and, if_true, if_false, isO_sA', isO_sB', isO_rA', hlen_sA, hlen_sB, hlen_rA, hR_sA, hR_sB, hR_rA, Typ_sA', Typ_sB', Typ_rA', q1, q2, q1', q2', a1, a3, a1', a3', hn, le, if_false, ib, ib2, ci, c1, d1, ek.trans (eq_false z1)]
theorem x_isLike {σ : HS} {φ ψ : Nat} {Φ Ψ : FM} (hx : XF σ φ Φ) (hy : XF σ ψ Ψ) (hg : Good Φ) (hg2 : Good Ψ) : f_X0_isLike φ ψ σ = some (if alI Φ Ψ 61 (mN Φ - 1) (mN Ψ - 1) = true then 1 else 0, σ) := by
  have w60 := hg.1.2.1
  have v60 := hg2.1.2.1
  have q1 := eq_true hx.1.2.1
  have q1' := eq_true hy.1.2.1
  have h1 := hx.2.1
  have h2 := hy.2.1
  have en : (nI (mN Φ) = nI (mN Ψ)) = (mN Φ = mN Ψ) := nE (by omega) (by omega)
  have ai := al_iff hg hg2
  unfold f_X0_isLike
  rw [chk_p hx.1.2.1, h1, lt_p, chk_p hy.1.2.1, h2, lt_p]
  by_cases z : mN Φ = mN Ψ
  · have l := x_isl hx hy hg.1 hg2.1 z (mN Φ) 0 (by omega) 1000 (by omega)
    have af := allF_iff (eqB Φ Ψ) (mN Φ) 0
    have e : (allF (eqB Φ Ψ) (mN Φ) 0 = true) ↔ alI Φ Ψ 61 (mN Φ - 1) (mN Ψ - 1) = true := by
      rw [af, ai]
      constructor
      · intro h
        refine ⟨z, fun i hi => ?_⟩
        have := h i (Nat.zero_le _) (by omega)
        unfold eqB at this
        rw [Bool.and_eq_true] at this
        exact ⟨of_decide_eq_true this.1, of_decide_eq_true this.2⟩
      · rintro ⟨-, h⟩ k - hk
        obtain ⟨e1, e2⟩ := h k (by omega)
        unfold eqB
        rw [decide_eq_true e1, decide_eq_true e2]; rfl
    rw [if_pos (of_eq_true (en.trans (eq_true z))), lt_p, show lp_X0_isLike_15 1000 φ ψ 0 σ = _ from l]
    by_cases c : allF (eqB Φ Ψ) (mN Φ) 0 = true
    · rw [if_pos c, if_pos (e.mp c)]
    · rw [if_neg c, if_neg (fun y => c (e.mpr y))]
  · rw [if_neg (of_eq_false (en.trans (eq_false z))), if_neg (fun y => z (ai.mp y).1)]
theorem op_alike (a b : Int32) : OpOK (f_X5_alike 0 a b) (f_X6_alike 48 a b) := by
  intro σ V S C n FS I
  have t := I.1
  rcases start I a with ⟨k, φ, hk, rfl, ef, hg, hc, hxi, em⟩ | ⟨ef, em⟩
  · have eml := em σ t rfl
    rcases start I b with ⟨l, ψ, hl, rfl, ef2, hg2, hc2, hxi2, em2⟩ | ⟨ef2, em2⟩
    · have eml2 := em2 σ t rfl
      have q1 := hc.2.1.1.2.1
      have il := x_isLike hc.2.1 hc2.2.1 hg hg2
      have w1 := hg.1.1
      have w2 := hg2.1.1
      have w60 := hg.1.2.1
      have v60 := hg2.1.2.1
      have ro := rootOf_ok t hk hc.2.2.1.1 hg.1
      have ro2 := rootOf_ok t hl hc2.2.2.1.1 hg2.1
      have ma : f_X6_areAlike 48 (nI k) (nI (mN (FS k) - 1)) (nI l) (nI (mN (FS l) - 1)) σ = _ := m_al t hk hl hc.2.2.1 hc2.2.2.1 hg.1 hg2.1 64 61 (mN (FS k) - 1) (mN (FS l) - 1) (by omega) (by omega) (by omega) (by omega)
      refine opN I (if alI (FS k) (FS l) 61 (mN (FS k) - 1) (mN (FS l) - 1) = true then 1 else 0) ?_ ?_
      · unfold f_X5_alike
        rw [chk_p (o0 t), ef, bc_p, chk_p (o0 t), ef2, bc_p, oc_s, oc_s, chk_p q1, il, bc_p]
        by_cases c : alI (FS k) (FS l) 61 (mN (FS k) - 1) (mN (FS l) - 1) = true
        · rw [if_pos c, if_neg (by decide)]
        · rw [if_neg c, if_pos rfl]
      · unfold f_X6_alike
        rw [chk_p (o48 t), eml, bc_p, if_neg (by decide), chk_p (o48 t), eml2, bc_p, if_neg (by decide), chk_p (o48 t), ro, bc_p, chk_p (o48 t), ro2, bc_p, chk_p (o48 t), ma, bc_p]
        by_cases c : alI (FS k) (FS l) 61 (mN (FS k) - 1) (mN (FS l) - 1) = true
        · rw [if_pos c, if_neg (by decide)]
        · rw [if_neg c, if_pos rfl]
    · refine opN I (-1) ?_ ?_
      · unfold f_X5_alike
        rw [chk_p (o0 t), ef, bc_p, chk_p (o0 t), ef2, bc_p, oc_s, oc_n]
      · unfold f_X6_alike
        rw [chk_p (o48 t), eml, bc_p, if_neg (by decide), chk_p (o48 t), em2, bc_p, if_pos rfl]
  · obtain ⟨r, er⟩ : ∃ r, f_X5_formulaOf 0 b σ = some (r, σ) := by
      rcases start I b with ⟨l, ψ, hl, rfl, ef2, -⟩ | ⟨ef2, -⟩
      · exact ⟨_, ef2⟩
      · exact ⟨_, ef2⟩
    refine opN I (-1) ?_ ?_
    · unfold f_X5_alike
      rw [chk_p (o0 t), ef, bc_p, chk_p (o0 t), er, bc_p, oc_n]
    · unfold f_X6_alike
      rw [chk_p (o48 t), em, bc_p, if_pos rfl]
