/-! what a formula is worth; exact -/
def pt (v : Nat → Int) (s : Nat) : Int := if s < 6 then v s else 0
def bmix (i : Nat) (v L : Nat → Int) (s : Nat) : Int := if s < i then v s else L s
theorem bmix_up (i : Nat) (v L : Nat → Int) : upI (bmix i v L) i (v i) = bmix (i + 1) v L := by
  funext s
  unfold upI bmix
  by_cases e : s = i
  · subst e; rw [if_pos rfl, if_pos (by omega)]
  · rw [if_neg e]
    by_cases e2 : s < i
    · rw [if_pos e2, if_pos (by omega)]
    · rw [if_neg e2, if_neg (by omega)]
theorem bmix_0 (v L : Nat → Int) : bmix 0 v L = L := by funext s; unfold bmix; rw [if_neg (by omega)]
theorem bmix_6 {v L : Nat → Int} (h : ∀ s, 6 ≤ s → L s = 0) : bmix 6 v L = pt v := by
  funext s; unfold bmix pt
  by_cases e : s < 6
  · rw [if_pos e, if_pos e]
  · rw [if_neg e, if_neg e, h s (by omega)]
theorem LO6 (V S : Nat → Int32) : ∀ s, 6 ≤ s → LO V S s = 0 := fun s hs => by unfold LO; rw [if_neg (by omega)]
theorem HI6 (V S : Nat → Int32) : ∀ s, 6 ≤ s → HI V S s = 0 := fun s hs => by unfold HI; rw [if_neg (by omega)]
def pv (Φ : FM) (v : Nat → Int) (i : Nat) : Int := match SP Φ v v i with | none => 0 | some p => p.1
theorem SP_pt {Φ : FM} {v : Nat → Int} {i : Nat} {p : Int × Int} (e : SP Φ v v i = some p) : p.1 = p.2 := SPI_pt Φ (a := p.1) (b := p.2) e
theorem pv_all {Φ : FM} {v : Nat → Int} {i : Nat} (h : SP Φ v v i ≠ none) : SP Φ v v i = some (pv Φ v i, pv Φ v i) := by
  unfold pv
  cases hx : SP Φ v v i with
  | none => exact absurd hx h
  | some p =>
    have := SP_pt hx
    show some p = some (p.1, p.1)
    rw [show (p.1, p.1) = p from Prod.ext rfl this]
theorem pv_0 {Φ : FM} {v : Nat → Int} {i : Nat} (k : mK Φ i = 0) : pv Φ v i = v (mU Φ i) := by unfold pv; rw [SP_0 k]
theorem pv_1 {Φ : FM} {v : Nat → Int} {i : Nat} (k : mK Φ i = 1) : pv Φ v i = (mU Φ i : Int) := by unfold pv; rw [SP_1 k]
theorem pv_2 {Φ : FM} (hw : wfR Φ) {v : Nat → Int} (ha : ∀ i, i < mN Φ → SP Φ v v i ≠ none) {i : Nat} (hi : i < mN Φ) (k : mK Φ i = 2) : pv Φ v i = -pv Φ v (mU Φ i) ∧ inR (-pv Φ v (mU Φ i)) := by
  have hu := (hw i hi).2.2.2.1 (by omega)
  have e := pv_all (ha i hi)
  rw [SP_2 hw hi k, pv_all (ha _ (by omega))] at e
  obtain ⟨g1, g2, g3⟩ := rg_some (show rg (-pv Φ v (mU Φ i)) (-pv Φ v (mU Φ i)) = some (pv Φ v i, pv Φ v i) from e)
  exact ⟨congrArg Prod.fst g3, g1⟩
theorem pv_3 {Φ : FM} (hw : wfR Φ) {v : Nat → Int} (ha : ∀ i, i < mN Φ → SP Φ v v i ≠ none) {i : Nat} (hi : i < mN Φ) (k : mK Φ i = 3) : pv Φ v i = pv Φ v (mU Φ i) + pv Φ v (mV Φ i) ∧ inR (pv Φ v (mU Φ i) + pv Φ v (mV Φ i)) := by
  have hu := (hw i hi).2.2.2.1 (by omega)
  have hv := (hw i hi).2.2.2.2.1 (by omega)
  have e := pv_all (ha i hi)
  rw [SP_3 hw hi (by omega), pv_all (ha (mU Φ i) (by omega)), pv_all (ha (mV Φ i) (by omega)), k] at e
  obtain ⟨g1, g2, g3⟩ := rg_some (show rg (pv Φ v (mU Φ i) + pv Φ v (mV Φ i)) (pv Φ v (mU Φ i) + pv Φ v (mV Φ i)) = some (pv Φ v i, pv Φ v i) from e)
  exact ⟨congrArg Prod.fst g3, g1⟩
theorem pv_4 {Φ : FM} (hw : wfR Φ) {v : Nat → Int} (ha : ∀ i, i < mN Φ → SP Φ v v i ≠ none) {i : Nat} (hi : i < mN Φ) (k : mK Φ i = 4) : pv Φ v i = pv Φ v (mU Φ i) - pv Φ v (mV Φ i) ∧ inR (pv Φ v (mU Φ i) - pv Φ v (mV Φ i)) := by
  have hu := (hw i hi).2.2.2.1 (by omega)
  have hv := (hw i hi).2.2.2.2.1 (by omega)
  have e := pv_all (ha i hi)
  rw [SP_3 hw hi (by omega), pv_all (ha (mU Φ i) (by omega)), pv_all (ha (mV Φ i) (by omega)), k] at e
  obtain ⟨g1, g2, g3⟩ := rg_some (show rg (pv Φ v (mU Φ i) - pv Φ v (mV Φ i)) (pv Φ v (mU Φ i) - pv Φ v (mV Φ i)) = some (pv Φ v i, pv Φ v i) from e)
  exact ⟨congrArg Prod.fst g3, g1⟩
theorem pv_5 {Φ : FM} (hw : wfR Φ) {v : Nat → Int} (ha : ∀ i, i < mN Φ → SP Φ v v i ≠ none) {i : Nat} (hi : i < mN Φ) (k : mK Φ i = 5) : pv Φ v i = pv Φ v (mU Φ i) * pv Φ v (mV Φ i) ∧ inR (pv Φ v (mU Φ i) * pv Φ v (mV Φ i)) := by
  have hu := (hw i hi).2.2.2.1 (by omega)
  have hv := (hw i hi).2.2.2.2.1 (by omega)
  have e := pv_all (ha i hi)
  rw [SP_3 hw hi (by omega), pv_all (ha (mU Φ i) (by omega)), pv_all (ha (mV Φ i) (by omega)), k] at e
  obtain ⟨⟨g1, -⟩, g3⟩ := pr4_some (show pr4 (pv Φ v (mU Φ i)) (pv Φ v (mU Φ i)) (pv Φ v (mV Φ i)) (pv Φ v (mV Φ i)) = some (pv Φ v i, pv Φ v i) from e)
  refine ⟨(congrArg Prod.fst g3).trans ?_, g1⟩
  show mn4 _ _ _ _ = _
  unfold mn4
  omega
def AtV (σ : HS) (v : Nat → Int) : Prop := ∀ s, s < 6 → (hA σ 27 s).toInt = v s
theorem worthOfPart_ok {σ : HS} (h : Typ σ) {φ : Nat} {Φ : FM} (hx : XF σ φ Φ) (hw : WF Φ) {v : Nat → Int} (hv : AtV σ v) (ha : ∀ i, i < mN Φ → SP Φ v v i ≠ none) {i : Nat} (hi : i < mN Φ) (ih : ∀ j, j < i → (hB σ 40 j).toInt = pv Φ v j) :
    ∃ r, f_X4_worthOfPart 24 φ (nI i) σ = some (r, σ) ∧ r.toInt = pv Φ v i := by
  obtain ⟨ft, hn, hc⟩ := hx
  obtain ⟨c1, c2, c3, c4, c5⟩ := hc i hi
  obtain ⟨w0, w60, wr⟩ := hw
  obtain ⟨k5, ku0, ku1, ku, kv, kv0, kp⟩ := wr i hi
  obtain ⟨f0, f1, ⟨a1, a2, a3⟩, -, ⟨d1, d2, d3⟩, ⟨e1, e2, e3⟩, ⟨g1, g2, g3⟩⟩ := ft
  have ib := inbE (i := i) hi (by omega)
  have ci := cl1000 (i := i) (by omega)
  have q1 := eq_true f1
  have q2 := eq_true a2
  have q3 := eq_true d2
  have q4 := eq_true e2
  have q5 := eq_true g2
  unfold f_X4_worthOfPart
  simp only [chk_p, lt_p, bd_p, bc_p, oc_n, oc_s, and_self, and_true, true_and, if_true, if_false, isO_sA', isO_sB', isO_rA', hlen_sA, hlen_sB, hlen_rA, hR_sA, hR_sB, hR_rA, Typ_sA', Typ_sB', Typ_rA', O24, r24_0, r24_1, r24_5, r24_6, r24_7, r24_8, r24_9, h, q1, q2, q3, q4, q5, a1, a3, d1, d3, e1, e3, g1, g3, ib, ci, c1, c3, c4, c5]
  have h6 : mK Φ i = 0 ∨ mK Φ i = 1 ∨ mK Φ i = 2 ∨ mK Φ i = 3 ∨ mK Φ i = 4 ∨ mK Φ i = 5 := by omega
  rcases h6 with k | k | k | k | k | k
  · have hu := ku0 k
    have iu := inbE (i := mU Φ i) (n := 6) hu (by omega)
    have cu := cl1000 (i := mU Φ i) (by omega)
    simp (decide := true) only [k, if_true, chk_p, lt_p, bd_p, bc_p, oc_n, oc_s, and_self, and_true, true_and, if_true, if_false, isO_sA', isO_sB', isO_rA', hlen_sA, hlen_sB, hlen_rA, hR_sA, hR_sB, hR_rA, Typ_sA', Typ_sB', Typ_rA', O27, l27, h, iu, cu]
    exact ⟨_, rfl, by rw [Int32.toInt_toInt64, hv _ hu, pv_0 k]⟩
  · have hu := ku1 k
    simp (decide := true) only [k, if_true, if_false]
    exact ⟨_, rfl, by rw [Int32.toInt_toInt64, pv_1 k]; exact nI_big (by omega)⟩
  · have hu := ku (by omega)
    have iu := inbE (i := mU Φ i) (n := 60) (by omega) (by omega)
    have cu := cl1000 (i := mU Φ i) (by omega)
    obtain ⟨p1, p2⟩ := pv_2 wr ha hi k
    simp (decide := true) only [k, if_true, if_false, chk_p, lt_p, bd_p, bc_p, oc_n, oc_s, and_self, and_true, true_and, if_true, if_false, isO_sA', isO_sB', isO_rA', hlen_sA, hlen_sB, hlen_rA, hR_sA, hR_sB, hR_rA, Typ_sA', Typ_sB', Typ_rA', O40, l40, h, iu, cu]
    exact ⟨_, rfl, by rw [l_neg (by rw [ih _ hu]; exact p2), ih _ hu, p1]⟩
  · have hu := ku (by omega)
    have hv' := kv (by omega)
    have iu := inbE (i := mU Φ i) (n := 60) (by omega) (by omega)
    have cu := cl1000 (i := mU Φ i) (by omega)
    have iv := inbE (i := mV Φ i) (n := 60) (by omega) (by omega)
    have cv := cl1000 (i := mV Φ i) (by omega)
    obtain ⟨p1, p2⟩ := pv_3 wr ha hi k
    simp (decide := true) only [k, if_true, if_false, chk_p, lt_p, bd_p, bc_p, oc_n, oc_s, and_self, and_true, true_and, if_true, if_false, isO_sA', isO_sB', isO_rA', hlen_sA, hlen_sB, hlen_rA, hR_sA, hR_sB, hR_rA, Typ_sA', Typ_sB', Typ_rA', O40, l40, h, iu, cu, iv, cv]
    exact ⟨_, rfl, by rw [l_add (by rw [ih _ hu, ih _ hv']; exact p2), ih _ hu, ih _ hv', p1]⟩
  · have hu := ku (by omega)
    have hv' := kv (by omega)
    have iu := inbE (i := mU Φ i) (n := 60) (by omega) (by omega)
    have cu := cl1000 (i := mU Φ i) (by omega)
    have iv := inbE (i := mV Φ i) (n := 60) (by omega) (by omega)
    have cv := cl1000 (i := mV Φ i) (by omega)
    obtain ⟨p1, p2⟩ := pv_4 wr ha hi k
    simp (decide := true) only [k, if_true, if_false, chk_p, lt_p, bd_p, bc_p, oc_n, oc_s, and_self, and_true, true_and, if_true, if_false, isO_sA', isO_sB', isO_rA', hlen_sA, hlen_sB, hlen_rA, hR_sA, hR_sB, hR_rA, Typ_sA', Typ_sB', Typ_rA', O40, l40, h, iu, cu, iv, cv]
    exact ⟨_, rfl, by rw [l_sub (by rw [ih _ hu, ih _ hv']; exact p2), ih _ hu, ih _ hv', p1]⟩
  · have hu := ku (by omega)
    have hv' := kv (by omega)
    have iu := inbE (i := mU Φ i) (n := 60) (by omega) (by omega)
    have cu := cl1000 (i := mU Φ i) (by omega)
    have iv := inbE (i := mV Φ i) (n := 60) (by omega) (by omega)
    have cv := cl1000 (i := mV Φ i) (by omega)
    obtain ⟨p1, p2⟩ := pv_5 wr ha hi k
    simp (decide := true) only [k, if_true, if_false, chk_p, lt_p, bd_p, bc_p, oc_n, oc_s, and_self, and_true, true_and, if_true, if_false, isO_sA', isO_sB', isO_rA', hlen_sA, hlen_sB, hlen_rA, hR_sA, hR_sB, hR_rA, Typ_sA', Typ_sB', Typ_rA', O40, l40, h, iu, cu, iv, cv]
    exact ⟨_, rfl, by rw [l_mul (by rw [ih _ hu, ih _ hv']; exact p2), ih _ hu, ih _ hv', p1]⟩
theorem worthOf_lp {φ : Nat} {Φ : FM} (hw : WF Φ) {v : Nat → Int} (ha : ∀ i, i < mN Φ → SP Φ v v i ≠ none) : ∀ (d i : Nat) (σ : HS), Typ σ → XF σ φ Φ → AtV σ v → i + d = mN Φ → (∀ j, j < i → (hB σ 40 j).toInt = pv Φ v j) → ∀ nf, d < nf →
    ∃ r σ', lp_X4_worthOf_2 nf 24 φ (nI i) σ = some (r, σ') ∧ r.toInt = pv Φ v (mN Φ - 1) ∧ Fr [40] σ σ' := by
  intro d
  induction d with
  | zero =>
    intro i σ t hx hv hi hb nf hnf
    obtain ⟨nf, rfl⟩ : ∃ k, nf = k + 1 := ⟨nf - 1, by omega⟩
    obtain ⟨m, hm⟩ : ∃ m, mN Φ = m + 1 := ⟨mN Φ - 1, by have := hw.1; omega⟩
    have : i = m + 1 := by omega
    subst this
    have w60 := hw.2.1
    have im := inbE (i := m) (n := 60) (by omega) (by omega)
    have cm := cl1000 (i := m) (by omega)
    have q0 := eq_true hx.1.2.1
    have hn := hx.2.1
    rw [hm] at hn
    have le : (nI (m + 1) ≤ nI (m + 1)) = True := eq_true (Int32.le_refl _)
    refine ⟨hB σ 40 m, σ, ?_, by rw [hm, Nat.add_sub_cancel]; exact hb m (by omega), Fr.rf⟩
    show lp_X4_worthOf_2_b (lp_X4_worthOf_2 nf) 24 φ (nI (m + 1)) σ = _
    unfold lp_X4_worthOf_2_b
    simp only [chk_p, lt_p, bd_p, bc_p, oc_n, oc_s, and_self, and_true, true_and, if_true, if_false, isO_sA', isO_sB', isO_rA', hlen_sA, hlen_sB, hlen_rA, hR_sA, hR_sB, hR_rA, Typ_sA', Typ_sB', Typ_rA', O24, r24_0, r24_1, r24_5, r24_6, r24_7, r24_8, r24_9, O40, l40, t, q0, hn, le, nI_pred, im, cm]
  | succ d ih =>
    intro i σ t hx hv hi hb nf hnf
    obtain ⟨nf, rfl⟩ : ∃ k, nf = k + 1 := ⟨nf - 1, by omega⟩
    have w60 := hw.2.1
    obtain ⟨r, e, er⟩ := worthOfPart_ok t hx hw hv ha (i := i) (by omega) hb
    have fr : Fr [40] σ (sB σ 40 i r) := Fr_sB (by simp)
    obtain ⟨r', σ', e1, e2, e3⟩ := ih (i + 1) (sB σ 40 i r) t (hx.fr fr (by decide)) (fun s hs => hv s hs) (by omega) (fun j hj => by
      rw [hB_sB]
      by_cases z : j = i
      · rw [if_pos ⟨rfl, z⟩, z]; exact er
      · rw [if_neg (fun y => z y.2)]; exact hb j (by omega)) nf (by omega)
    refine ⟨r', σ', ?_, e2, fr.seq e3⟩
    have q0 := eq_true hx.1.2.1
    have hn := hx.2.1
    have le := nle (a := mN Φ) (b := i) (by omega) (by omega)
    have ie := inbE (i := i) (n := 60) (by omega) (by omega)
    have ci := cl1000 (i := i) (by omega)
    show lp_X4_worthOf_2_b (lp_X4_worthOf_2 nf) 24 φ (nI i) σ = _
    unfold lp_X4_worthOf_2_b
    simp only [chk_p, lt_p, bd_p, bc_p, oc_n, oc_s, and_self, and_true, true_and, if_true, if_false, isO_sA', isO_sB', isO_rA', hlen_sA, hlen_sB, hlen_rA, hR_sA, hR_sB, hR_rA, Typ_sA', Typ_sB', Typ_rA', O24, r24_0, r24_1, r24_5, r24_6, r24_7, r24_8, r24_9, O40, l40, t, q0, hn, le, if_false, e, ie, ci, nI_s, e1]
theorem c_worth {σ : HS} {φ f : Nat} {Φ : FM} {V S C : Nat → Int32} (hw : WF Φ) (h : CS σ φ f Φ V S C) {v : Nat → Int} (hv : AtV σ v) (ha : ∀ i, i < mN Φ → SP Φ v v i ≠ none) : ∃ σ', f_X4_worthOf 24 φ σ = some (Int64.ofInt (pv Φ v (mN Φ - 1)), σ') ∧ Kp σ σ' ∧ CS σ' φ f Φ V S C ∧ Fr [40] σ σ' := by
  have w60 := hw.2.1
  obtain ⟨r, σ', e1, e2, e3⟩ := worthOf_lp hw ha (mN Φ) 0 σ h.1 h.2.1 hv (by omega) (fun j hj => by omega) 1000 (by omega)
  have k : Kp σ σ' := e3.kp (by decide)
  refine ⟨σ', ?_, k, h.kp k, e3⟩
  rw [ofI_eq e2]; exact e1
theorem pt_some {Φ : FM} (hg : Good Φ) {V S : Nat → Int32} (hx : RT Φ (LO V S) (HI V S) ≠ none) {v : Nat → Int} (hv : ∀ s, s < 6 → LO V S s ≤ v s ∧ v s ≤ HI V S s) : ∀ i, i < mN Φ → SP Φ (pt v) (pt v) i ≠ none := fun i hi => by
  obtain ⟨p, hp⟩ := Option.ne_none_iff_exists'.mp (all_some hg hx (mN Φ - 1 - i) i (by omega))
  obtain ⟨a, b, e, -⟩ := SP_nar (Φ := Φ) (L := LO V S) (H := HI V S) (L' := pt v) (H' := pt v) (fun s => by
    by_cases hs : s < 6
    · obtain ⟨h1, h2⟩ := hv s hs
      unfold pt; rw [if_pos hs]; exact ⟨h1, Int.le_refl _, h2⟩
    · unfold pt; rw [if_neg hs, LO6 V S s (by omega), HI6 V S s (by omega)]; exact ⟨Int.le_refl _, Int.le_refl _, Int.le_refl _⟩) i p.1 p.2 hp
  rw [e]; exact fun z => by cases z
/-- the reference at a point -/
theorem m_pt {σ : HS} {φ f : Nat} {Φ : FM} {V S C : Nat → Int32} (hf : f < 7) (hw : WF Φ) (h : CS σ φ f Φ V S C) {v : Nat → Int} (hb : BxM σ v v) (ha : ∀ i, i < mN Φ → SP Φ v v i ≠ none) : ∃ r σ', f_X6_spans 48 (nI f) σ = some (r, σ') ∧ Kp σ σ' ∧ CS σ' φ f Φ V S C ∧ BxM σ' v v ∧ f_X6_lowOf 48 (nI f) σ' = some (Int64.ofInt (pv Φ v (mN Φ - 1)), σ') := by
  have w1 := hw.1
  obtain ⟨σ', z1, z2, z3, z4, z5, z6⟩ := m_spans hf hw h hb
  refine ⟨_, σ', z1, z2, z3, z5, ?_⟩
  have rt := z4 (mN Φ - 1) (by omega)
  rw [pv_all (ha _ (by omega))] at rt
  rw [m_lo hf hw z3, ofI_eq rt.2.1]
theorem x_exact {φ f : Nat} {Φ : FM} {V S C : Nat → Int32} (hw : WF Φ) (ha : ∀ i, i < mN Φ → SP Φ (pt (fun s => (V s).toInt)) (pt (fun s => (V s).toInt)) i ≠ none) (a : Int32) : ∀ d i (σ : HS), CS σ φ f Φ V S C → (∀ s, s < i → hA σ 27 s = V s) → i + d = 6 → ∀ nf, d < nf → ∃ σ', lp_X5_exact_35 nf 0 a φ (nI i) σ = some (Int64.ofInt (pv Φ (pt (fun s => (V s).toInt)) (mN Φ - 1)), σ') ∧ Kp σ σ' := by
  intro d
  induction d with
  | zero =>
    intro i σ h hat hi nf hnf
    obtain ⟨nf, rfl⟩ : ∃ k, nf = k + 1 := ⟨nf - 1, by omega⟩
    have : i = 6 := by omega
    subst this
    obtain ⟨σ', e1, e2, -⟩ := c_worth hw h (v := pt (fun s => (V s).toInt)) (fun s hs => by rw [hat s hs]; unfold pt; rw [if_pos hs]) ha
    refine ⟨σ', ?_, e2⟩
    have t := h.1
    show lp_X5_exact_35_b (lp_X5_exact_35 nf) 0 a φ (nI 6) σ = _
    unfold lp_X5_exact_35_b
    rw [if_pos (by decide)]
    simp only [chk_p, lt_p, bd_p, bc_p, oc_n, oc_s, and_self, and_true, true_and, if_true, if_false, isO_sA', isO_sB', isO_rA', hlen_sA, hlen_sB, hlen_rA, hR_sA, hR_sB, hR_rA, Typ_sA', Typ_sB', Typ_rA', O0, r0_0, r0_1, r0_3, r0_4, r0_5, r0_6, r0_7, O24, r24_0, r24_1, r24_5, r24_6, r24_7, r24_8, r24_9, t, e1]
  | succ d ih =>
    intro i σ h hat hi nf hnf
    obtain ⟨nf, rfl⟩ : ∃ k, nf = k + 1 := ⟨nf - 1, by omega⟩
    have t := h.1
    have fr : Fr [27] σ (sA σ 27 i (V i)) := Fr_sA (by simp)
    have k : Kp σ (sA σ 27 i (V i)) := fr.kp (by decide)
    obtain ⟨σ', e1, e2⟩ := ih (i + 1) (sA σ 27 i (V i)) (h.kp k) (fun s hs => by
      rw [hA_sA]
      by_cases z : s = i
      · rw [if_pos ⟨rfl, z⟩, z]
      · rw [if_neg (fun y => z y.2)]; exact hat s (by omega)) (by omega) nf (by omega)
    refine ⟨σ', ?_, k.seq e2⟩
    have le : (6 : Int32) ≤ nI i ↔ False := by rw [show (6 : Int32) = nI 6 from rfl, nle (a := 6) (b := i) (by omega) (by omega)]
    have le := eq_false (fun z => le.mp z)
    have ie := inbE (i := i) (n := 6) (by omega) (by omega)
    have ci := cl1000 (i := i) (by omega)
    have v := (cs_val h (show i < 6 by omega)).1
    show lp_X5_exact_35_b (lp_X5_exact_35 nf) 0 a φ (nI i) σ = _
    unfold lp_X5_exact_35_b
    simp only [chk_p, lt_p, bd_p, bc_p, oc_n, oc_s, and_self, and_true, true_and, if_true, if_false, isO_sA', isO_sB', isO_rA', hlen_sA, hlen_sB, hlen_rA, hR_sA, hR_sB, hR_rA, Typ_sA', Typ_sB', Typ_rA', O0, r0_0, r0_1, r0_3, r0_4, r0_5, r0_6, r0_7, O1, r1_0, r1_1, r1_2, r1_3, r1_5, r1_6, r1_7, O2, l2, O24, r24_0, r24_1, r24_5, r24_6, r24_7, r24_8, r24_9, O27, l27, t, le, if_false, ie, ci, v, nI_s, e1]
theorem m_exact {φ f : Nat} {Φ : FM} {V S C : Nat → Int32} (hf : f < 7) (hw : WF Φ) (ha : ∀ i, i < mN Φ → SP Φ (pt (fun s => (V s).toInt)) (pt (fun s => (V s).toInt)) i ≠ none) : ∀ d i (σ : HS), CS σ φ f Φ V S C → BxM σ (bmix i (fun s => (V s).toInt) (LO V S)) (bmix i (fun s => (V s).toInt) (HI V S)) → i + d = 6 → ∀ nf, d < nf → ∃ σ', lp_X6_exact_26 nf 48 (nI f) (nI i) σ = some (Int64.ofInt (pv Φ (pt (fun s => (V s).toInt)) (mN Φ - 1)), σ') ∧ Kp σ σ' := by
  intro d
  induction d with
  | zero =>
    intro i σ h hb hi nf hnf
    obtain ⟨nf, rfl⟩ : ∃ k, nf = k + 1 := ⟨nf - 1, by omega⟩
    have : i = 6 := by omega
    subst this
    rw [bmix_6 (LO6 V S), bmix_6 (HI6 V S)] at hb
    obtain ⟨r, σ', e1, e2, e3, e4, e5⟩ := m_pt hf hw h hb ha
    refine ⟨σ', ?_, e2⟩
    have t := h.1
    have t1 := e3.1
    show lp_X6_exact_26_b (lp_X6_exact_26 nf) 48 (nI f) (nI 6) σ = _
    unfold lp_X6_exact_26_b
    rw [if_pos (by decide)]
    simp only [chk_p, lt_p, bd_p, bc_p, oc_n, oc_s, and_self, and_true, true_and, if_true, if_false, isO_sA', isO_sB', isO_rA', hlen_sA, hlen_sB, hlen_rA, hR_sA, hR_sB, hR_rA, Typ_sA', Typ_sB', Typ_rA', O48, r48_0, r48_1, r48_2, r48_3, r48_4, r48_5, r48_6, r48_8, r48_9, r48_10, r48_11, r48_12, r48_15, r48_21, r48_22, r48_23, r48_24, r48_25, r48_28, r48_30, r48_31, r48_32, r48_35, r48_37, r48_39, r48_40, r48_41, t, t1, e1, e5]
  | succ d ih =>
    intro i σ h hb hi nf hnf
    obtain ⟨nf, rfl⟩ : ∃ k, nf = k + 1 := ⟨nf - 1, by omega⟩
    have t := h.1
    obtain ⟨l1, l2, l3⟩ := m_laysPoint t hb (show i < 6 by omega) (a := V i)
    have k := l3.kp (by decide)
    rw [bmix_up i (fun s => (V s).toInt), bmix_up i (fun s => (V s).toInt)] at l2
    obtain ⟨σ', e1, e2⟩ := ih (i + 1) _ (h.kp k) l2 (by omega) nf (by omega)
    refine ⟨σ', ?_, k.seq e2⟩
    have le : (6 : Int32) ≤ nI i ↔ False := by rw [show (6 : Int32) = nI 6 from rfl, nle (a := 6) (b := i) (by omega) (by omega)]
    have le := eq_false (fun z => le.mp z)
    show lp_X6_exact_26_b (lp_X6_exact_26 nf) 48 (nI f) (nI i) σ = _
    unfold lp_X6_exact_26_b
    simp only [chk_p, lt_p, bd_p, bc_p, oc_n, oc_s, and_self, and_true, true_and, if_true, if_false, isO_sA', isO_sB', isO_rA', hlen_sA, hlen_sB, hlen_rA, hR_sA, hR_sB, hR_rA, Typ_sA', Typ_sB', Typ_rA', O48, r48_0, r48_1, r48_2, r48_3, r48_4, r48_5, r48_6, r48_8, r48_9, r48_10, r48_11, r48_12, r48_15, r48_21, r48_22, r48_23, r48_24, r48_25, r48_28, r48_30, r48_31, r48_32, r48_35, r48_37, r48_39, r48_40, r48_41, t, le, if_false, m_val h (show i < 6 by omega), l1, nI_s, e1]
theorem op_exact (a : Int32) : OpOK (f_X5_exact 0 a) (f_X6_exact 48 a) := by
  intro σ V S C n FS I
  have t := I.1
  rcases start I a with ⟨k, φ, hk, rfl, ef, hg, hc, -, em⟩ | ⟨ef, em⟩
  · obtain ⟨σ1, x1, x2, x3, x4, x5, x6⟩ := c_now hg.1 hc
    have t1 := x3.1
    have eml := em σ1 t1 x2.k7
    have xo := th_over x5
    by_cases hx : RT (FS k) (LO V S) (HI V S) = none
    · obtain ⟨σ2, z1, z2, z3, z4, z5, z6⟩ := m_now hk hg.1 x3
      rw [hx] at xo z1
      have xo' : hA σ1 24 2 = 1 := xo
      refine opQ I ⟨-9223372036854775807, σ1, σ2, ?_, x2, ?_, z2⟩
      · unfold f_X5_exact
        simp only [chk_p, lt_p, bd_p, bc_p, oc_n, oc_s, and_self, and_true, true_and, if_true, if_false, isO_sA', isO_sB', isO_rA', hlen_sA, hlen_sB, hlen_rA, hR_sA, hR_sB, hR_rA, Typ_sA', Typ_sB', Typ_rA', O0, r0_0, r0_1, r0_3, r0_4, r0_5, r0_6, r0_7, O24, r24_0, r24_1, r24_5, r24_6, r24_7, r24_8, r24_9, t, t1, ef, x1, xo', beq1, if_false]
      · unfold f_X6_exact
        simp only [chk_p, lt_p, bd_p, bc_p, oc_n, oc_s, and_self, and_true, true_and, if_true, if_false, isO_sA', isO_sB', isO_rA', hlen_sA, hlen_sB, hlen_rA, hR_sA, hR_sB, hR_rA, Typ_sA', Typ_sB', Typ_rA', O48, r48_0, r48_1, r48_2, r48_3, r48_4, r48_5, r48_6, r48_8, r48_9, r48_10, r48_11, r48_12, r48_15, r48_21, r48_22, r48_23, r48_24, r48_25, r48_28, r48_30, r48_31, r48_32, r48_35, r48_37, r48_39, r48_40, r48_41, t1, eml, beq1, if_false, z1, rc]
    · obtain ⟨p, hp⟩ := Option.ne_none_iff_exists'.mp hx
      have ha := pt_some hg hx (v := fun s => (V s).toInt) (fun s hs => by
        have v := cs_val hc hs
        obtain ⟨-, -, -, -, -, -, -, v2, -⟩ := v
        unfold LO HI; rw [if_pos hs, if_pos hs]
        show (V s).toInt - _ ≤ (V s).toInt ∧ (V s).toInt ≤ _
        omega)
      obtain ⟨σ2, u1, u2⟩ := x_exact (f := k) (C := C) hg.1 ha (nI k) 6 0 σ1 x3 (fun s hs => by omega) (by omega) 1000 (by omega)
      have c2 := x3.kp u2
      obtain ⟨σ3, z1, z2, z3, z4, z5, z6⟩ := m_now hk hg.1 c2
      obtain ⟨σ4, y1, y2⟩ := m_exact hk hg.1 ha 6 0 σ3 z3 (by rw [bmix_0, bmix_0]; exact z5) (by omega) 1000 (by omega)
      rw [hp] at z1 x5
      have xo' : hA σ1 24 2 = 0 := x5.1
      have t2 := c2.1
      have t3 := z3.1
      refine opQ I ⟨Int64.ofInt (pv (FS k) (pt (fun s => (V s).toInt)) (mN (FS k) - 1)), σ2, σ4, ?_, x2.seq u2, ?_, z2.seq y2⟩
      · unfold f_X5_exact
        simp only [chk_p, lt_p, bd_p, bc_p, oc_n, oc_s, and_self, and_true, true_and, if_true, if_false, isO_sA', isO_sB', isO_rA', hlen_sA, hlen_sB, hlen_rA, hR_sA, hR_sB, hR_rA, Typ_sA', Typ_sB', Typ_rA', O0, r0_0, r0_1, r0_3, r0_4, r0_5, r0_6, r0_7, O24, r24_0, r24_1, r24_5, r24_6, r24_7, r24_8, r24_9, t, t1, ef, x1, xo']
        exact u1
      · unfold f_X6_exact
        simp only [chk_p, lt_p, bd_p, bc_p, oc_n, oc_s, and_self, and_true, true_and, if_true, if_false, isO_sA', isO_sB', isO_rA', hlen_sA, hlen_sB, hlen_rA, hR_sA, hR_sB, hR_rA, Typ_sA', Typ_sB', Typ_rA', O48, r48_0, r48_1, r48_2, r48_3, r48_4, r48_5, r48_6, r48_8, r48_9, r48_10, r48_11, r48_12, r48_15, r48_21, r48_22, r48_23, r48_24, r48_25, r48_28, r48_30, r48_31, r48_32, r48_35, r48_37, r48_39, r48_40, r48_41, t2, t3, em σ2 t2 (x2.seq u2).k7, beq1, if_false, z1, rc]
        exact y1
  · refine opN I (-9223372036854775808) ?_ ?_
    · unfold f_X5_exact
      simp only [chk_p, lt_p, bd_p, bc_p, oc_n, oc_s, and_self, and_true, true_and, if_true, if_false, isO_sA', isO_sB', isO_rA', hlen_sA, hlen_sB, hlen_rA, hR_sA, hR_sB, hR_rA, Typ_sA', Typ_sB', Typ_rA', O0, r0_0, r0_1, r0_3, r0_4, r0_5, r0_6, r0_7, t, ef]
    · unfold f_X6_exact
      simp only [chk_p, lt_p, bd_p, bc_p, oc_n, oc_s, and_self, and_true, true_and, if_true, if_false, isO_sA', isO_sB', isO_rA', hlen_sA, hlen_sB, hlen_rA, hR_sA, hR_sB, hR_rA, Typ_sA', Typ_sB', Typ_rA', O48, r48_0, r48_1, r48_2, r48_3, r48_4, r48_5, r48_6, r48_8, r48_9, r48_10, r48_11, r48_12, r48_15, r48_21, r48_22, r48_23, r48_24, r48_25, r48_28, r48_30, r48_31, r48_32, r48_35, r48_37, r48_39, r48_40, r48_41, t, em]
