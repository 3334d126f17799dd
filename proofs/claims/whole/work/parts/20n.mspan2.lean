/-- the reference's rows of a formula -/
def MF (σ : HS) (f : Nat) (Φ : FM) : Prop := hA σ 55 f = nI (mN Φ) ∧ ∀ i, i < mN Φ → hA σ 51 (60 * f + i) = nI (mK Φ i) ∧ hA σ 52 (60 * f + i) = nI (mU Φ i) ∧ hA σ 53 (60 * f + i) = nI (mV Φ i) ∧ hA σ 54 (60 * f + i) = nI (mP Φ i)
def BxM (σ : HS) (L H : Nat → Int) : Prop := (∀ s, L s ≤ H s) ∧ ∀ s, s < 6 → (hA σ 62 s).toInt = L s ∧ (hA σ 63 s).toInt = H s
theorem MF.mf {S : List Nat} {σ σ' : HS} {f : Nat} {Φ : FM} (h : MF σ f Φ) (hf : Mf S σ σ') (h1 : 51 ∉ S) (h2 : 52 ∉ S) (h3 : 53 ∉ S) (h4 : 54 ∉ S) (h5 : 55 ∉ S) : MF σ' f Φ := by
  have g : ∀ j, j ∉ S → j ≠ 48 → ∀ k, hA σ' j k = hA σ j k := fun j hj h48 k => hf.A (fun z => by
    rcases List.mem_cons.mp z with z | z
    · exact h48 z
    · exact hj z) k
  refine ⟨(g 55 h5 (by decide) _).trans h.1, fun i hi => ?_⟩
  obtain ⟨a, b, c, d⟩ := h.2 i hi
  exact ⟨(g 51 h1 (by decide) _).trans a, (g 52 h2 (by decide) _).trans b, (g 53 h3 (by decide) _).trans c, (g 54 h4 (by decide) _).trans d⟩
theorem BxM.mf {S : List Nat} {σ σ' : HS} {L H : Nat → Int} (h : BxM σ L H) (hf : Mf S σ σ') (h1 : 62 ∉ 48 :: S) (h2 : 63 ∉ 48 :: S) : BxM σ' L H := ⟨h.1, fun s hs => by rw [hf.A h1, hf.A h2]; exact h.2 s hs⟩
theorem nI_mul60 (f : Nat) : (60 : Int32) * nI f = nI (60 * f) := by
  show Int32.ofNat 60 * Int32.ofNat f = Int32.ofNat (60 * f)
  rw [Int32.ofNat_mul]
theorem nI_plus (a b : Nat) : nI a + nI b = nI (a + b) := by
  show Int32.ofNat a + Int32.ofNat b = Int32.ofNat (a + b)
  rw [Int32.ofNat_add]
theorem at_ok (f i : Nat) (σ : HS) : f_X6_at (nI f) (nI i) σ = some (nI (60 * f + i), σ) := by
  unfold f_X6_at; rw [nI_mul60, nI_plus]
theorem rep63 {σ σ' : HS} {j : Nat} {x : Option (Int × Int)} (h : Rep σ 63 j x) (e1 : hB σ' 64 j = hB σ 64 j) (e2 : hB σ' 65 j = hB σ 65 j) (e3 : hA σ' 66 j = hA σ 66 j) : Rep σ' 63 j x := by
  cases x with
  | none => exact e3.trans h
  | some p =>
    obtain ⟨a1, a2, a3, a4⟩ := h
    exact ⟨e3.trans a1, (congrArg Int64.toInt e1).trans a2, (congrArg Int64.toInt e2).trans a3, a4⟩
theorem nle {a b : Nat} (h : b < a) (ha : a < 1000) : (nI a ≤ nI b) = False := eq_false (by rw [nI_leI (by omega) (by omega)]; omega)
theorem nE {a b : Nat} (h : a < 1000) (hb : b < 1000) : (nI a = nI b) = (a = b) := propext ⟨fun z => by have := congrArg Int32.toInt z; rw [nI_toInt (by omega), nI_toInt (by omega)] at this; omega, fun z => by rw [z]⟩
/-- a place of the reference's spans written -/
theorem fin3 (σ : HS) (i : Nat) (v u : Int32) (lo hi : Int64) : Mf [64, 65, 66] σ (sA (sB (sB (sA σ 48 20 v) 64 i lo) 65 i hi) 66 i u) ∧ hA (sA (sB (sB (sA σ 48 20 v) 64 i lo) 65 i hi) 66 i u) 66 i = u ∧ hB (sA (sB (sB (sA σ 48 20 v) 64 i lo) 65 i hi) 66 i u) 64 i = lo ∧ hB (sA (sB (sB (sA σ 48 20 v) 64 i lo) 65 i hi) 66 i u) 65 i = hi ∧ ∀ j x, j ≠ i → Rep σ 63 j x → Rep (sA (sB (sB (sA σ 48 20 v) 64 i lo) 65 i hi) 66 i u) 63 j x := by
  refine ⟨(((Mf_s (by decide) (by decide)).seq (Mf_sB (by simp) (by decide))).seq (Mf_sB (by simp) (by decide))).seq (Mf_sA (by simp) (by decide)), ?_, ?_, ?_, fun j x nj hr => rep63 hr ?_ ?_ ?_⟩
  · simp only [hA_sA, hA_sB, hA_rA, hB_sA, hB_sB, hB_rA, and_self, if_true]
  · simp only [hA_sA, hA_sB, hA_rA, hB_sA, hB_sB, hB_rA, and_self, if_true, show ¬ (64 = 65) by decide, false_and, if_false]
  · simp only [hA_sA, hA_sB, hA_rA, hB_sA, hB_sB, hB_rA, and_self, if_true]
  · simp only [hA_sA, hA_sB, hA_rA, hB_sA, hB_sB, hB_rA, nj, and_false, if_false]
  · simp only [hA_sA, hA_sB, hA_rA, hB_sA, hB_sB, hB_rA, nj, and_false, if_false]
  · simp only [hA_sA, hA_sB, hA_rA, hB_sA, hB_sB, hB_rA, nj, and_false, if_false, show ¬ (66 = 48) by decide, false_and]
theorem mspan_0 (K : Nat → Int32 → Int32 → HS → Option (Int32 × HS)) {σ : HS} (h : Typ σ) {f : Nat} {Φ : FM} (hf6 : f < 7) (hm : MF σ f Φ) (hw : WF Φ) {L H : Nat → Int} (hb : BxM σ L H) {i : Nat} (hi : i < mN Φ) (k : mK Φ i = 0) (ih : ∀ j, j < i → Rep σ 63 j (SP Φ L H j)) :
    ∃ σ', lp_X6_spans_2_b K 48 (nI f) (nI i) σ = K 48 (nI f) (nI (i + 1)) σ' ∧ Mf [64, 65, 66] σ σ' ∧ Rep σ' 63 i (SP Φ L H i) ∧ ∀ j, j < i → Rep σ' 63 j (SP Φ L H j) := by
  obtain ⟨w0, w60, wr⟩ := hw
  obtain ⟨k5, ku0, ku1, ku, kv, kv0, kp⟩ := wr i hi
  obtain ⟨hn, hc⟩ := hm
  obtain ⟨c1, c2, c3, c4⟩ := hc i hi
  have fe := inbE (i := f) (n := 7) hf6 (by omega)
  have cf := cl1000 (i := f) (by omega)
  have pe := inbE (i := 60 * f + i) (n := 420) (by omega) (by omega)
  have cp := cl1000 (i := 60 * f + i) (by omega)
  have ie := inbE (i := i) (n := 60) (by omega) (by omega)
  have ci := cl1000 (i := i) (by omega)
  have ngt := nle hi (by omega)
  unfold lp_X6_spans_2_b
  have hu := ku0 k
  have ue := inbE (i := mU Φ i) (n := 6) hu (by omega)
  have cu := cl1000 (i := mU Φ i) (by omega)
  rw [k] at c1
  have g1 : (hA σ 51 (60 * f + i) = 0) = True := eq_true c1
  simp only [chk_p, lt_p, bd_p, bc_p, oc_n, oc_s, and_self, and_true, true_and, if_true, if_false, isO_sA', isO_sB', isO_rA', hlen_sA, hlen_sB, hlen_rA, hR_sA, hR_sB, hR_rA, Typ_sA', Typ_sB', Typ_rA', O48, r48_0, r48_1, r48_2, r48_3, r48_4, r48_5, r48_6, r48_8, r48_9, r48_10, r48_11, r48_12, r48_15, r48_21, r48_22, r48_23, r48_24, r48_25, r48_28, r48_30, r48_31, r48_32, r48_35, r48_37, r48_39, r48_40, r48_41, O51, l51, O52, l52, O55, l55, O62, l62, O63, l63, O64, l64, O65, l65, O66, l66, h, at_ok, hA_sA, hA_sB, hn, fe, cf, pe, cp, ie, ci, ngt, g1, c2, ue, cu, bit0, show ¬ (51 = 48) by decide, show ¬ (52 = 48) by decide, show ¬ (55 = 48) by decide, show ¬ (62 = 48) by decide, show ¬ (63 = 48) by decide, false_and, if_false, nI_s]
  obtain ⟨q1, q2, q3, q4, q5⟩ := fin3 σ i 0 0 (hA σ 62 (mU Φ i)).toInt64 (hA σ 63 (mU Φ i)).toInt64
  refine ⟨_, rfl, q1, ?_, fun j hj => q5 j _ (by omega) (ih j hj)⟩
  rw [SP_0 k]
  exact ⟨q2, by rw [q3, Int32.toInt_toInt64]; exact (hb.2 _ hu).1, by rw [q4, Int32.toInt_toInt64]; exact (hb.2 _ hu).2, hb.1 _⟩
theorem mspan_1 (K : Nat → Int32 → Int32 → HS → Option (Int32 × HS)) {σ : HS} (h : Typ σ) {f : Nat} {Φ : FM} (hf6 : f < 7) (hm : MF σ f Φ) (hw : WF Φ) {L H : Nat → Int} (hb : BxM σ L H) {i : Nat} (hi : i < mN Φ) (k : mK Φ i = 1) (ih : ∀ j, j < i → Rep σ 63 j (SP Φ L H j)) :
    ∃ σ', lp_X6_spans_2_b K 48 (nI f) (nI i) σ = K 48 (nI f) (nI (i + 1)) σ' ∧ Mf [64, 65, 66] σ σ' ∧ Rep σ' 63 i (SP Φ L H i) ∧ ∀ j, j < i → Rep σ' 63 j (SP Φ L H j) := by
  obtain ⟨w0, w60, wr⟩ := hw
  obtain ⟨k5, ku0, ku1, ku, kv, kv0, kp⟩ := wr i hi
  obtain ⟨hn, hc⟩ := hm
  obtain ⟨c1, c2, c3, c4⟩ := hc i hi
  have fe := inbE (i := f) (n := 7) hf6 (by omega)
  have cf := cl1000 (i := f) (by omega)
  have pe := inbE (i := 60 * f + i) (n := 420) (by omega) (by omega)
  have cp := cl1000 (i := 60 * f + i) (by omega)
  have ie := inbE (i := i) (n := 60) (by omega) (by omega)
  have ci := cl1000 (i := i) (by omega)
  have ngt := nle hi (by omega)
  unfold lp_X6_spans_2_b
  have hu := ku1 k
  rw [k] at c1
  have g1 : (hA σ 51 (60 * f + i) = 0) = False := by rw [c1]; exact eq_false (by decide)
  have g2 : (hA σ 51 (60 * f + i) = 1) = True := eq_true c1
  simp only [chk_p, lt_p, bd_p, bc_p, oc_n, oc_s, and_self, and_true, true_and, if_true, if_false, isO_sA', isO_sB', isO_rA', hlen_sA, hlen_sB, hlen_rA, hR_sA, hR_sB, hR_rA, Typ_sA', Typ_sB', Typ_rA', O48, r48_0, r48_1, r48_2, r48_3, r48_4, r48_5, r48_6, r48_8, r48_9, r48_10, r48_11, r48_12, r48_15, r48_21, r48_22, r48_23, r48_24, r48_25, r48_28, r48_30, r48_31, r48_32, r48_35, r48_37, r48_39, r48_40, r48_41, O51, l51, O52, l52, O55, l55, O62, l62, O63, l63, O64, l64, O65, l65, O66, l66, h, at_ok, hA_sA, hA_sB, hn, fe, cf, pe, cp, ie, ci, ngt, g1, g2, c2, bit0, show ¬ (51 = 48) by decide, show ¬ (52 = 48) by decide, show ¬ (55 = 48) by decide, false_and, if_false, nI_s]
  obtain ⟨q1, q2, q3, q4, q5⟩ := fin3 σ i 0 0 (nI (mU Φ i)).toInt64 (nI (mU Φ i)).toInt64
  refine ⟨_, rfl, q1, ?_, fun j hj => q5 j _ (by omega) (ih j hj)⟩
  rw [SP_1 k]
  exact ⟨q2, by rw [q3, Int32.toInt_toInt64]; exact nI_big (by omega), by rw [q4, Int32.toInt_toInt64]; exact nI_big (by omega), Int.le_refl _⟩
theorem mspan_2 (K : Nat → Int32 → Int32 → HS → Option (Int32 × HS)) {σ : HS} (h : Typ σ) {f : Nat} {Φ : FM} (hf6 : f < 7) (hm : MF σ f Φ) (hw : WF Φ) {L H : Nat → Int} (hb : BxM σ L H) {i : Nat} (hi : i < mN Φ) (k : 2 ≤ mK Φ i) (ih : ∀ j, j < i → Rep σ 63 j (SP Φ L H j)) :
    ∃ σ', lp_X6_spans_2_b K 48 (nI f) (nI i) σ = K 48 (nI f) (nI (i + 1)) σ' ∧ Mf [64, 65, 66] σ σ' ∧ Rep σ' 63 i (SP Φ L H i) ∧ ∀ j, j < i → Rep σ' 63 j (SP Φ L H j) := by
  obtain ⟨w0, w60, wr⟩ := hw
  obtain ⟨k5, ku0, ku1, ku, kv, kv0, kp⟩ := wr i hi
  obtain ⟨hn, hc⟩ := hm
  obtain ⟨c1, c2, c3, c4⟩ := hc i hi
  have fe := inbE (i := f) (n := 7) hf6 (by omega)
  have cf := cl1000 (i := f) (by omega)
  have pe := inbE (i := 60 * f + i) (n := 420) (by omega) (by omega)
  have cp := cl1000 (i := 60 * f + i) (by omega)
  have ie := inbE (i := i) (n := 60) (by omega) (by omega)
  have ci := cl1000 (i := i) (by omega)
  have ngt := nle hi (by omega)
  unfold lp_X6_spans_2_b
  have hu := ku k
  have ue := inbE (i := mU Φ i) (n := 60) (by omega) (by omega)
  have cu := cl1000 (i := mU Φ i) (by omega)
  have g1 : (nI (mK Φ i) = 0) = False := by exact eq_false (fun z => by have := (nE (a := mK Φ i) (b := 0) (by omega) (by omega)).mp z; omega)
  have g2 : (nI (mK Φ i) = 1) = False := by exact eq_false (fun z => by have := (nE (a := mK Φ i) (b := 1) (by omega) (by omega)).mp z; omega)
  obtain ⟨σ1, j1, j2, j3, j4, j5⟩ := joins_ok (σ := sA σ 48 20 0) (k := mK Φ i) (i := i) (a := mU Φ i) (b := mV Φ i) h (by rw [hA_f]; exact Or.inl rfl) k k5 (by omega) hu kv
  have h1 : Typ σ1 := j2.typ h
  have f1 : Mf [64, 65, 66] σ σ1 := (Mf_s (by decide) (by decide)).seq (j2.mono (by simp))
  have d1 : hA σ1 51 (60 * f + i) = nI (mK Φ i) := (f1.A (by decide) _).trans c1
  have d2 : hA σ1 52 (60 * f + i) = nI (mU Φ i) := (f1.A (by decide) _).trans c2
  have d3 : hA σ1 53 (60 * f + i) = nI (mV Φ i) := (f1.A (by decide) _).trans c3
  have s66 : ∀ j, hA σ1 66 j = hA σ 66 j := fun j => (j2.A (by decide) j).trans (by rw [hA_sA, if_neg (fun z => absurd z.1 (by decide))])
  have fin : ∀ v : Int32, v = (match SP Φ L H i with | none => 1 | some _ => 0) → (∀ p, SP Φ L H i = some p → VB σ1 64 65 i p) → Rep (sA (sA σ1 48 20 v) 66 i v) 63 i (SP Φ L H i) ∧ ∀ j, j < i → Rep (sA (sA σ1 48 20 v) 66 i v) 63 j (SP Φ L H j) := by
    intro v hv hp
    constructor
    · cases hx : SP Φ L H i with
      | none =>
        rw [hx] at hv
        show hA _ 66 i = 1
        rw [hA_sA, if_pos ⟨rfl, rfl⟩]; exact hv
      | some p =>
        rw [hx] at hv
        obtain ⟨q1, q2, q3⟩ := hp p hx
        exact ⟨by rw [hA_sA, if_pos ⟨rfl, rfl⟩]; exact hv, q1, q2, q3⟩
    · intro j hj
      have nj : ¬ j = i := by omega
      exact rep63 (ih j hj) (j4 j nj).1 (j4 j nj).2 (by simp only [hA_sA, hA_sB, hA_rA, hB_sA, hB_sB, hB_rA, nj, and_false, if_false, show ¬ (66 = 48) by decide, false_and]; exact s66 j)
  have ff : ∀ v : Int32, Mf [64, 65, 66] σ (sA (sA σ1 48 20 v) 66 i v) := fun v => (f1.seq (Mf_s (by decide) (by decide))).seq (Mf_sA (by simp) (by decide))
  simp only [chk_p, lt_p, bd_p, bc_p, oc_n, oc_s, and_self, and_true, true_and, if_true, if_false, isO_sA', isO_sB', isO_rA', hlen_sA, hlen_sB, hlen_rA, hR_sA, hR_sB, hR_rA, Typ_sA', Typ_sB', Typ_rA', O48, r48_0, r48_1, r48_2, r48_3, r48_4, r48_5, r48_6, r48_8, r48_9, r48_10, r48_11, r48_12, r48_15, r48_21, r48_22, r48_23, r48_24, r48_25, r48_28, r48_30, r48_31, r48_32, r48_35, r48_37, r48_39, r48_40, r48_41, O51, l51, O52, l52, O53, l53, O55, l55, O64, l64, O65, l65, O66, l66, h, h1, at_ok, hA_sA, hA_sB, hn, fe, cf, pe, cp, ie, ci, ngt, g1, g2, c1, c2, c3, d1, d2, d3, ue, cu, show ¬ (51 = 48) by decide, show ¬ (52 = 48) by decide, show ¬ (53 = 48) by decide, show ¬ (55 = 48) by decide, false_and, if_false, nI_s, j1, s66]
  have ru := ih _ hu
  have spU : ∀ p, SP Φ L H (mU Φ i) = some p → VB σ 64 65 (mU Φ i) p := fun p hp => by rw [hp] at ru; exact ru.2
  by_cases o1 : hA σ 66 (mU Φ i) = 0
  · have hxU : ∃ p, SP Φ L H (mU Φ i) = some p := by
      cases hx : SP Φ L H (mU Φ i) with
      | none => rw [hx] at ru; exact absurd (o1.symm.trans ru) (by decide)
      | some p => exact ⟨p, rfl⟩
    obtain ⟨p, hp⟩ := hxU
    by_cases k2 : mK Φ i = 2
    · have e2 : (nI (mK Φ i) = 2) = True := by rw [k2]; exact eq_true rfl
      have rj := j5 p (spU p hp) (0, 0) (fun z => by omega)
      rw [if_pos k2, show sp1 (some p) = SP Φ L H i by rw [SP_2 wr hi k2, hp]] at rj
      have hv : hA σ1 48 20 = (match SP Φ L H i with | none => 1 | some _ => 0) := by
        cases hx : SP Φ L H i with
        | none => rw [hx] at rj; exact rj
        | some q => rw [hx] at rj; exact rj.1.trans (hA_f _ _)
      obtain ⟨q1, q2⟩ := fin (hA σ1 48 20) hv (fun q hq => by rw [hq] at rj; exact rj.2)
      refine ⟨sA (sA σ1 48 20 (hA σ1 48 20)) 66 i (hA σ1 48 20), ?_, ff _, q1, q2⟩
      simp only [o1, e2, or0, bitE j3, chk_p, lt_p, bd_p, bc_p, oc_n, oc_s, and_self, and_true, true_and, if_true, if_false, isO_sA', isO_sB', isO_rA', hlen_sA, hlen_sB, hlen_rA, hR_sA, hR_sB, hR_rA, Typ_sA', Typ_sB', Typ_rA', h1, hA_sA, O48, r48_0, r48_1, r48_2, r48_3, r48_4, r48_5, r48_6, r48_8, r48_9, r48_10, r48_11, r48_12, r48_15, r48_21, r48_22, r48_23, r48_24, r48_25, r48_28, r48_30, r48_31, r48_32, r48_35, r48_37, r48_39, r48_40, r48_41, O66, l66, ie, ci, nI_s]
    · have e2 : (nI (mK Φ i) = 2) = False := eq_false (fun z => k2 ((nE (a := mK Φ i) (b := 2) (by omega) (by omega)).mp z))
      have hv' := kv (by omega)
      have ve := inbE (i := mV Φ i) (n := 60) (by omega) (by omega)
      have cv := cl1000 (i := mV Φ i) (by omega)
      have rv := ih _ hv'
      by_cases o2 : hA σ 66 (mV Φ i) = 0
      · have hxV : ∃ p, SP Φ L H (mV Φ i) = some p := by
          cases hx : SP Φ L H (mV Φ i) with
          | none => rw [hx] at rv; exact absurd (o2.symm.trans rv) (by decide)
          | some p => exact ⟨p, rfl⟩
        obtain ⟨r, hr⟩ := hxV
        have rj := j5 p (spU p hp) r (fun z => by rw [hr] at rv; exact rv.2)
        rw [if_neg k2, show sp2 (mK Φ i) (some p) (some r) = SP Φ L H i by rw [SP_3 wr hi (by omega), hp, hr]] at rj
        have hv : hA σ1 48 20 = (match SP Φ L H i with | none => 1 | some _ => 0) := by
          cases hx : SP Φ L H i with
          | none => rw [hx] at rj; exact rj
          | some q => rw [hx] at rj; exact rj.1.trans (hA_f _ _)
        obtain ⟨q1, q2⟩ := fin (hA σ1 48 20) hv (fun q hq => by rw [hq] at rj; exact rj.2)
        refine ⟨sA (sA σ1 48 20 (hA σ1 48 20)) 66 i (hA σ1 48 20), ?_, ff _, q1, q2⟩
        simp only [o1, o2, e2, or0, bitE j3, chk_p, lt_p, bd_p, bc_p, oc_n, oc_s, and_self, and_true, true_and, if_true, if_false, isO_sA', isO_sB', isO_rA', hlen_sA, hlen_sB, hlen_rA, hR_sA, hR_sB, hR_rA, Typ_sA', Typ_sB', Typ_rA', h1, hA_sA, O48, r48_0, r48_1, r48_2, r48_3, r48_4, r48_5, r48_6, r48_8, r48_9, r48_10, r48_11, r48_12, r48_15, r48_21, r48_22, r48_23, r48_24, r48_25, r48_28, r48_30, r48_31, r48_32, r48_35, r48_37, r48_39, r48_40, r48_41, O53, l53, O66, l66, ie, ci, ve, cv, nI_s, if_false, pe, cp, d3, s66]
      · have hx : SP Φ L H i = none := by
          rw [SP_3 wr hi (by omega)]
          cases hx : SP Φ L H (mV Φ i) with
          | none => rw [hp]; rfl
          | some p => rw [hx] at rv; exact absurd rv.1 o2
        obtain ⟨q1, q2⟩ := fin 1 (by rw [hx]) (fun q hq => by rw [hx] at hq; cases hq)
        refine ⟨sA (sA σ1 48 20 1) 66 i 1, ?_, ff _, q1, q2⟩
        simp only [o1, o2, e2, or1 j3, bit1, chk_p, lt_p, bd_p, bc_p, oc_n, oc_s, and_self, and_true, true_and, if_true, if_false, isO_sA', isO_sB', isO_rA', hlen_sA, hlen_sB, hlen_rA, hR_sA, hR_sB, hR_rA, Typ_sA', Typ_sB', Typ_rA', h1, hA_sA, O48, r48_0, r48_1, r48_2, r48_3, r48_4, r48_5, r48_6, r48_8, r48_9, r48_10, r48_11, r48_12, r48_15, r48_21, r48_22, r48_23, r48_24, r48_25, r48_28, r48_30, r48_31, r48_32, r48_35, r48_37, r48_39, r48_40, r48_41, O53, l53, O66, l66, ie, ci, ve, cv, nI_s, if_false, pe, cp, d3, s66]
  · have hx : SP Φ L H i = none := by
      have hU : SP Φ L H (mU Φ i) = none := by
        cases hx : SP Φ L H (mU Φ i) with
        | none => rfl
        | some p => rw [hx] at ru; exact absurd ru.1 o1
      by_cases k2 : mK Φ i = 2
      · rw [SP_2 wr hi k2, hU]; rfl
      · rw [SP_3 wr hi (by omega), hU]; rfl
    obtain ⟨q1, q2⟩ := fin 1 (by rw [hx]) (fun q hq => by rw [hx] at hq; cases hq)
    refine ⟨sA (sA σ1 48 20 1) 66 i 1, ?_, ff _, q1, q2⟩
    simp only [o1, or1 j3, bit1, chk_p, lt_p, bd_p, bc_p, oc_n, oc_s, and_self, and_true, true_and, if_true, if_false, isO_sA', isO_sB', isO_rA', hlen_sA, hlen_sB, hlen_rA, hR_sA, hR_sB, hR_rA, Typ_sA', Typ_sB', Typ_rA', h1, hA_sA, O48, r48_0, r48_1, r48_2, r48_3, r48_4, r48_5, r48_6, r48_8, r48_9, r48_10, r48_11, r48_12, r48_15, r48_21, r48_22, r48_23, r48_24, r48_25, r48_28, r48_30, r48_31, r48_32, r48_35, r48_37, r48_39, r48_40, r48_41, O53, l53, O66, l66, ie, ci, nI_s, if_false]
theorem mspan_part (K : Nat → Int32 → Int32 → HS → Option (Int32 × HS)) {σ : HS} (h : Typ σ) {f : Nat} {Φ : FM} (hf6 : f < 7) (hm : MF σ f Φ) (hw : WF Φ) {L H : Nat → Int} (hb : BxM σ L H) {i : Nat} (hi : i < mN Φ) (ih : ∀ j, j < i → Rep σ 63 j (SP Φ L H j)) :
    ∃ σ', lp_X6_spans_2_b K 48 (nI f) (nI i) σ = K 48 (nI f) (nI (i + 1)) σ' ∧ Mf [64, 65, 66] σ σ' ∧ Rep σ' 63 i (SP Φ L H i) ∧ ∀ j, j < i → Rep σ' 63 j (SP Φ L H j) := by
  have h6 : mK Φ i = 0 ∨ mK Φ i = 1 ∨ 2 ≤ mK Φ i := by omega
  rcases h6 with k | k | k
  · exact mspan_0 K h hf6 hm hw hb hi k ih
  · exact mspan_1 K h hf6 hm hw hb hi k ih
  · exact mspan_2 K h hf6 hm hw hb hi k ih
