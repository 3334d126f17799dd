def rc (x : Option (Int × Int)) : Int32 := match x with | none => 0 | some _ => 1
theorem rootOf_ok {σ : HS} (h : Typ σ) {f : Nat} {Φ : FM} (hf6 : f < 7) (hn : hA σ 55 f = nI (mN Φ)) (hw : WF Φ) : f_X6_rootOf 48 (nI f) σ = some (nI (mN Φ - 1), σ) := by
  have fe := inbE (i := f) (n := 7) hf6 (by omega)
  have cf := cl1000 (i := f) (by omega)
  have w1 := hw.1
  obtain ⟨m, hm⟩ : ∃ m, mN Φ = m + 1 := ⟨mN Φ - 1, by omega⟩
  unfold f_X6_rootOf
  rw [hm] at hn ⊢
  simp only [chk_p, lt_p, bd_p, bc_p, oc_n, oc_s, and_self, and_true, true_and, if_true, if_false, isO_sA', isO_sB', isO_rA', hlen_sA, hlen_sB, hlen_rA, hR_sA, hR_sB, hR_rA, Typ_sA', Typ_sB', Typ_rA', O48, r48_0, r48_1, r48_2, r48_3, r48_4, r48_5, r48_6, r48_8, r48_9, r48_10, r48_11, r48_12, r48_15, r48_21, r48_22, r48_23, r48_24, r48_25, r48_28, r48_30, r48_31, r48_32, r48_35, r48_37, r48_39, r48_40, r48_41, O55, l55, h, fe, cf, hn, nI_pred, Nat.add_sub_cancel]
theorem spans_lp {f : Nat} {Φ : FM} (hf6 : f < 7) (hw : WF Φ) {L H : Nat → Int} : ∀ (d i : Nat) (σ : HS), Typ σ → MF σ f Φ → BxM σ L H → i + d = mN Φ → (∀ j, j < i → Rep σ 63 j (SP Φ L H j)) → ∀ nf, d < nf →
    ∃ σ', lp_X6_spans_2 nf 48 (nI f) (nI i) σ = some (rc (SP Φ L H (mN Φ - 1)), σ') ∧ Mf [64, 65, 66] σ σ' ∧ ∀ j, j < mN Φ → Rep σ' 63 j (SP Φ L H j) := by
  intro d
  induction d with
  | zero =>
    intro i σ h hm hb he hr nf hnf
    obtain ⟨nf, rfl⟩ : ∃ k, nf = k + 1 := ⟨nf - 1, by omega⟩
    have hi : i = mN Φ := by omega
    subst hi
    have fe := inbE (i := f) (n := 7) hf6 (by omega)
    have cf := cl1000 (i := f) (by omega)
    have w1 := hw.1
    have w2 := hw.2.1
    have me := inbE (i := mN Φ - 1) (n := 60) (by omega) (by omega)
    have cm := cl1000 (i := mN Φ - 1) (by omega)
    have le : (nI (mN Φ) ≤ nI (mN Φ)) = True := eq_true (Int32.le_refl _)
    have rt := hr (mN Φ - 1) (by omega)
    have ro := rootOf_ok h hf6 hm.1 hw
    refine ⟨σ, ?_, Mf.rf, hr⟩
    show lp_X6_spans_2_b (lp_X6_spans_2 nf) 48 (nI f) (nI (mN Φ)) σ = _
    unfold lp_X6_spans_2_b
    cases hx : SP Φ L H (mN Φ - 1) with
    | none =>
      rw [hx] at rt
      have e : (hA σ 66 (mN Φ - 1) = 0) = False := by rw [show hA σ 66 (mN Φ - 1) = 1 from rt]; exact beq1
      simp only [chk_p, lt_p, bd_p, bc_p, oc_n, oc_s, and_self, and_true, true_and, if_true, if_false, isO_sA', isO_sB', isO_rA', hlen_sA, hlen_sB, hlen_rA, hR_sA, hR_sB, hR_rA, Typ_sA', Typ_sB', Typ_rA', O48, r48_0, r48_1, r48_2, r48_3, r48_4, r48_5, r48_6, r48_8, r48_9, r48_10, r48_11, r48_12, r48_15, r48_21, r48_22, r48_23, r48_24, r48_25, r48_28, r48_30, r48_31, r48_32, r48_35, r48_37, r48_39, r48_40, r48_41, O55, l55, O66, l66, h, fe, cf, hm.1, le, ro, me, cm, e, if_false, rc]
    | some p =>
      rw [hx] at rt
      have e : (hA σ 66 (mN Φ - 1) = 0) = True := eq_true rt.1
      simp only [chk_p, lt_p, bd_p, bc_p, oc_n, oc_s, and_self, and_true, true_and, if_true, if_false, isO_sA', isO_sB', isO_rA', hlen_sA, hlen_sB, hlen_rA, hR_sA, hR_sB, hR_rA, Typ_sA', Typ_sB', Typ_rA', O48, r48_0, r48_1, r48_2, r48_3, r48_4, r48_5, r48_6, r48_8, r48_9, r48_10, r48_11, r48_12, r48_15, r48_21, r48_22, r48_23, r48_24, r48_25, r48_28, r48_30, r48_31, r48_32, r48_35, r48_37, r48_39, r48_40, r48_41, O55, l55, O66, l66, h, fe, cf, hm.1, le, ro, me, cm, e, rc]
  | succ d ihd =>
    intro i σ h hm hb he hr nf hnf
    obtain ⟨nf, rfl⟩ : ∃ k, nf = k + 1 := ⟨nf - 1, by omega⟩
    obtain ⟨σ1, e1, f1, r1, r2⟩ := mspan_part (lp_X6_spans_2 nf) h hf6 hm hw hb (i := i) (by omega) hr
    obtain ⟨σ2, e2, f2, r3⟩ := ihd (i + 1) σ1 (f1.typ h) (hm.mf f1 (by decide) (by decide) (by decide) (by decide) (by decide)) (hb.mf f1 (by decide) (by decide)) (by omega) (fun j hj => by
      by_cases e : j = i
      · rw [e]; exact r1
      · exact r2 j (by omega)) nf (by omega)
    exact ⟨σ2, e1.trans e2, f1.seq f2, r3⟩
theorem spans_ok {f : Nat} {Φ : FM} (hf6 : f < 7) (hw : WF Φ) {L H : Nat → Int} {σ : HS} (h : Typ σ) (hm : MF σ f Φ) (hb : BxM σ L H) :
    ∃ σ', f_X6_spans 48 (nI f) σ = some (rc (SP Φ L H (mN Φ - 1)), σ') ∧ Mf [64, 65, 66] σ σ' ∧ ∀ j, j < mN Φ → Rep σ' 63 j (SP Φ L H j) := by
  have hw2 := hw.2.1
  obtain ⟨σ', e1, e2⟩ := spans_lp hf6 hw (mN Φ) 0 σ h hm hb (by omega) (fun j hj => by omega) 1000 (by omega)
  exact ⟨σ', e1, e2⟩
theorem mLow_ok {σ : HS} (h : Typ σ) {f : Nat} {Φ : FM} (hf6 : f < 7) (hn : hA σ 55 f = nI (mN Φ)) (hw : WF Φ) : f_X6_lowOf 48 (nI f) σ = some (hB σ 64 (mN Φ - 1), σ) := by
  have w1 := hw.1
  have w2 := hw.2.1
  have me := inbE (i := mN Φ - 1) (n := 60) (by omega) (by omega)
  have cm := cl1000 (i := mN Φ - 1) (by omega)
  have ro := rootOf_ok h hf6 hn hw
  unfold f_X6_lowOf
  simp only [chk_p, lt_p, bd_p, bc_p, oc_n, oc_s, and_self, and_true, true_and, if_true, if_false, isO_sA', isO_sB', isO_rA', hlen_sA, hlen_sB, hlen_rA, hR_sA, hR_sB, hR_rA, Typ_sA', Typ_sB', Typ_rA', O48, r48_0, r48_1, r48_2, r48_3, r48_4, r48_5, r48_6, r48_8, r48_9, r48_10, r48_11, r48_12, r48_15, r48_21, r48_22, r48_23, r48_24, r48_25, r48_28, r48_30, r48_31, r48_32, r48_35, r48_37, r48_39, r48_40, r48_41, O64, l64, h, ro, me, cm]
theorem mHigh_ok {σ : HS} (h : Typ σ) {f : Nat} {Φ : FM} (hf6 : f < 7) (hn : hA σ 55 f = nI (mN Φ)) (hw : WF Φ) : f_X6_highOf 48 (nI f) σ = some (hB σ 65 (mN Φ - 1), σ) := by
  have w1 := hw.1
  have w2 := hw.2.1
  have me := inbE (i := mN Φ - 1) (n := 60) (by omega) (by omega)
  have cm := cl1000 (i := mN Φ - 1) (by omega)
  have ro := rootOf_ok h hf6 hn hw
  unfold f_X6_highOf
  simp only [chk_p, lt_p, bd_p, bc_p, oc_n, oc_s, and_self, and_true, true_and, if_true, if_false, isO_sA', isO_sB', isO_rA', hlen_sA, hlen_sB, hlen_rA, hR_sA, hR_sB, hR_rA, Typ_sA', Typ_sB', Typ_rA', O48, r48_0, r48_1, r48_2, r48_3, r48_4, r48_5, r48_6, r48_8, r48_9, r48_10, r48_11, r48_12, r48_15, r48_21, r48_22, r48_23, r48_24, r48_25, r48_28, r48_30, r48_31, r48_32, r48_35, r48_37, r48_39, r48_40, r48_41, O65, l65, h, ro, me, cm]
theorem nI_mul3 (s : Nat) : (3 : Int32) * nI s = nI (3 * s) := by
  show Int32.ofNat 3 * Int32.ofNat s = Int32.ofNat (3 * s)
  rw [Int32.ofNat_mul]
theorem valueOf_ok {σ : HS} (h : Typ σ) {s : Nat} (hs : s < 6) : f_X6_valueOf 48 (nI s) σ = some (hA σ 49 (3 * s), σ) := by
  have ie := inbE (i := 3 * s) (n := 18) (by omega) (by omega)
  have ci := cl1000 (i := 3 * s) (by omega)
  unfold f_X6_valueOf
  simp only [chk_p, lt_p, bd_p, bc_p, oc_n, oc_s, and_self, and_true, true_and, if_true, if_false, isO_sA', isO_sB', isO_rA', hlen_sA, hlen_sB, hlen_rA, hR_sA, hR_sB, hR_rA, Typ_sA', Typ_sB', Typ_rA', O48, r48_0, r48_1, r48_2, r48_3, r48_4, r48_5, r48_6, r48_8, r48_9, r48_10, r48_11, r48_12, r48_15, r48_21, r48_22, r48_23, r48_24, r48_25, r48_28, r48_30, r48_31, r48_32, r48_35, r48_37, r48_39, r48_40, r48_41, O49, l49, h, nI_mul3, ie, ci]
theorem spanOf_ok {σ : HS} (h : Typ σ) {s : Nat} (hs : s < 6) : f_X6_spanOf 48 (nI s) σ = some (hA σ 49 (3 * s + 1), σ) := by
  have ie := inbE (i := 3 * s + 1) (n := 18) (by omega) (by omega)
  have ci := cl1000 (i := 3 * s + 1) (by omega)
  unfold f_X6_spanOf
  simp only [chk_p, lt_p, bd_p, bc_p, oc_n, oc_s, and_self, and_true, true_and, if_true, if_false, isO_sA', isO_sB', isO_rA', hlen_sA, hlen_sB, hlen_rA, hR_sA, hR_sB, hR_rA, Typ_sA', Typ_sB', Typ_rA', O48, r48_0, r48_1, r48_2, r48_3, r48_4, r48_5, r48_6, r48_8, r48_9, r48_10, r48_11, r48_12, r48_15, r48_21, r48_22, r48_23, r48_24, r48_25, r48_28, r48_30, r48_31, r48_32, r48_35, r48_37, r48_39, r48_40, r48_41, O49, l49, h, nI_mul3, nI_s, ie, ci]
theorem lays_ok {σ : HS} (h : Typ σ) {s : Nat} (hs : s < 6) (a b : Int32) : f_X6_lays 48 (nI s) a b σ = some ((), sA (sA σ 62 s a) 63 s b) := by
  have ie := inbE (i := s) (n := 6) (by omega) (by omega)
  have ci := cl1000 (i := s) (by omega)
  unfold f_X6_lays
  simp only [chk_p, lt_p, bd_p, bc_p, oc_n, oc_s, and_self, and_true, true_and, if_true, if_false, isO_sA', isO_sB', isO_rA', hlen_sA, hlen_sB, hlen_rA, hR_sA, hR_sB, hR_rA, Typ_sA', Typ_sB', Typ_rA', O48, r48_0, r48_1, r48_2, r48_3, r48_4, r48_5, r48_6, r48_8, r48_9, r48_10, r48_11, r48_12, r48_15, r48_21, r48_22, r48_23, r48_24, r48_25, r48_28, r48_30, r48_31, r48_32, r48_35, r48_37, r48_39, r48_40, r48_41, O62, l62, O63, l63, h, ie, ci]
theorem laysBox_lp : ∀ (d i : Nat) (σ : HS), Typ σ → i + d = 6 → ∀ nf, d < nf → ∃ σ', lp_X6_laysBox_2 nf 48 (nI i) σ = some ((), σ') ∧ Mf [62, 63] σ σ' ∧ (∀ s, s < i → hA σ' 62 s = hA σ 62 s ∧ hA σ' 63 s = hA σ 63 s) ∧ ∀ s, i ≤ s → s < 6 → hA σ' 62 s = hA σ 49 (3 * s) - hA σ 49 (3 * s + 1) ∧ hA σ' 63 s = hA σ 49 (3 * s) + hA σ 49 (3 * s + 1) := by
  intro d
  induction d with
  | zero =>
    intro i σ h he nf hnf
    obtain ⟨nf, rfl⟩ : ∃ k, nf = k + 1 := ⟨nf - 1, by omega⟩
    have hi : i = 6 := by omega
    subst hi
    refine ⟨σ, ?_, Mf.rf, fun s _ => ⟨rfl, rfl⟩, fun s h1 h2 => by omega⟩
    show lp_X6_laysBox_2_b (lp_X6_laysBox_2 nf) 48 (nI 6) σ = _
    unfold lp_X6_laysBox_2_b
    exact if_pos (by decide)
  | succ d ih =>
    intro i σ h he nf hnf
    obtain ⟨nf, rfl⟩ : ∃ k, nf = k + 1 := ⟨nf - 1, by omega⟩
    have fr : Mf [62, 63] σ (sA (sA σ 62 i (hA σ 49 (3 * i) - hA σ 49 (3 * i + 1))) 63 i (hA σ 49 (3 * i) + hA σ 49 (3 * i + 1))) := (Mf_sA (by simp) (by decide)).seq (Mf_sA (by simp) (by decide))
    obtain ⟨σ', e1, e2, e3, e4⟩ := ih (i + 1) _ (fr.typ h) (by omega) nf (by omega)
    refine ⟨σ', ?_, fr.seq e2, ?_, ?_⟩
    · show lp_X6_laysBox_2_b (lp_X6_laysBox_2 nf) 48 (nI i) σ = _
      unfold lp_X6_laysBox_2_b
      have le := eq_false (show ¬ (6 : Int32) ≤ nI i by rw [le6 (by omega)]; omega)
      simp only [chk_p, lt_p, bd_p, bc_p, oc_n, oc_s, and_self, and_true, true_and, if_true, if_false, isO_sA', isO_sB', isO_rA', hlen_sA, hlen_sB, hlen_rA, hR_sA, hR_sB, hR_rA, Typ_sA', Typ_sB', Typ_rA', O48, r48_0, r48_1, r48_2, r48_3, r48_4, r48_5, r48_6, r48_8, r48_9, r48_10, r48_11, r48_12, r48_15, r48_21, r48_22, r48_23, r48_24, r48_25, r48_28, r48_30, r48_31, r48_32, r48_35, r48_37, r48_39, r48_40, r48_41, h, le, if_false, valueOf_ok h (show i < 6 by omega), spanOf_ok h (show i < 6 by omega), lays_ok h (show i < 6 by omega), nI_s, e1]
    · intro s hs
      obtain ⟨a, b⟩ := e3 s (by omega)
      rw [a, b]
      simp only [hA_sA, show ¬ s = i by omega, and_false, if_false, and_self]
    · intro s h1 h2
      by_cases e : s = i
      · subst e
        obtain ⟨a, b⟩ := e3 s (by omega)
        rw [a, b]
        simp only [hA_sA, and_self, if_true, show ¬ (62 = 63) by decide, false_and, if_false]
      · obtain ⟨a, b⟩ := e4 s (by omega) h2
        rw [a, b]
        simp only [hA_sA, show ¬ (49 = 63) by decide, show ¬ (49 = 62) by decide, false_and, if_false, and_self]
theorem laysBox_ok {σ : HS} (h : Typ σ) : ∃ σ', f_X6_laysBox 48 σ = some ((), σ') ∧ Mf [62, 63] σ σ' ∧ ∀ s, s < 6 → hA σ' 62 s = hA σ 49 (3 * s) - hA σ 49 (3 * s + 1) ∧ hA σ' 63 s = hA σ 49 (3 * s) + hA σ 49 (3 * s + 1) := by
  obtain ⟨σ', e1, e2, e3, e4⟩ := laysBox_lp 6 0 σ h (by omega) 1000 (by omega)
  exact ⟨σ', e1, e2, fun s hs => e4 s (by omega) hs⟩
/-- the sources in the reference, as in the class -/
def SrcM (σ : HS) : Prop := ∀ s, s < 6 → hA σ 49 (3 * s) = hA σ 2 s ∧ hA σ 49 (3 * s + 1) = hA σ 3 s ∧ hA σ 49 (3 * s + 2) = hA σ 4 s
theorem BxM_now {σ σ' : HS} (hv : Vals σ) (hs : SrcM σ) (e : ∀ s, s < 6 → hA σ' 62 s = hA σ 49 (3 * s) - hA σ 49 (3 * s + 1) ∧ hA σ' 63 s = hA σ 49 (3 * s) + hA σ 49 (3 * s + 1)) : BxM σ' (bL σ) (bH σ) := ⟨bLH hv, fun s h6 => by
  obtain ⟨a, b⟩ := e s h6
  obtain ⟨g1, g2, -⟩ := hs s h6
  obtain ⟨v1, v2, v3, v4, -, -⟩ := hv s h6
  rw [a, b, g1, g2, i_sub (by omega) (by omega) (by omega) (by omega), i_add (by omega) (by omega) (by omega) (by omega)]
  unfold bL bH
  rw [if_pos h6, if_pos h6]
  exact ⟨rfl, rfl⟩⟩
theorem rc_bit (x : Option (Int × Int)) : bit (rc x) := by cases x with | none => exact Or.inl rfl | some _ => exact Or.inr rfl
theorem rc_0 (x : Option (Int × Int)) : (rc x = 0) = (x = none) := by cases x with | none => simp [rc] | some _ => simp [rc]
theorem spansNow_ok {f : Nat} {Φ : FM} (hf6 : f < 7) (hw : WF Φ) {σ : HS} (h : Typ σ) (hm : MF σ f Φ) (hv : Vals σ) (hs : SrcM σ) :
    ∃ σ', f_X6_spansNow 48 (nI f) σ = some (rc (SP Φ (bL σ) (bH σ) (mN Φ - 1)), σ') ∧ Mf [62, 63, 64, 65, 66] σ σ' ∧ (∀ j, j < mN Φ → Rep σ' 63 j (SP Φ (bL σ) (bH σ) j)) ∧ BxM σ' (bL σ) (bH σ) := by
  obtain ⟨σ1, e1, f1, b1⟩ := laysBox_ok h
  have hb := BxM_now hv hs b1
  obtain ⟨σ2, e2, f2, r2⟩ := spans_ok hf6 hw (f1.typ h) (hm.mf f1 (by decide) (by decide) (by decide) (by decide) (by decide)) hb
  refine ⟨σ2, ?_, (f1.mono (by simp)).seq (f2.mono (by simp)), r2, hb.mf f2 (by decide) (by decide)⟩
  have h1 := f1.typ h
  unfold f_X6_spansNow
  simp only [chk_p, lt_p, bd_p, bc_p, oc_n, oc_s, and_self, and_true, true_and, if_true, if_false, isO_sA', isO_sB', isO_rA', hlen_sA, hlen_sB, hlen_rA, hR_sA, hR_sB, hR_rA, Typ_sA', Typ_sB', Typ_rA', O48, r48_0, r48_1, r48_2, r48_3, r48_4, r48_5, r48_6, r48_8, r48_9, r48_10, r48_11, r48_12, r48_15, r48_21, r48_22, r48_23, r48_24, r48_25, r48_28, r48_30, r48_31, r48_32, r48_35, r48_37, r48_39, r48_40, r48_41, h, h1, e1, e2, bitE (rc_bit _)]
/-- how wide: none, if it is over or too wide -/
def WD (x : Option (Int × Int)) : Option Int := match x with
  | none => none
  | some p => if inR (p.2 - p.1) then some (p.2 - p.1) else none
def oW (x : Option Int) : Int64 := match x with | none => -9223372036854775807 | some w => Int64.ofInt w
theorem ofI {x : Int} (h : inR x) : (Int64.ofInt x).toInt = x := by rw [Int64.toInt_ofInt, bm h]
theorem ofI_eq {a : Int64} {x : Int} (h : a.toInt = x) : Int64.ofInt x = a := by rw [← h, Int64.ofInt_toInt]
theorem widthBy_ok {f : Nat} {Φ : FM} (hf6 : f < 7) (hw : WF Φ) {L H : Nat → Int} {σ : HS} (h : Typ σ) (hm : MF σ f Φ) (hb : BxM σ L H) :
    ∃ σ', f_X6_widthBy 48 (nI f) σ = some (oW (WD (SP Φ L H (mN Φ - 1))), σ') ∧ Mf [64, 65, 66] σ σ' := by
  have w1 := hw.1
  obtain ⟨σ1, e1, f1, r1⟩ := spans_ok hf6 hw h hm hb
  have h1 := f1.typ h
  have hm1 := hm.mf f1 (by decide) (by decide) (by decide) (by decide) (by decide)
  have rt := r1 (mN Φ - 1) (by omega)
  unfold f_X6_widthBy
  cases hx : SP Φ L H (mN Φ - 1) with
  | none =>
    rw [hx] at e1
    refine ⟨σ1, ?_, f1⟩
    simp only [chk_p, lt_p, bd_p, bc_p, oc_n, oc_s, and_self, and_true, true_and, if_true, if_false, isO_sA', isO_sB', isO_rA', hlen_sA, hlen_sB, hlen_rA, hR_sA, hR_sB, hR_rA, Typ_sA', Typ_sB', Typ_rA', O48, r48_0, r48_1, r48_2, r48_3, r48_4, r48_5, r48_6, r48_8, r48_9, r48_10, r48_11, r48_12, r48_15, r48_21, r48_22, r48_23, r48_24, r48_25, r48_28, r48_30, r48_31, r48_32, r48_35, r48_37, r48_39, r48_40, r48_41, h, e1, rc, WD, oW]
  | some p =>
    rw [hx] at e1 rt
    obtain ⟨a1, a2, a3, a4⟩ := rt
    have el := mLow_ok (σ := sA σ1 48 20 0) h1 hf6 (by rw [hA_sA, if_neg (fun z => absurd z.1 (by decide))]; exact hm1.1) hw
    have eh := mHigh_ok (σ := sA σ1 48 20 0) h1 hf6 (by rw [hA_sA, if_neg (fun z => absurd z.1 (by decide))]; exact hm1.1) hw
    have es := m_less (σ := sA σ1 48 20 0) h1 (by rw [hA_f]; exact Or.inl rfl) (hB (sA σ1 48 20 0) 65 (mN Φ - 1)) (hB (sA σ1 48 20 0) 64 (mN Φ - 1))
    rw [hA_f] at es
    rw [sA_sA] at es
    obtain ⟨v, hv⟩ : ∃ v, v = fl (inR ((hB (sA σ1 48 20 0) 65 (mN Φ - 1)).toInt - (hB (sA σ1 48 20 0) 64 (mN Φ - 1)).toInt)) 0 := ⟨_, rfl⟩
    rw [← hv] at es
    obtain ⟨w, hw'⟩ : ∃ w, w = hB (sA σ1 48 20 0) 65 (mN Φ - 1) - hB (sA σ1 48 20 0) 64 (mN Φ - 1) := ⟨_, rfl⟩
    rw [← hw'] at es
    rw [show hB (sA σ1 48 20 0) 65 (mN Φ - 1) = hB σ1 65 (mN Φ - 1) from rfl, show hB (sA σ1 48 20 0) 64 (mN Φ - 1) = hB σ1 64 (mN Φ - 1) from rfl] at hv hw'
    rw [show (hB σ1 65 (mN Φ - 1)).toInt = p.2 from a3, show (hB σ1 64 (mN Φ - 1)).toInt = p.1 from a2] at hv
    refine ⟨sA σ1 48 20 v, ?_, f1.seq (Mf_s (by decide) (by decide))⟩
    by_cases g : inR (p.2 - p.1)
    · rw [fl_t g] at hv
      have ew : WD (some p) = some (p.2 - p.1) := if_pos g
      have ew2 : oW (some (p.2 - p.1)) = w := ofI_eq (by rw [hw', l_sub (by rw [show (hB σ1 65 (mN Φ - 1)).toInt = p.2 from a3, show (hB σ1 64 (mN Φ - 1)).toInt = p.1 from a2]; exact g), show (hB σ1 65 (mN Φ - 1)).toInt = p.2 from a3, show (hB σ1 64 (mN Φ - 1)).toInt = p.1 from a2])
      rw [ew, ew2, hv]
      rw [hv] at es
      simp only [chk_p, lt_p, bd_p, bc_p, oc_n, oc_s, and_self, and_true, true_and, if_true, if_false, isO_sA', isO_sB', isO_rA', hlen_sA, hlen_sB, hlen_rA, hR_sA, hR_sB, hR_rA, Typ_sA', Typ_sB', Typ_rA', O48, r48_0, r48_1, r48_2, r48_3, r48_4, r48_5, r48_6, r48_8, r48_9, r48_10, r48_11, r48_12, r48_15, r48_21, r48_22, r48_23, r48_24, r48_25, r48_28, r48_30, r48_31, r48_32, r48_35, r48_37, r48_39, r48_40, r48_41, h, h1, e1, rc, beq1, if_false, eh, el, es, hA_f]
    · rw [fl_f g] at hv
      have ew : WD (some p) = none := if_neg g
      rw [ew, hv]
      rw [hv] at es
      simp only [chk_p, lt_p, bd_p, bc_p, oc_n, oc_s, and_self, and_true, true_and, if_true, if_false, isO_sA', isO_sB', isO_rA', hlen_sA, hlen_sB, hlen_rA, hR_sA, hR_sB, hR_rA, Typ_sA', Typ_sB', Typ_rA', O48, r48_0, r48_1, r48_2, r48_3, r48_4, r48_5, r48_6, r48_8, r48_9, r48_10, r48_11, r48_12, r48_15, r48_21, r48_22, r48_23, r48_24, r48_25, r48_28, r48_30, r48_31, r48_32, r48_35, r48_37, r48_39, r48_40, r48_41, h, h1, e1, rc, beq1, if_false, eh, el, es, hA_f, oW]
theorem widthNow_ok {f : Nat} {Φ : FM} (hf6 : f < 7) (hw : WF Φ) {σ : HS} (h : Typ σ) (hm : MF σ f Φ) (hv : Vals σ) (hs : SrcM σ) :
    ∃ σ', f_X6_widthNow 48 (nI f) σ = some (oW (WD (SP Φ (bL σ) (bH σ) (mN Φ - 1))), σ') ∧ Mf [62, 63, 64, 65, 66] σ σ' := by
  obtain ⟨σ1, e1, f1, b1⟩ := laysBox_ok h
  have hb := BxM_now hv hs b1
  obtain ⟨σ2, e2, f2⟩ := widthBy_ok hf6 hw (f1.typ h) (hm.mf f1 (by decide) (by decide) (by decide) (by decide) (by decide)) hb
  refine ⟨σ2, ?_, (f1.mono (by simp)).seq (f2.mono (by simp))⟩
  have h1 := f1.typ h
  unfold f_X6_widthNow
  simp only [chk_p, lt_p, bd_p, bc_p, oc_n, oc_s, and_self, and_true, true_and, if_true, if_false, isO_sA', isO_sB', isO_rA', hlen_sA, hlen_sB, hlen_rA, hR_sA, hR_sB, hR_rA, Typ_sA', Typ_sB', Typ_rA', O48, r48_0, r48_1, r48_2, r48_3, r48_4, r48_5, r48_6, r48_8, r48_9, r48_10, r48_11, r48_12, r48_15, r48_21, r48_22, r48_23, r48_24, r48_25, r48_28, r48_30, r48_31, r48_32, r48_35, r48_37, r48_39, r48_40, r48_41, h, h1, e1, e2]
