/-! span: the way in the reference; the call -/
theorem Kq.seq {P Q T : Nat → Bool} {σ σ' σ'' : HS} (h : Kq P Q T σ σ') (g : Kq P Q T σ' σ'') : Kq P Q T σ σ'' := by
  obtain ⟨a1, a2, a3, a4, a5, a6, a7⟩ := h
  obtain ⟨b1, b2, b3, b4, b5, b6, b7⟩ := g
  refine ⟨Nat.le_trans a1 b1, fun j hj => ?_, fun j hj => ?_, fun j hj hp => ?_, fun k hk => (b5 k hk).trans (a5 k hk), a6, a7⟩
  · obtain ⟨p, q⟩ := a2 j hj
    obtain ⟨r, t⟩ := b2 j (Nat.lt_of_lt_of_le hj a1)
    exact ⟨r.trans p, t.trans q⟩
  · refine (b3 j ?_).trans (a3 j hj)
    rcases hj with z | z
    · exact Or.inl z
    · exact Or.inr ⟨Nat.lt_of_lt_of_le z.1 a1, (a2 j z.1).1.trans z.2⟩
  · obtain ⟨p, q⟩ := a4 j hj hp
    obtain ⟨r, t⟩ := b4 j (Nat.lt_of_lt_of_le hj a1) hp
    exact ⟨r.trans p, t.trans q⟩
theorem Kq.mono {P Q T P' Q' : Nat → Bool} {σ σ' : HS} (h : Kq P Q T σ σ') (hp : ∀ j, P' j = false → P j = false) (hq : ∀ k, Q' k = false → Q k = false) (h76 : ∀ j, 76 ≤ j → P' j = false) : Kq P' Q' T σ σ' := ⟨h.1, h.2.1, h.2.2.1, fun j hj hs => h.2.2.2.1 j hj (hp j hs), fun k hk => h.2.2.2.2.1 k (hq k hk), h76, h.2.2.2.2.2.2⟩
def wsc (j : Nat) : Bool := (((scj j || j == 48) || j == 0) || j == 47) || j == 67
def wq (k : Nat) : Bool := (decide (17 ≤ k) && decide (k ≤ 20)) || k == 29
def Kw (σ σ' : HS) : Prop := Kq wsc wq (fun _ => false) σ σ'
theorem wsc_76 {j : Nat} (hj : 76 ≤ j) : wsc j = false := by
  have h := scj_76 hj
  have e1 : (j == 0) = false := by simp; omega
  have e2 : (j == 47) = false := by simp; omega
  have e3 : (j == 67) = false := by simp; omega
  unfold wsc; rw [h, e1, e2, e3]; rfl
theorem Kp.kw {σ σ' : HS} (h : Kp σ σ') : Kw σ σ' := Kq.mono h (fun j hj => by
  unfold wsc at hj; simp only [Bool.or_eq_false_iff] at hj ⊢; exact hj.1.1.1) (fun k hk => by
  unfold wq at hk; simp only [Bool.or_eq_false_iff] at hk; exact hk.1) (fun j hj => wsc_76 hj)
theorem Fr.kw {S : List Nat} {σ σ' : HS} (h : Fr S σ σ') (hS : S.all wsc = true) (h48 : ∀ k, wq k = false → hA σ' 48 k = hA σ 48 k) : Kw σ σ' := ⟨Nat.le_of_eq h.1.symm, fun j _ => ⟨h.ty j, h.len j⟩, fun j _ => h.Rr j, fun j _ hj => h.2.2.2.2 j (fun z => by
  have := List.all_eq_true.mp hS j z
  rw [this] at hj; cases hj), h48, fun j hj => wsc_76 hj, fun j _ hj => by cases hj⟩
theorem way_inv {σ σ' : HS} {V S C : Nat → Int32} {n : Nat} {FS : Nat → FM} (I : INV σ V S C n FS) (q : Kw σ σ') (e2 : hA σ' 0 2 = hA σ 0 2) (hw : WayI σ') : INV σ' V S C n FS := by
  obtain ⟨t, h1, h2, ⟨t0, B, h3⟩, ⟨p, PS, PW, PV, h4⟩, h5, h6, h7⟩ := I
  exact ⟨Kq.typ q t, Kq.src q t (by decide) (by decide) (by decide) (by decide) (by decide) (by decide) h1, Kq.fm q t (by decide) (by decide) (by decide) (by decide) (Kq.A q (Nat.lt_of_lt_of_le (by decide) t.1) (by decide) 4) (by decide) (by decide) (by decide) (by decide) (by decide) h2, ⟨t0, B, Kq.tap q t (by decide) (by decide) (by decide) (by decide) h3⟩, ⟨p, PS, PW, PV, Kq.pl q t (by decide) (by decide) (by decide) (by decide) (Kq.A q (Nat.lt_of_lt_of_le (by decide) t.1) (by decide) 8) (by decide) (by decide) (by decide) (by decide) h4⟩, Kq.lst q t (by decide) (by decide) (lst4 (by decide)) (by decide) h5, hw, Kq.img q t e2 (by decide) (by decide) (by decide) (by decide) (imgrows (by decide)) h7⟩
theorem nI_m (n : Nat) : nI (n + 1) + (-1 : Int32) = nI n := by
  rw [show (-1 : Int32) = -(1 : Int32) from rfl, ← Int32.sub_eq_add_neg]; exact nI_pred n
theorem nle0 {j : Nat} (h : 0 < j) (h2 : j < 1000) : (nI j ≤ 0) = False := nle (a := j) (b := 0) h h2
theorem gw_shift (K8 : Nat → Int32 → Int32 → Int32 → HS → Option (Unit × HS)) (f c i x4 : Int32) : ∀ (j : Nat) (σ : HS), Typ σ → j < 60 → ∀ nf, j < nf → ∃ σ' nf', lp_X6_goesWay_23 K8 nf 48 f c i x4 (nI j) σ = lp_X6_goesWay_23_b K8 (lp_X6_goesWay_23 K8 nf') 48 f c i x4 (nI 0) σ' ∧ Fr [67] σ σ' ∧ ∀ k, hA σ' 67 k = if 1 ≤ k ∧ k ≤ j then hA σ 67 (k - 1) else hA σ 67 k := by
  intro j
  induction j with
  | zero =>
    intro σ t _ nf hnf
    obtain ⟨nf, rfl⟩ : ∃ k, nf = k + 1 := ⟨nf - 1, by omega⟩
    exact ⟨σ, nf, rfl, Fr.rf, fun k => by rw [if_neg (by omega)]⟩
  | succ j ih =>
    intro σ t hj nf hnf
    obtain ⟨nf, rfl⟩ : ∃ k, nf = k + 1 := ⟨nf - 1, by omega⟩
    have fr : Fr [67] σ (sA σ 67 (j + 1) (hA σ 67 j)) := Fr_sA (by simp)
    obtain ⟨σ', nf', e1, e2, e3⟩ := ih (sA σ 67 (j + 1) (hA σ 67 j)) t (by omega) nf (by omega)
    refine ⟨σ', nf', ?_, fr.seq e2, fun k => ?_⟩
    · rw [← e1]
      show lp_X6_goesWay_23_b K8 (lp_X6_goesWay_23 K8 nf) 48 f c i x4 (nI (j + 1)) σ = _
      unfold lp_X6_goesWay_23_b
      have le := nle0 (j := j + 1) (by omega) (by omega)
      have je := inbE (i := j) (n := 60) (by omega) (by omega)
      have jc := cl1000 (i := j) (by omega)
      have je1 := inbE (i := j + 1) (n := 60) (by omega) (by omega)
      have jc1 := cl1000 (i := j + 1) (by omega)
      simp only [le, if_false, chk_p, lt_p, bd_p, bc_p, oc_n, oc_s, and_self, and_true, true_and, if_true, if_false, isO_sA', isO_sB', isO_rA', hlen_sA, hlen_sB, hlen_rA, hR_sA, hR_sB, hR_rA, Typ_sA', Typ_sB', Typ_rA', O48, r48_0, r48_1, r48_2, r48_3, r48_4, r48_5, r48_6, r48_8, r48_9, r48_10, r48_11, r48_12, r48_15, r48_21, r48_22, r48_23, r48_24, r48_25, r48_28, r48_30, r48_31, r48_32, r48_35, r48_37, r48_39, r48_40, r48_41, O67, l67, t, nI_pred, nI_m, je, jc, je1, jc1]
    · rw [e3]
      simp only [hA_sA, true_and]
      by_cases c1 : 1 ≤ k ∧ k ≤ j
      · rw [if_pos c1, if_neg (by omega), if_pos (by omega)]
      · rw [if_neg c1]
        by_cases c2 : k = j + 1
        · rw [if_pos c2, if_pos (by omega), c2]; rfl
        · rw [if_neg c2, if_neg (by omega)]
theorem gw_exit (K8 : Nat → Int32 → Int32 → Int32 → HS → Option (Unit × HS)) (K23 : Nat → Int32 → Int32 → Int32 → Int32 → Int32 → HS → Option (Unit × HS)) {σ : HS} (t : Typ σ) {f : Nat} {Φ : FM} (hf : f < 7) (hm : MF σ f Φ) (hw : WF Φ) {L H : Nat → Int} (hr : RepA σ 63 Φ L H) (c : Nat) {i : Nat} (hi : i < mN Φ) (k : 2 ≤ mK Φ i) (x3 : Int32) :
    lp_X6_goesWay_23_b K8 K23 48 (nI f) (nI c) x3 (nI (60 * f + i)) (nI 0) σ = K8 48 (nI f) (nI (c + 1)) (nxi (nxt Φ (ovr Φ L H) i)) (sA σ 67 0 (nI (mP Φ i))) := by
  obtain ⟨w0, w60, wr⟩ := hw
  obtain ⟨k5, ku0, ku1, ku, kv, kv0, kp⟩ := wr i hi
  obtain ⟨hn, hc⟩ := hm
  obtain ⟨c1, c2, c3, c4⟩ := hc i hi
  have pe := inbE (i := 60 * f + i) (n := 420) (by omega) (by omega)
  have cp := cl1000 (i := 60 * f + i) (by omega)
  have hu := ku k
  have ue := inbE (i := mU Φ i) (n := 60) (by omega) (by omega)
  have cu := cl1000 (i := mU Φ i) (by omega)
  have z0 : (nI 0 ≤ 0) = True := eq_true (by decide)
  have iz : inb (0 : Int32) 60 = True := inbE (i := 0) (n := 60) (by omega) (by omega)
  have cz : (0 : Int32).toNatClampNeg = 0 := rfl
  have ou : hA σ 66 (mU Φ i) = _ := rep_o (hr (mU Φ i) (by omega))
  have lk1 : (nI (mK Φ i) ≤ 1) = False := nle (a := mK Φ i) (b := 1) (by omega) (by omega)
  have lk2 : (nI (mK Φ i) ≤ 2) = (mK Φ i ≤ 2) := propext (nI_leI (a := mK Φ i) (b := 2) (by omega) (by omega))
  unfold lp_X6_goesWay_23_b
  simp (decide := true) only [chk_p, lt_p, bd_p, bc_p, oc_n, oc_s, and_self, and_true, true_and, if_true, if_false, isO_sA', isO_sB', isO_rA', hlen_sA, hlen_sB, hlen_rA, hR_sA, hR_sB, hR_rA, Typ_sA', Typ_sB', Typ_rA', O48, r48_0, r48_1, r48_2, r48_3, r48_4, r48_5, r48_6, r48_8, r48_9, r48_10, r48_11, r48_12, r48_15, r48_21, r48_22, r48_23, r48_24, r48_25, r48_28, r48_30, r48_31, r48_32, r48_35, r48_37, r48_39, r48_40, r48_41, O51, l51, O52, l52, O53, l53, O54, l54, O66, l66, O67, l67, t, z0, pe, cp, c1, c2, c3, c4, iz, cz, ue, cu, hA_sA, ou, nI_s, if_false, false_and, lk1, lk2]
  unfold nxt
  by_cases o1 : (SP Φ L H (mU Φ i)).isNone = true
  · simp (decide := true) only [o1, if_true, if_false, show ovr Φ L H (mU Φ i) = true from o1]; rfl
  · simp (decide := true) only [o1, if_true, if_false, show ¬ (ovr Φ L H (mU Φ i) = true) from o1]
    by_cases k2 : mK Φ i ≤ 2
    · simp only [k2, if_true]
      rw [if_neg (by omega)]; rfl
    · have hv := kv (by omega)
      have ve := inbE (i := mV Φ i) (n := 60) (by omega) (by omega)
      have cv := cl1000 (i := mV Φ i) (by omega)
      have ov : hA σ 66 (mV Φ i) = _ := rep_o (hr (mV Φ i) (by omega))
      simp (decide := true) only [k2, if_false, chk_p, lt_p, bd_p, bc_p, oc_n, oc_s, and_self, and_true, true_and, if_true, if_false, isO_sA', isO_sB', isO_rA', hlen_sA, hlen_sB, hlen_rA, hR_sA, hR_sB, hR_rA, Typ_sA', Typ_sB', Typ_rA', O48, r48_0, r48_1, r48_2, r48_3, r48_4, r48_5, r48_6, r48_8, r48_9, r48_10, r48_11, r48_12, r48_15, r48_21, r48_22, r48_23, r48_24, r48_25, r48_28, r48_30, r48_31, r48_32, r48_35, r48_37, r48_39, r48_40, r48_41, O66, l66, t, ve, cv, hA_sA, ov, false_and]
      by_cases o2 : (SP Φ L H (mV Φ i)).isNone = true
      · simp (decide := true) only [o2, if_true, if_false]
        rw [if_pos ⟨by omega, o2⟩]; rfl
      · simp (decide := true) only [o2, if_true, if_false]
        rw [if_neg (fun z => o2 z.2)]; rfl
theorem gw_lp {f : Nat} {Φ : FM} (hf : f < 7) (hw : WF Φ) {L H : Nat → Int} : ∀ (n i c : Nat) (σ : HS) (P : Nat → Nat), i < n → i < mN Φ → ovr Φ L H i = true → c + i < 60 → Typ σ → MF σ f Φ → RepA σ 63 Φ L H → (∀ k, k < c → hA σ 67 k = nI (P (c - 1 - k))) → ∀ nf, n < nf →
    ∃ σ', lp_X6_goesWay_8 nf 48 (nI f) (nI c) (nI i) σ = some ((), σ') ∧ Fr [48, 67] σ σ' ∧ (∀ k, k ≠ 29 → hA σ' 48 k = hA σ 48 k) ∧ hA σ' 48 29 = nI (c + (wl Φ (ovr Φ L H) n i).length) ∧ ∀ k, k < c + (wl Φ (ovr Φ L H) n i).length → hA σ' 67 k = nI (if c + (wl Φ (ovr Φ L H) n i).length - 1 - k < c then P (c + (wl Φ (ovr Φ L H) n i).length - 1 - k) else (wl Φ (ovr Φ L H) n i).getD (c + (wl Φ (ovr Φ L H) n i).length - 1 - k - c) 0) := by
  intro n
  induction n with
  | zero => intro i c σ P h; omega
  | succ n ih =>
    intro i c σ P hin him ho hci t hm hr hP nf hnf
    obtain ⟨nf, rfl⟩ : ∃ k, nf = k + 1 := ⟨nf - 1, by omega⟩
    have k2 := ovr_k ho
    have w60 := hw.2.1
    obtain ⟨σ1, nf1, s1, s2, s3⟩ := gw_shift (lp_X6_goesWay_8 nf) (nI f) (nI c) (nI i) (nI (60 * f + i)) c σ t (by omega) 1000 (by omega)
    have t1 := s2.typ t
    have m1 : MF σ1 f Φ := by
      refine ⟨(s2.A (by decide) _).trans hm.1, fun j hj => ?_⟩
      obtain ⟨a, b, c, d⟩ := hm.2 j hj
      exact ⟨(s2.A (by decide) _).trans a, (s2.A (by decide) _).trans b, (s2.A (by decide) _).trans c, (s2.A (by decide) _).trans d⟩
    have r1 : RepA σ1 63 Φ L H := fun j hj => Rep_fr (hr j hj) s2 (by decide) (by decide) (by decide)
    have ex := gw_exit (lp_X6_goesWay_8 nf) (lp_X6_goesWay_23 (lp_X6_goesWay_8 nf) nf1) t1 hf m1 hw r1 c him k2 (nI i)
    have fr : Fr [67] σ (sA σ1 67 0 (nI (mP Φ i))) := s2.seq (Fr_sA (by simp))
    have ne : (nI i = -1) = False := nm1 (by omega)
    have step : lp_X6_goesWay_8 (nf + 1) 48 (nI f) (nI c) (nI i) σ = lp_X6_goesWay_8 nf 48 (nI f) (nI (c + 1)) (nxi (nxt Φ (ovr Φ L H) i)) (sA σ1 67 0 (nI (mP Φ i))) := by
      show lp_X6_goesWay_8_b (lp_X6_goesWay_8 nf) 48 (nI f) (nI c) (nI i) σ = _
      unfold lp_X6_goesWay_8_b
      simp only [ne, if_false, at_ok, bc_p]
      exact s1.trans ex
    have v67 : ∀ k, k < c + 1 → hA (sA σ1 67 0 (nI (mP Φ i))) 67 k = nI (if c - k < c then P (c - k) else mP Φ i) := fun k hk => by
      rw [hA_sA]
      by_cases k0 : k = 0
      · rw [if_pos ⟨rfl, k0⟩, if_neg (by omega)]
      · rw [if_neg (by omega), s3, if_pos (by omega), hP (k - 1) (by omega), if_pos (by omega)]
        congr 2; omega
    cases hx : nxt Φ (ovr Φ L H) i with
    | none =>
      have ew : wl Φ (ovr Φ L H) (n + 1) i = [mP Φ i] := by unfold wl; rw [hx]
      rw [ew]
      rw [hx] at step
      refine ⟨sA (sA σ1 67 0 (nI (mP Φ i))) 48 29 (nI (c + 1)), step.trans ?_, (fr.mono (by simp)).seq (Fr_sA (by simp)), fun k hk => ?_, ?_, fun k hk => ?_⟩
      · obtain ⟨nf, rfl⟩ : ∃ k, nf = k + 1 := ⟨nf - 1, by omega⟩
        show lp_X6_goesWay_8_b (lp_X6_goesWay_8 nf) 48 (nI f) (nI (c + 1)) (-1) _ = _
        unfold lp_X6_goesWay_8_b
        simp only [chk_p, lt_p, bd_p, bc_p, oc_n, oc_s, and_self, and_true, true_and, if_true, if_false, isO_sA', isO_sB', isO_rA', hlen_sA, hlen_sB, hlen_rA, hR_sA, hR_sB, hR_rA, Typ_sA', Typ_sB', Typ_rA', O48, r48_0, r48_1, r48_2, r48_3, r48_4, r48_5, r48_6, r48_8, r48_9, r48_10, r48_11, r48_12, r48_15, r48_21, r48_22, r48_23, r48_24, r48_25, r48_28, r48_30, r48_31, r48_32, r48_35, r48_37, r48_39, r48_40, r48_41, t1]
      · rw [hA_sA, if_neg (by omega)]; exact fr.A (by decide) k
      · rw [hA_sA, if_pos ⟨rfl, rfl⟩]; rfl
      · rw [hA_sA, if_neg (by omega), v67 k hk]
        show nI (if c - k < c then P (c - k) else mP Φ i) = nI (if c + 1 - 1 - k < c then P (c + 1 - 1 - k) else [mP Φ i].getD (c + 1 - 1 - k - c) 0)
        rw [show c + 1 - 1 - k = c - k by omega]
        by_cases z : c - k < c
        · rw [if_pos z, if_pos z]
        · rw [if_neg z, if_neg z, show c - k - c = 0 by omega]; rfl
    | some j =>
      obtain ⟨hj, hoj⟩ := nxt_lt hw.2.2 him k2 hx
      rw [hx] at step
      have m2 : MF (sA σ1 67 0 (nI (mP Φ i))) f Φ := m1
      have r2 : RepA (sA σ1 67 0 (nI (mP Φ i))) 63 Φ L H := fun j hj => Rep_fr (r1 j hj) (Fr_sA (S := [67]) (by simp)) (by decide) (by decide) (by decide)
      obtain ⟨σ', g1, g2, g3, g4, g5⟩ := ih j (c + 1) (sA σ1 67 0 (nI (mP Φ i))) (fun q => if q < c then P q else mP Φ i) (by omega) (by omega) hoj (by omega) t1 m2 r2 (fun k hk => by
        rw [v67 k hk, show c + 1 - 1 - k = c - k by omega]) nf (by omega)
      have ew : wl Φ (ovr Φ L H) (n + 1) i = mP Φ i :: wl Φ (ovr Φ L H) n j := by
        show mP Φ i :: (match nxt Φ (ovr Φ L H) i with | none => [] | some j => wl Φ (ovr Φ L H) n j) = _
        rw [hx]
      rw [ew, List.length_cons]
      refine ⟨σ', step.trans g1, (fr.mono (by simp)).seq g2, fun k hk => (g3 k hk).trans (fr.A (by decide) k), by rw [g4]; congr 1; omega, fun k hk => ?_⟩
      rw [g5 k (by omega)]
      obtain ⟨m, hm'⟩ : ∃ m, m = (wl Φ (ovr Φ L H) n j).length := ⟨_, rfl⟩
      rw [← hm'] at hk ⊢
      rw [show c + 1 + m - 1 - k = c + (m + 1) - 1 - k by omega]
      obtain ⟨q, hq⟩ : ∃ q, q = c + (m + 1) - 1 - k := ⟨_, rfl⟩
      rw [← hq]
      by_cases z : q < c
      · rw [if_pos (by omega), if_pos z, if_pos z]
      · rw [if_neg z]
        by_cases z2 : q = c
        · rw [if_pos (by omega), if_neg z, z2, Nat.sub_self]; rfl
        · obtain ⟨r, hr'⟩ : ∃ r, q - c = r + 1 := ⟨q - c - 1, by omega⟩
          rw [if_neg (show ¬ q < c + 1 by omega), if_neg z, hr', show q - (c + 1) = r by omega]; rfl
theorem CS.kw {σ σ' : HS} {φ f : Nat} {Φ : FM} {V S C : Nat → Int32} (h : CS σ φ f Φ V S C) (hk : Kw σ σ') : CS σ' φ f Φ V S C := by
  obtain ⟨t, h1, h2, h3⟩ := h
  have e : ∀ j, j < 76 → wsc j = false → ∀ k, hA σ' j k = hA σ j k := fun j hj hs k => Kq.A hk (Nat.lt_of_lt_of_le hj t.1) hs k
  refine ⟨Kq.typ hk t, Kq.xf hk h1, ⟨(e 55 (by decide) (by decide) _).trans h2.1, fun i hi => ?_⟩, Kq.src hk t (by decide) (by decide) (by decide) (by decide) (by decide) (by decide) h3⟩
  obtain ⟨a, b, c, d⟩ := h2.2 i hi
  exact ⟨(e 51 (by decide) (by decide) _).trans a, (e 52 (by decide) (by decide) _).trans b, (e 53 (by decide) (by decide) _).trans c, (e 54 (by decide) (by decide) _).trans d⟩
theorem op_span (a w : Int32) : OpOK (f_X5_span 0 a w) (f_X6_span 48 a w) := by
  intro σ V S C n FS I
  have t := I.1
  rcases start I a with ⟨k, φ, hk, rfl, ef, hg, hc, -, em⟩ | ⟨ef, em⟩
  · rcases rng2 w with ⟨e, he, rfl, w0, w2, wm⟩ | ⟨wm, wc⟩
    · obtain ⟨σ1, x1, x2, x3, x4, x5, x6⟩ := c_now hg.1 hc
      have t1 := x3.1
      have xo := th_over x5
      by_cases hx : RT (FS k) (LO V S) (HI V S) = none
      · obtain ⟨σ2, y1, y2, y3, y4, y5, y6⟩ := keepWay_ok hg.1 t1 x3.2.1 x4 hx
        have t2 := y2.typ t1
        have kw2 : Kw σ1 σ2 := y2.kw (by decide) (fun k _ => y2.A (by decide) k)
        have c2 := x3.kw kw2
        have th2 : Th σ2 none := (y2.A (by decide) _).trans (by rw [hx] at x5; exact x5)
        have tl := told_ok t2 th2 he
        obtain ⟨σ3, z1, z2, z3, z4, z5, z6⟩ := m_now hk hg.1 c2
        have t3 := z3.1
        obtain ⟨σ4, g1, g2, g3, g4, g5⟩ := gw_lp hk hg.1 (mN (FS k)) (mN (FS k) - 1) 0 σ3 (fun _ => 0) (by have := hg.1.1; omega) (by have := hg.1.1; omega) (show ovr (FS k) (LO V S) (HI V S) (mN (FS k) - 1) = true by unfold ovr; rw [show SP (FS k) (LO V S) (HI V S) (mN (FS k) - 1) = none from hx]; rfl) (by have := hg.1.2.1; have := hg.1.1; omega) t3 z3.2.2.1 z4 (fun k hk => by omega) 1000 (by have := hg.1.2.1; omega)
        have kw4 : Kw σ3 σ4 := g2.kw (by decide) (fun k hk => g3 k (fun z => by subst z; exact absurd hk (by decide)))
        have kw := ((x2.kw.seq kw2).seq z2.kw).seq kw4
        have ro := rootOf_ok t3 hk z3.2.2.1.1 hg.1
        have a04 : ∀ k, hA σ4 0 k = hA σ2 0 k := fun k => (g2.A (by decide) k).trans (Kq.A z2 (Nat.lt_of_lt_of_le (by decide) t2.1) (by decide) k)
        have a47 : ∀ k, hA σ4 47 k = hA σ2 47 k := fun k => (g2.A (by decide) k).trans (Kq.A z2 (Nat.lt_of_lt_of_le (by decide) t2.1) (by decide) k)
        refine ⟨-9223372036854775807, σ2, σ4, ?_, t2, Nat.le_trans x2.1 kw2.1, ?_, Nat.le_trans z2.1 kw4.1, V, S, C, n, FS, way_inv I kw ?_ ⟨_, y5, (a04 8).trans y4, ?_, fun q hq => ?_⟩⟩
        · rw [hx] at xo
          have xo' : hA σ1 24 2 = 1 := xo
          unfold f_X5_span
          simp only [chk_p, lt_p, bd_p, bc_p, oc_n, oc_s, and_self, and_true, true_and, if_true, if_false, isO_sA', isO_sB', isO_rA', hlen_sA, hlen_sB, hlen_rA, hR_sA, hR_sB, hR_rA, Typ_sA', Typ_sB', Typ_rA', O0, r0_0, r0_1, r0_3, r0_4, r0_5, r0_6, r0_7, O24, r24_0, r24_1, r24_5, r24_6, r24_7, r24_8, r24_9, t, t1, t2, ef, w0, w2, if_false, x1, xo', beq1, y1, tl]
          rfl
        · rw [hx] at z1
          unfold f_X6_span f_X6_goesWay
          simp only [chk_p, lt_p, bd_p, bc_p, oc_n, oc_s, and_self, and_true, true_and, if_true, if_false, isO_sA', isO_sB', isO_rA', hlen_sA, hlen_sB, hlen_rA, hR_sA, hR_sB, hR_rA, Typ_sA', Typ_sB', Typ_rA', O48, r48_0, r48_1, r48_2, r48_3, r48_4, r48_5, r48_6, r48_8, r48_9, r48_10, r48_11, r48_12, r48_15, r48_21, r48_22, r48_23, r48_24, r48_25, r48_28, r48_30, r48_31, r48_32, r48_35, r48_37, r48_39, r48_40, r48_41, t2, t3, em σ2 t2 (kw2.2.2.2.2.1 7 (by decide) |>.trans x2.k7), beq1, wm, if_false, z1, rc, ro]
          rw [show lp_X6_goesWay_8 1000 48 (nI k) 0 (nI (mN (FS k) - 1)) σ3 = _ from g1]
          simp only [chk_p, lt_p, bd_p, bc_p, oc_n, oc_s, and_self, and_true, true_and, if_true, if_false, isO_sA', isO_sB', isO_rA', hlen_sA, hlen_sB, hlen_rA, hR_sA, hR_sB, hR_rA, Typ_sA', Typ_sB', Typ_rA']
        · exact (a04 2).trans ((y3 2 (by decide)).trans (Kq.A x2 (Nat.lt_of_lt_of_le (by decide) t.1) (by decide) 2))
        · rw [g4, Nat.zero_add]
        · have h5 := g5 q (by rw [Nat.zero_add]; exact hq)
          rw [h5, a47, y6 _ (by omega), if_neg (by omega)]
          congr 2; omega
      · obtain ⟨p, hp⟩ := Option.ne_none_iff_exists'.mp hx
        have tl := told_ok t1 x5 he
        obtain ⟨σ2, z1, z2, z3, z4, z5, z6⟩ := m_now hk hg.1 x3
        have t2 := z3.1
        rw [hp] at xo x5 tl z1
        have xo' : hA σ1 24 2 = 0 := x5.1
        have rt := z4 (mN (FS k) - 1) (by have := hg.1.1; omega)
        rw [show SP (FS k) (LO V S) (HI V S) (mN (FS k) - 1) = some p from hp] at rt
        obtain ⟨b1, b2, b3, b4⟩ := rt
        have x5f : f_X5_span 0 (nI k) (nI e) σ = some (EV (some p) e, σ1) := by
          unfold f_X5_span
          simp only [chk_p, lt_p, bd_p, bc_p, oc_n, oc_s, and_self, and_true, true_and, if_true, if_false, isO_sA', isO_sB', isO_rA', hlen_sA, hlen_sB, hlen_rA, hR_sA, hR_sB, hR_rA, Typ_sA', Typ_sB', Typ_rA', O0, r0_0, r0_1, r0_3, r0_4, r0_5, r0_6, r0_7, O24, r24_0, r24_1, r24_5, r24_6, r24_7, r24_8, r24_9, t, t1, ef, w0, w2, if_false, x1, xo', tl]
        have eml := em σ1 t1 x2.k7
        have h3 : e = 0 ∨ e = 1 ∨ e = 2 := by omega
        rcases h3 with z | z | z <;> subst z
        · refine opQ I ⟨_, σ1, σ2, x5f, x2, ?_, z2⟩
          unfold f_X6_span
          simp (decide := true) only [chk_p, lt_p, bd_p, bc_p, oc_n, oc_s, and_self, and_true, true_and, if_true, if_false, isO_sA', isO_sB', isO_rA', hlen_sA, hlen_sB, hlen_rA, hR_sA, hR_sB, hR_rA, Typ_sA', Typ_sB', Typ_rA', O48, r48_0, r48_1, r48_2, r48_3, r48_4, r48_5, r48_6, r48_8, r48_9, r48_10, r48_11, r48_12, r48_15, r48_21, r48_22, r48_23, r48_24, r48_25, r48_28, r48_30, r48_31, r48_32, r48_35, r48_37, r48_39, r48_40, r48_41, t1, t2, eml, beq1, wm, if_false, z1, rc, m_lo hk hg.1 z3]
          rw [show EV (some p) 0 = Int64.ofInt p.1 from rfl, ofI_eq b2]
        · refine opQ I ⟨_, σ1, σ2, x5f, x2, ?_, z2⟩
          unfold f_X6_span
          simp (decide := true) only [chk_p, lt_p, bd_p, bc_p, oc_n, oc_s, and_self, and_true, true_and, if_true, if_false, isO_sA', isO_sB', isO_rA', hlen_sA, hlen_sB, hlen_rA, hR_sA, hR_sB, hR_rA, Typ_sA', Typ_sB', Typ_rA', O48, r48_0, r48_1, r48_2, r48_3, r48_4, r48_5, r48_6, r48_8, r48_9, r48_10, r48_11, r48_12, r48_15, r48_21, r48_22, r48_23, r48_24, r48_25, r48_28, r48_30, r48_31, r48_32, r48_35, r48_37, r48_39, r48_40, r48_41, t1, t2, eml, beq1, wm, if_false, z1, rc, m_hi hk hg.1 z3]
          rw [show EV (some p) 1 = Int64.ofInt p.2 from rfl, ofI_eq b3]
        · obtain ⟨σ3, u1, u2, u3⟩ := m_widthNow hk hg.1 z3
          rw [hp] at u1
          refine opQ I ⟨_, σ1, σ3, x5f, x2, ?_, z2.seq u2⟩
          unfold f_X6_span
          simp (decide := true) only [chk_p, lt_p, bd_p, bc_p, oc_n, oc_s, and_self, and_true, true_and, if_true, if_false, isO_sA', isO_sB', isO_rA', hlen_sA, hlen_sB, hlen_rA, hR_sA, hR_sB, hR_rA, Typ_sA', Typ_sB', Typ_rA', O48, r48_0, r48_1, r48_2, r48_3, r48_4, r48_5, r48_6, r48_8, r48_9, r48_10, r48_11, r48_12, r48_15, r48_21, r48_22, r48_23, r48_24, r48_25, r48_28, r48_30, r48_31, r48_32, r48_35, r48_37, r48_39, r48_40, r48_41, t1, t2, eml, beq1, wm, if_false, z1, rc, u1]
          rfl
    · refine opN I (-9223372036854775808) ?_ ?_
      · unfold f_X5_span
        rcases wc with wc | ⟨wc, wc2⟩
        · simp only [chk_p, lt_p, bd_p, bc_p, oc_n, oc_s, and_self, and_true, true_and, if_true, if_false, isO_sA', isO_sB', isO_rA', hlen_sA, hlen_sB, hlen_rA, hR_sA, hR_sB, hR_rA, Typ_sA', Typ_sB', Typ_rA', O0, r0_0, r0_1, r0_3, r0_4, r0_5, r0_6, r0_7, t, ef, wc]
        · simp only [chk_p, lt_p, bd_p, bc_p, oc_n, oc_s, and_self, and_true, true_and, if_true, if_false, isO_sA', isO_sB', isO_rA', hlen_sA, hlen_sB, hlen_rA, hR_sA, hR_sB, hR_rA, Typ_sA', Typ_sB', Typ_rA', O0, r0_0, r0_1, r0_3, r0_4, r0_5, r0_6, r0_7, t, ef, wc, wc2, if_false]
      · unfold f_X6_span
        simp only [chk_p, lt_p, bd_p, bc_p, oc_n, oc_s, and_self, and_true, true_and, if_true, if_false, isO_sA', isO_sB', isO_rA', hlen_sA, hlen_sB, hlen_rA, hR_sA, hR_sB, hR_rA, Typ_sA', Typ_sB', Typ_rA', O48, r48_0, r48_1, r48_2, r48_3, r48_4, r48_5, r48_6, r48_8, r48_9, r48_10, r48_11, r48_12, r48_15, r48_21, r48_22, r48_23, r48_24, r48_25, r48_28, r48_30, r48_31, r48_32, r48_35, r48_37, r48_39, r48_40, r48_41, t, em σ t rfl, beq1, wm, if_false]
  · refine opN I (-9223372036854775808) ?_ ?_
    · unfold f_X5_span
      simp only [chk_p, lt_p, bd_p, bc_p, oc_n, oc_s, and_self, and_true, true_and, if_true, if_false, isO_sA', isO_sB', isO_rA', hlen_sA, hlen_sB, hlen_rA, hR_sA, hR_sB, hR_rA, Typ_sA', Typ_sB', Typ_rA', O0, r0_0, r0_1, r0_3, r0_4, r0_5, r0_6, r0_7, t, ef]
    · unfold f_X6_span
      simp only [chk_p, lt_p, bd_p, bc_p, oc_n, oc_s, and_self, and_true, true_and, if_true, if_false, isO_sA', isO_sB', isO_rA', hlen_sA, hlen_sB, hlen_rA, hR_sA, hR_sB, hR_rA, Typ_sA', Typ_sB', Typ_rA', O48, r48_0, r48_1, r48_2, r48_3, r48_4, r48_5, r48_6, r48_8, r48_9, r48_10, r48_11, r48_12, r48_15, r48_21, r48_22, r48_23, r48_24, r48_25, r48_28, r48_30, r48_31, r48_32, r48_35, r48_37, r48_39, r48_40, r48_41, t, em]
