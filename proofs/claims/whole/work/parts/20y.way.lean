/-! the way to what is over -/
def nxt (Φ : FM) (o : Nat → Bool) (i : Nat) : Option Nat := if o (mU Φ i) = true then some (mU Φ i) else if 3 ≤ mK Φ i ∧ o (mV Φ i) = true then some (mV Φ i) else none
def wl (Φ : FM) (o : Nat → Bool) : Nat → Nat → List Nat
  | 0, _ => []
  | n + 1, i => mP Φ i :: (match nxt Φ o i with | none => [] | some j => wl Φ o n j)
def nxi (x : Option Nat) : Int32 := match x with | none => -1 | some j => nI j
theorem nxt_lt {Φ : FM} (hw : wfR Φ) {o : Nat → Bool} {i j : Nat} (hi : i < mN Φ) (k : 2 ≤ mK Φ i) (h : nxt Φ o i = some j) : j < i ∧ o j = true := by
  obtain ⟨k5, ku0, ku1, ku, kv, kv0, kp⟩ := hw i hi
  unfold nxt at h
  by_cases c1 : o (mU Φ i) = true
  · rw [if_pos c1] at h; cases h; exact ⟨ku k, c1⟩
  · rw [if_neg c1] at h
    by_cases c2 : 3 ≤ mK Φ i ∧ o (mV Φ i) = true
    · rw [if_pos c2] at h; cases h; exact ⟨kv c2.1, c2.2⟩
    · rw [if_neg c2] at h; cases h
def ovr (Φ : FM) (L H : Nat → Int) (i : Nat) : Bool := (SP Φ L H i).isNone
theorem ovr_k {Φ : FM} {L H : Nat → Int} {i : Nat} (h : ovr Φ L H i = true) : 2 ≤ mK Φ i := by
  by_cases k0 : mK Φ i = 0
  · unfold ovr at h; rw [SP_0 k0] at h; cases h
  by_cases k1 : mK Φ i = 1
  · unfold ovr at h; rw [SP_1 k1] at h; cases h
  omega
theorem rep_o {σ : HS} {t i : Nat} {x : Option (Int × Int)} (h : Rep σ t i x) : hA σ (t + 3) i = if x.isNone = true then 1 else 0 := by
  cases x with
  | none => rw [if_pos (show (none : Option (Int × Int)).isNone = true from rfl)]; exact h
  | some p => rw [if_neg (show ¬ (some p).isNone = true from fun z => by cases z)]; exact h.1
theorem firstOver_ok {σ : HS} (t : Typ σ) {φ : Nat} {Φ : FM} (hx : XF σ φ Φ) (hw : WF Φ) {L H : Nat → Int} (hr : ∀ j, j < mN Φ → Rep σ 28 j (SP Φ L H j)) {i : Nat} (hi : i < mN Φ) (k : 2 ≤ mK Φ i) : f_X4_firstOverOf 24 φ (nI i) σ = some (nxi (nxt Φ (ovr Φ L H) i), σ) := by
  obtain ⟨ft, hn, hc⟩ := hx
  obtain ⟨c1, c2, c3, c4, c5⟩ := hc i hi
  obtain ⟨w0, w60, wr⟩ := hw
  obtain ⟨k5, ku0, ku1, ku, kv, kv0, kp⟩ := wr i hi
  obtain ⟨f0, f1, ⟨a1, a2, a3⟩, -, ⟨d1, d2, d3⟩, ⟨e1, e2, e3⟩, -⟩ := ft
  have ib := inbE (i := i) hi (by omega)
  have ci := cl1000 (i := i) (by omega)
  have q1 := eq_true f1
  have q2 := eq_true a2
  have q3 := eq_true d2
  have q4 := eq_true e2
  have hu := ku k
  have nk : (mK Φ i ≤ 1) = False := eq_false (by omega)
  rw [if_neg (by omega)] at c3 c4
  have ue := inbE (i := mU Φ i) (n := 60) (by omega) (by omega)
  have cu := cl1000 (i := mU Φ i) (by omega)
  have lk : (nI (mK Φ i) ≤ 1) = False := nle (a := mK Φ i) (b := 1) (by omega) (by omega) |> fun _ => eq_false (by rw [show (1 : Int32) = nI 1 from rfl, nI_leI (by omega) (by omega)]; omega)
  have em : f_X0_isMade (nI (mK Φ i)) σ = some (1, σ) := by unfold f_X0_isMade; rw [if_neg (of_eq_false lk)]
  have ou : hA σ 31 (mU Φ i) = _ := rep_o (hr (mU Φ i) (by omega))
  unfold f_X4_firstOverOf
  simp only [chk_p, lt_p, bd_p, bc_p, oc_n, oc_s, and_self, and_true, true_and, if_true, if_false, isO_sA', isO_sB', isO_rA', hlen_sA, hlen_sB, hlen_rA, hR_sA, hR_sB, hR_rA, Typ_sA', Typ_sB', Typ_rA', O24, r24_0, r24_1, r24_5, r24_6, r24_7, r24_8, r24_9, O28, r28_0, r28_1, r28_2, O31, l31, t, q1, q2, q3, q4, a1, a3, d1, d3, e1, e3, ib, ci, c1, c3, em, beq1, if_false, ue, cu, ou]
  unfold nxt
  by_cases o1 : (SP Φ L H (mU Φ i)).isNone = true
  · rw [if_pos o1, if_neg (by decide), if_pos (show ovr Φ L H (mU Φ i) = true from o1)]; rfl
  · rw [if_neg o1, if_pos rfl, if_neg (show ¬ ovr Φ L H (mU Φ i) = true from o1)]
    by_cases k2 : mK Φ i = 2
    · rw [if_pos k2] at c4
      have o1' : ((if (SP Φ L H (mU Φ i)).isNone = true then (1 : Int32) else 0) = 0) = True := by rw [if_neg o1]; exact eq_true rfl
      simp only [c4, ue, cu, ou, o1', chk_p, lt_p, bd_p, bc_p, oc_n, oc_s, and_self, and_true, true_and, if_true, if_false, isO_sA', isO_sB', isO_rA', hlen_sA, hlen_sB, hlen_rA, hR_sA, hR_sB, hR_rA, Typ_sA', Typ_sB', Typ_rA']
      rw [if_neg (by omega)]; rfl
    · rw [if_neg k2] at c4
      have hv := kv (by omega)
      have ve := inbE (i := mV Φ i) (n := 60) (by omega) (by omega)
      have cv := cl1000 (i := mV Φ i) (by omega)
      have ov : hA σ 31 (mV Φ i) = _ := rep_o (hr (mV Φ i) (by omega))
      by_cases o2 : (SP Φ L H (mV Φ i)).isNone = true
      · rw [if_pos o2] at ov
        simp only [c4, ve, cv, ov, beq1, if_false, chk_p, lt_p, bd_p, bc_p, oc_n, oc_s, and_self, and_true, true_and, if_true, if_false, isO_sA', isO_sB', isO_rA', hlen_sA, hlen_sB, hlen_rA, hR_sA, hR_sB, hR_rA, Typ_sA', Typ_sB', Typ_rA']
        rw [if_pos ⟨by omega, o2⟩]; rfl
      · rw [if_neg o2] at ov
        simp only [c4, ve, cv, ov, chk_p, lt_p, bd_p, bc_p, oc_n, oc_s, and_self, and_true, true_and, if_true, if_false, isO_sA', isO_sB', isO_rA', hlen_sA, hlen_sB, hlen_rA, hR_sA, hR_sB, hR_rA, Typ_sA', Typ_sB', Typ_rA']
        rw [if_neg (fun z => o2 z.2)]; rfl
theorem Rep_fr {S : List Nat} {σ σ' : HS} {t i : Nat} {x : Option (Int × Int)} (h : Rep σ t i x) (hf : Fr S σ σ') (h1 : t + 1 ∉ S) (h2 : t + 2 ∉ S) (h3 : t + 3 ∉ S) : Rep σ' t i x := by
  cases x with
  | none => exact (hf.A h3 i).trans h
  | some p =>
    obtain ⟨a1, a2, a3, a4⟩ := h
    exact ⟨(hf.A h3 i).trans a1, (congrArg Int64.toInt (hf.B h1 i)).trans a2, (congrArg Int64.toInt (hf.B h2 i)).trans a3, a4⟩
theorem keepWay_lp {φ : Nat} {Φ : FM} (hw : WF Φ) {L H : Nat → Int} : ∀ (n i c : Nat) (σ : HS), i < n → i < mN Φ → ovr Φ L H i = true → c + i < 60 → Typ σ → XF σ φ Φ → (∀ j, j < mN Φ → Rep σ 28 j (SP Φ L H j)) → hA σ 0 8 = nI c → ∀ nf, n < nf →
    ∃ σ', lp_X5_keepWay_12 nf 0 φ (nI i) σ = some ((), σ') ∧ Fr [0, 47] σ σ' ∧ (∀ k, k ≠ 8 → hA σ' 0 k = hA σ 0 k) ∧ hA σ' 0 8 = nI (c + (wl Φ (ovr Φ L H) n i).length) ∧ c + (wl Φ (ovr Φ L H) n i).length ≤ 60 ∧ (∀ k, k < c → hA σ' 47 k = hA σ 47 k) ∧ ∀ k, k < (wl Φ (ovr Φ L H) n i).length → hA σ' 47 (c + k) = nI ((wl Φ (ovr Φ L H) n i).getD k 0) := by
  intro n
  induction n with
  | zero => intro i c σ h; omega
  | succ n ih =>
    intro i c σ hin him ho hci t hx hr h8 nf hnf
    obtain ⟨nf, rfl⟩ : ∃ k, nf = k + 1 := ⟨nf - 1, by omega⟩
    have k2 := ovr_k ho
    have w60 := hw.2.1
    have fr : Fr [0, 47] σ (sA (sA σ 47 c (nI (mP Φ i))) 0 8 (nI (c + 1))) := (Fr_sA (by simp)).seq (Fr_sA (by simp))
    have t1 : Typ (sA (sA σ 47 c (nI (mP Φ i))) 0 8 (nI (c + 1))) := t
    have hx1 := hx.fr fr (by decide)
    have hr1 : ∀ j, j < mN Φ → Rep (sA (sA σ 47 c (nI (mP Φ i))) 0 8 (nI (c + 1))) 28 j (SP Φ L H j) := fun j hj => Rep_fr (hr j hj) fr (by decide) (by decide) (by decide)
    have fo := firstOver_ok t1 hx1 hw hr1 him k2
    obtain ⟨ft, hn, hc⟩ := hx
    obtain ⟨c1, c2, c3, c4, c5⟩ := hc i him
    obtain ⟨f0, f1, -, ⟨b1, b2, b3⟩, -⟩ := ft
    have ib := inbE (i := i) him (by omega)
    have ci := cl1000 (i := i) (by omega)
    have ce := inbE (i := c) (n := 60) (by omega) (by omega)
    have cc := cl1000 (i := c) (by omega)
    have q1 := eq_true f1
    have q2 := eq_true b2
    have i0 : (nI i < 0) = False := by rw [i_lt, nT (by omega), z320]; exact eq_false (by omega)
    have l60 : (60 ≤ nI c) = False := by rw [show (60 : Int32) = nI 60 from rfl]; exact nle (by omega) (by omega)
    have step : lp_X5_keepWay_12 (nf + 1) 0 φ (nI i) σ = lp_X5_keepWay_12 nf 0 φ (nxi (nxt Φ (ovr Φ L H) i)) (sA (sA σ 47 c (nI (mP Φ i))) 0 8 (nI (c + 1))) := by
      show lp_X5_keepWay_12_b (lp_X5_keepWay_12 nf) 0 φ (nI i) σ = _
      unfold lp_X5_keepWay_12_b
      simp (decide := true) only [i0, l60, if_false, chk_p, lt_p, bd_p, bc_p, oc_n, oc_s, and_self, and_true, true_and, if_true, if_false, isO_sA', isO_sB', isO_rA', hlen_sA, hlen_sB, hlen_rA, hR_sA, hR_sB, hR_rA, Typ_sA', Typ_sB', Typ_rA', O0, r0_0, r0_1, r0_3, r0_4, r0_5, r0_6, r0_7, O24, r24_0, r24_1, r24_5, r24_6, r24_7, r24_8, r24_9, O47, l47, t, h8, q1, q2, b1, b3, ib, ci, ce, cc, c2, hA_sA, false_and, nI_s, fo]
    have v0 : ∀ k, k ≠ 8 → hA (sA (sA σ 47 c (nI (mP Φ i))) 0 8 (nI (c + 1))) 0 k = hA σ 0 k := fun k hk => by simp (decide := true) only [hA_sA, hk, and_false, false_and, if_false]
    have v8 : hA (sA (sA σ 47 c (nI (mP Φ i))) 0 8 (nI (c + 1))) 0 8 = nI (c + 1) := by simp (decide := true) only [hA_sA, and_self, if_true]
    have v47 : ∀ k, hA (sA (sA σ 47 c (nI (mP Φ i))) 0 8 (nI (c + 1))) 47 k = if k = c then nI (mP Φ i) else hA σ 47 k := fun k => by simp (decide := true) only [hA_sA, true_and, false_and, if_false]
    cases hx : nxt Φ (ovr Φ L H) i with
    | none =>
      have ew : wl Φ (ovr Φ L H) (n + 1) i = [mP Φ i] := by unfold wl; rw [hx]
      rw [ew]
      rw [hx] at step
      refine ⟨_, step.trans ?_, fr, v0, v8, by simp; omega, fun k hk => ?_, fun k hk => ?_⟩
      · obtain ⟨nf, rfl⟩ : ∃ k, nf = k + 1 := ⟨nf - 1, by omega⟩
        show lp_X5_keepWay_12_b (lp_X5_keepWay_12 nf) 0 φ (-1) _ = _
        unfold lp_X5_keepWay_12_b
        exact if_pos (by decide)
      · rw [v47, if_neg (by omega)]
      · have : k = 0 := by simp at hk; omega
        subst this
        rw [v47, if_pos (by omega)]; rfl
    | some j =>
      obtain ⟨hj, hoj⟩ := nxt_lt hw.2.2 him k2 hx
      rw [hx] at step
      obtain ⟨σ', g1, g2, g3, g4, g5, g6, g7⟩ := ih j (c + 1) _ (by omega) (by omega) hoj (by omega) t1 hx1 hr1 v8 nf (by omega)
      have ew : wl Φ (ovr Φ L H) (n + 1) i = mP Φ i :: wl Φ (ovr Φ L H) n j := by
        show mP Φ i :: (match nxt Φ (ovr Φ L H) i with | none => [] | some j => wl Φ (ovr Φ L H) n j) = _
        rw [hx]
      rw [ew, List.length_cons]
      refine ⟨σ', step.trans g1, fr.seq g2, fun k hk => (g3 k hk).trans (v0 k hk), by rw [g4]; congr 1; omega, by omega, fun k hk => ?_, fun k hk => ?_⟩
      · rw [g6 k (by omega), v47, if_neg (by omega)]
      · cases k with
        | zero => rw [Nat.add_zero, g6 c (by omega), v47, if_pos rfl]; rfl
        | succ k => rw [show c + (k + 1) = c + 1 + k by omega, g7 k (by omega)]; rfl
theorem keepWay_ok {φ : Nat} {Φ : FM} (hw : WF Φ) {L H : Nat → Int} {σ : HS} (t : Typ σ) (hx : XF σ φ Φ) (hr : ∀ j, j < mN Φ → Rep σ 28 j (SP Φ L H j)) (ho : SP Φ L H (mN Φ - 1) = none) :
    ∃ σ', f_X5_keepWay 0 φ σ = some ((), σ') ∧ Fr [0, 47] σ σ' ∧ (∀ k, k ≠ 8 → hA σ' 0 k = hA σ 0 k) ∧ hA σ' 0 8 = nI (wl Φ (ovr Φ L H) (mN Φ) (mN Φ - 1)).length ∧ (wl Φ (ovr Φ L H) (mN Φ) (mN Φ - 1)).length ≤ 60 ∧ ∀ k, k < (wl Φ (ovr Φ L H) (mN Φ) (mN Φ - 1)).length → hA σ' 47 k = nI ((wl Φ (ovr Φ L H) (mN Φ) (mN Φ - 1)).getD k 0) := by
  have w1 := hw.1
  have w60 := hw.2.1
  have fr : Fr [0, 47] σ (sA σ 0 8 0) := Fr_sA (by simp)
  obtain ⟨σ', g1, g2, g3, g4, g5, g6, g7⟩ := keepWay_lp hw (mN Φ) (mN Φ - 1) 0 (sA σ 0 8 0) (by omega) (by omega) (by unfold ovr; rw [ho]; rfl) (by omega) t (hx.fr fr (by decide)) (fun j hj => Rep_fr (hr j hj) fr (by decide) (by decide) (by decide)) (by rw [hA_sA, if_pos ⟨rfl, rfl⟩]; rfl) 1000 (by omega)
  refine ⟨σ', ?_, fr.seq g2, fun k hk => (g3 k hk).trans (by rw [hA_sA, if_neg (by omega)]), by rw [g4, Nat.zero_add], by omega, fun k hk => ?_⟩
  · have q1 := eq_true hx.1.2.1
    have h76 := hx.1.1
    have hn := hx.2.1
    obtain ⟨m, hm⟩ : ∃ m, mN Φ = m + 1 := ⟨mN Φ - 1, by omega⟩
    rw [hm, Nat.add_sub_cancel] at g1
    rw [hm] at hn
    unfold f_X5_keepWay
    simp only [chk_p, lt_p, bd_p, bc_p, oc_n, oc_s, and_self, and_true, true_and, if_true, if_false, isO_sA', isO_sB', isO_rA', hlen_sA, hlen_sB, hlen_rA, hR_sA, hR_sB, hR_rA, Typ_sA', Typ_sB', Typ_rA', O0, t, q1, hA_sA, show ¬ (φ = 0) by omega, false_and, if_false, hn, nI_pred]
    exact g1
  · rw [← g7 k hk, Nat.zero_add]
