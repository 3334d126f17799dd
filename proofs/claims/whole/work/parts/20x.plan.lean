/-! plan -/
theorem plan_inv {σ : HS} {V S C : Nat → Int32} {n : Nat} {FS : Nat → FM} (I : INV σ V S C n FS) {p : Nat} {PS PW PV : Nat → Int32} (hp : PlI σ 1 6 71 36 p PS PW PV) (h8 : p < 8) {a w v : Int32} (ha : rgI a 0 5) (hw : w = 0 ∧ rgI v (-99) 99 ∨ w = 1 ∧ rgI v 0 20 ∨ w = 2 ∧ rgI v 0 4) :
    INV (sA (sA (sA (sA (sA (sA (sA (sA σ 6 p a) 7 p w) 8 p v) 1 8 (nI (p + 1))) 71 (3 * p) a) 71 (3 * p + 1) w) 71 (3 * p + 2) v) 48 36 (nI (p + 1))) V S C n FS := by
  obtain ⟨t, h1, h2, ⟨m, B, ht⟩, -, h5, h6, h7⟩ := I
  have q : KL [1, 6, 7, 8, 48, 71] [36] [] σ (sA (sA (sA (sA (sA (sA (sA (sA σ 6 p a) 7 p w) 8 p v) 1 8 (nI (p + 1))) 71 (3 * p) a) 71 (3 * p + 1) w) 71 (3 * p + 2) v) 48 36 (nI (p + 1))) := (((((((KL_sA (by decide) (by decide) (by decide) (fun z => by omega)).seq (KL_sA (by decide) (by decide) (by decide) (fun z => by omega))).seq (KL_sA (by decide) (by decide) (by decide) (fun z => by omega))).seq (KL_sA (by decide) (by decide) (by decide) (by decide))).seq (KL_sA (by decide) (by decide) (by decide) (fun z => by omega))).seq (KL_sA (by decide) (by decide) (by decide) (fun z => by omega))).seq (KL_sA (by decide) (by decide) (by decide) (fun z => by omega))).seq (KL_sA (by decide) (by decide) (by decide) (fun _ => by decide))
  refine ⟨Kq.typ q t, Kq.src q t (by decide) (by decide) (by decide) (by decide) (by decide) (by decide) h1, Kq.fm q t (by decide) (by decide) (by decide) (by decide) (by simp (decide := true) only [hA_sA, false_and, and_false, if_false]) (by decide) (by decide) (by decide) (by decide) (by decide) h2, ⟨m, B, Kq.tap q t (by decide) (by decide) (by decide) (by decide) ht⟩, ⟨p + 1, up1 PS p a, up1 PW p w, up1 PV p v, by omega, ?_, ?_, fun k hk => ?_⟩, Kq.lst q t (by decide) (by decide) (lst4 (by decide)) (by decide) h5, Kq.way q t (Kq.A q (Nat.lt_of_lt_of_le (by decide) t.1) (by decide) 8) (by decide) (by decide) (by decide) h6, Kq.img q t (Kq.A q (Nat.lt_of_lt_of_le (by decide) t.1) (by decide) 2) (by decide) (by decide) (by decide) (by decide) (imgrows (by decide)) h7⟩
  · simp (decide := true) only [hA_sA, false_and, and_false, if_false, and_self, if_true]
  · simp (decide := true) only [hA_sA, and_self, if_true]
  · have m0 : (3 * k = 3 * p) = (k = p) := propext ⟨fun z => by omega, fun z => by omega⟩
    have m1 : (3 * k + 1 = 3 * p + 1) = (k = p) := propext ⟨fun z => by omega, fun z => by omega⟩
    have m2 : (3 * k + 2 = 3 * p + 2) = (k = p) := propext ⟨fun z => by omega, fun z => by omega⟩
    have m3 : (3 * k = 3 * p + 1) = False := eq_false (by omega)
    have m4 : (3 * k = 3 * p + 2) = False := eq_false (by omega)
    have m5 : (3 * k + 1 = 3 * p) = False := eq_false (by omega)
    have m6 : (3 * k + 1 = 3 * p + 2) = False := eq_false (by omega)
    have m7 : (3 * k + 2 = 3 * p) = False := eq_false (by omega)
    have m8 : (3 * k + 2 = 3 * p + 1) = False := eq_false (by omega)
    by_cases e : k = p
    · subst e
      simp (decide := true) only [hA_sA, up1, m0, m1, m2, m3, m4, m5, m6, m7, m8, false_and, and_false, true_and, if_false, and_self, if_true, Nat.reduceAdd]
      exact ⟨ha, hw⟩
    · obtain ⟨⟨a1, a2, a3⟩, ⟨d1, d2, d3⟩, r⟩ := hp.2.2.2 k (by omega)
      simp (decide := true) only [hA_sA, up1, m0, m1, m2, m3, m4, m5, m6, m7, m8, e, false_and, and_false, true_and, if_false, and_self, if_true, Nat.reduceAdd]
      exact ⟨⟨a1, a2, a3⟩, ⟨d1, d2, d3⟩, r⟩
theorem plan0_inv {σ : HS} {V S C : Nat → Int32} {n : Nat} {FS : Nat → FM} (I : INV σ V S C n FS) : INV (sA (sA σ 1 8 0) 48 36 0) V S C n FS := by
  obtain ⟨t, h1, h2, ⟨m, B, ht⟩, -, h5, h6, h7⟩ := I
  have q : KL [1, 48] [36] [] σ (sA (sA σ 1 8 0) 48 36 0) := (KL_sA (by decide) (by decide) (by decide) (by decide)).seq (KL_sA (by decide) (by decide) (by decide) (fun _ => by decide))
  refine ⟨Kq.typ q t, Kq.src q t (by decide) (by decide) (by decide) (by decide) (by decide) (by decide) h1, Kq.fm q t (by decide) (by decide) (by decide) (by decide) (by simp (decide := true) only [hA_sA, false_and, and_false, if_false]) (by decide) (by decide) (by decide) (by decide) (by decide) h2, ⟨m, B, Kq.tap q t (by decide) (by decide) (by decide) (by decide) ht⟩, ⟨0, fun _ => 0, fun _ => 0, fun _ => 0, by omega, ?_, ?_, fun k hk => by omega⟩, Kq.lst q t (by decide) (by decide) (lst4 (by decide)) (by decide) h5, Kq.way q t (Kq.A q (Nat.lt_of_lt_of_le (by decide) t.1) (by decide) 8) (by decide) (by decide) (by decide) h6, Kq.img q t (Kq.A q (Nat.lt_of_lt_of_le (by decide) t.1) (by decide) 2) (by decide) (by decide) (by decide) (by decide) (imgrows (by decide)) h7⟩
  · simp (decide := true) only [hA_sA, false_and, and_false, if_false, and_self, if_true]
  · simp (decide := true) only [hA_sA, and_self, if_true]
theorem z99 : (99 : Int32).toInt = 99 := rfl
theorem z20 : (20 : Int32).toInt = 20 := rfl
abbrev plok (k : Nat) (v : Int32) : Prop := (if k = 0 then -99 else 0) ≤ v.toInt ∧ v.toInt ≤ (if k = 0 then 99 else if k = 1 then 20 else 4)
theorem plx {k : Nat} (hk : k < 3) {v : Int32} (h : plok k v) : nI k = 0 ∧ rgI v (-99) 99 ∨ nI k = 1 ∧ rgI v 0 20 ∨ nI k = 2 ∧ rgI v 0 4 := by
  have h3 : k = 0 ∨ k = 1 ∨ k = 2 := by omega
  rcases h3 with z | z | z <;> subst z
  · exact Or.inl ⟨rfl, h⟩
  · exact Or.inr (Or.inl ⟨rfl, h⟩)
  · exact Or.inr (Or.inr ⟨rfl, h⟩)
theorem xplan_ok {σ : HS} (t : Typ σ) {s : Nat} (hs : s < 6) {k : Nat} (hk : k < 3) (v : Int32) {p : Nat} (hp : p ≤ 8) (e8 : hA σ 1 8 = nI p) :
    f_X5_plan 0 (nI s) (nI k) v σ = some (if plok k v then (if p = 8 then (-4 : Int32) else nI (p + 1)) else -2, if plok k v then (if p = 8 then σ else sA (sA (sA (sA σ 6 p (nI s)) 7 p (nI k)) 8 p v) 1 8 (nI (p + 1))) else σ) := by
  have c1 := inS hs
  have ne : (nI s = -1) = False := nm1 (by omega)
  have pe : p < 8 → inb (nI p) 8 = True := fun h => inbE h (by omega)
  have cp := cl1000 (i := p) (by omega)
  have k0 : (nI k < 0) = False := by rw [i_lt, nT (by omega), z320]; exact eq_false (by omega)
  have k2 : (nI k ≤ 2) = True := by rw [i_le, nT (by omega)]; exact eq_true (by have : (2 : Int32).toInt = 2 := rfl; omega)
  have lq : (nI p < 8) = (p < 8) := by rw [i_lt, nT (by omega), z8]; exact propext ⟨fun z => by omega, fun z => by omega⟩
  have h3 : k = 0 ∨ k = 1 ∨ k = 2 := by omega
  have push : p < 8 → True := fun _ => trivial
  unfold f_X5_plan
  rcases h3 with z | z | z
  · subst z
    have eb := mb_ok 0 (by decide) v σ
    by_cases hv : plok 0 v
    · rw [if_pos (show (if 0 = 0 then -99 else 0) ≤ v.toInt ∧ v.toInt ≤ (if 0 = 1 then 20 else 99) from hv)] at eb
      rw [if_pos hv, if_pos hv]
      by_cases p8 : p = 8
      · have lp : (p < 8) = False := eq_false (by omega)
        simp (decide := true) only [isSource_ok, yif c1, ne, k0, k2, eb, beq1, e8, lq, lp, p8, if_false, chk_p, lt_p, bd_p, bc_p, oc_n, oc_s, and_self, and_true, true_and, if_true, if_false, isO_sA', isO_sB', isO_rA', hlen_sA, hlen_sB, hlen_rA, hR_sA, hR_sB, hR_rA, Typ_sA', Typ_sB', Typ_rA', O0, r0_0, r0_1, r0_3, r0_4, r0_5, r0_6, r0_7, O1, r1_0, r1_1, r1_2, r1_3, r1_5, r1_6, r1_7, t]
      · have lp : (p < 8) = True := eq_true (by omega)
        simp (decide := true) only [isSource_ok, yif c1, ne, k0, k2, eb, beq1, e8, lq, lp, p8, pe (by omega), cp, hA_sA, nI_s, if_false, false_and, and_false, chk_p, lt_p, bd_p, bc_p, oc_n, oc_s, and_self, and_true, true_and, if_true, if_false, isO_sA', isO_sB', isO_rA', hlen_sA, hlen_sB, hlen_rA, hR_sA, hR_sB, hR_rA, Typ_sA', Typ_sB', Typ_rA', O0, r0_0, r0_1, r0_3, r0_4, r0_5, r0_6, r0_7, O1, r1_0, r1_1, r1_2, r1_3, r1_5, r1_6, r1_7, O6, l6, O7, l7, O8, l8, t]
    · rw [if_neg (show ¬ ((if 0 = 0 then -99 else 0) ≤ v.toInt ∧ v.toInt ≤ (if 0 = 1 then 20 else 99)) from hv)] at eb
      rw [if_neg hv, if_neg hv]; simp (decide := true) only [isSource_ok, yif c1, ne, k0, k2, eb, beq1, if_false, chk_p, lt_p, bd_p, bc_p, oc_n, oc_s, and_self, and_true, true_and, if_true, if_false, isO_sA', isO_sB', isO_rA', hlen_sA, hlen_sB, hlen_rA, hR_sA, hR_sB, hR_rA, Typ_sA', Typ_sB', Typ_rA']
  · subst z
    have eb := mb_ok 1 (by decide) v σ
    by_cases hv : plok 1 v
    · rw [if_pos (show (if 1 = 0 then -99 else 0) ≤ v.toInt ∧ v.toInt ≤ (if 1 = 1 then 20 else 99) from hv)] at eb
      rw [if_pos hv, if_pos hv]
      by_cases p8 : p = 8
      · have lp : (p < 8) = False := eq_false (by omega)
        simp (decide := true) only [isSource_ok, yif c1, ne, k0, k2, eb, beq1, e8, lq, lp, p8, if_false, chk_p, lt_p, bd_p, bc_p, oc_n, oc_s, and_self, and_true, true_and, if_true, if_false, isO_sA', isO_sB', isO_rA', hlen_sA, hlen_sB, hlen_rA, hR_sA, hR_sB, hR_rA, Typ_sA', Typ_sB', Typ_rA', O0, r0_0, r0_1, r0_3, r0_4, r0_5, r0_6, r0_7, O1, r1_0, r1_1, r1_2, r1_3, r1_5, r1_6, r1_7, t]
      · have lp : (p < 8) = True := eq_true (by omega)
        simp (decide := true) only [isSource_ok, yif c1, ne, k0, k2, eb, beq1, e8, lq, lp, p8, pe (by omega), cp, hA_sA, nI_s, if_false, false_and, and_false, chk_p, lt_p, bd_p, bc_p, oc_n, oc_s, and_self, and_true, true_and, if_true, if_false, isO_sA', isO_sB', isO_rA', hlen_sA, hlen_sB, hlen_rA, hR_sA, hR_sB, hR_rA, Typ_sA', Typ_sB', Typ_rA', O0, r0_0, r0_1, r0_3, r0_4, r0_5, r0_6, r0_7, O1, r1_0, r1_1, r1_2, r1_3, r1_5, r1_6, r1_7, O6, l6, O7, l7, O8, l8, t]
    · rw [if_neg (show ¬ ((if 1 = 0 then -99 else 0) ≤ v.toInt ∧ v.toInt ≤ (if 1 = 1 then 20 else 99)) from hv)] at eb
      rw [if_neg hv, if_neg hv]; simp (decide := true) only [isSource_ok, yif c1, ne, k0, k2, eb, beq1, if_false, chk_p, lt_p, bd_p, bc_p, oc_n, oc_s, and_self, and_true, true_and, if_true, if_false, isO_sA', isO_sB', isO_rA', hlen_sA, hlen_sB, hlen_rA, hR_sA, hR_sB, hR_rA, Typ_sA', Typ_sB', Typ_rA']
  · subst z
    have v0 : (v < 0) = (v.toInt < 0) := by rw [i_lt, z320]
    have v4 : (4 < v) = (4 < v.toInt) := by rw [i_lt, z4]
    by_cases hv : plok 2 v
    · have hv' : 0 ≤ v.toInt ∧ v.toInt ≤ 4 := hv
      have n0 : (v.toInt < 0) = False := eq_false (by omega)
      have n4 : (4 < v.toInt) = False := eq_false (by omega)
      rw [if_pos hv, if_pos hv]
      by_cases p8 : p = 8
      · have lp : (p < 8) = False := eq_false (by omega)
        simp (decide := true) only [isSource_ok, yif c1, ne, k0, k2, v0, v4, n0, n4, beq1, e8, lq, lp, p8, if_false, chk_p, lt_p, bd_p, bc_p, oc_n, oc_s, and_self, and_true, true_and, if_true, if_false, isO_sA', isO_sB', isO_rA', hlen_sA, hlen_sB, hlen_rA, hR_sA, hR_sB, hR_rA, Typ_sA', Typ_sB', Typ_rA', O0, r0_0, r0_1, r0_3, r0_4, r0_5, r0_6, r0_7, O1, r1_0, r1_1, r1_2, r1_3, r1_5, r1_6, r1_7, t]
      · have lp : (p < 8) = True := eq_true (by omega)
        simp (decide := true) only [isSource_ok, yif c1, ne, k0, k2, v0, v4, n0, n4, beq1, e8, lq, lp, p8, pe (by omega), cp, hA_sA, nI_s, if_false, false_and, and_false, chk_p, lt_p, bd_p, bc_p, oc_n, oc_s, and_self, and_true, true_and, if_true, if_false, isO_sA', isO_sB', isO_rA', hlen_sA, hlen_sB, hlen_rA, hR_sA, hR_sB, hR_rA, Typ_sA', Typ_sB', Typ_rA', O0, r0_0, r0_1, r0_3, r0_4, r0_5, r0_6, r0_7, O1, r1_0, r1_1, r1_2, r1_3, r1_5, r1_6, r1_7, O6, l6, O7, l7, O8, l8, t]
    · have hv' : ¬ (0 ≤ v.toInt ∧ v.toInt ≤ 4) := hv
      by_cases n0 : v.toInt < 0
      · rw [if_neg hv, if_neg hv]; simp (decide := true) only [isSource_ok, yif c1, ne, k0, k2, v0, v4, n0, beq1, if_false, chk_p, lt_p, bd_p, bc_p, oc_n, oc_s, and_self, and_true, true_and, if_true, if_false, isO_sA', isO_sB', isO_rA', hlen_sA, hlen_sB, hlen_rA, hR_sA, hR_sB, hR_rA, Typ_sA', Typ_sB', Typ_rA']
      · have n4 : (4 < v.toInt) = True := eq_true (by omega)
        rw [if_neg hv, if_neg hv]; simp (decide := true) only [isSource_ok, yif c1, ne, k0, k2, v0, v4, n0, n4, beq1, if_false, chk_p, lt_p, bd_p, bc_p, oc_n, oc_s, and_self, and_true, true_and, if_true, if_false, isO_sA', isO_sB', isO_rA', hlen_sA, hlen_sB, hlen_rA, hR_sA, hR_sB, hR_rA, Typ_sA', Typ_sB', Typ_rA']
theorem mplan_ok {σ : HS} (t : Typ σ) {s : Nat} (hs : s < 6) {k : Nat} (hk : k < 3) (v : Int32) {p : Nat} (hp : p ≤ 8) (e8 : hA σ 48 36 = nI p) :
    f_X6_plan 48 (nI s) (nI k) v σ = some (if plok k v then (if p = 8 then (-4 : Int32) else nI (p + 1)) else -2, if plok k v then (if p = 8 then σ else sA (sA (sA (sA σ 71 (3 * p) (nI s)) 71 (3 * p + 1) (nI k)) 71 (3 * p + 2) v) 48 36 (nI (p + 1))) else σ) := by
  have c1 := inS hs
  have ne : (nI s = -1) = False := nm1 (by omega)
  have pe : ∀ j, j < 3 → p < 8 → inb (nI (3 * p + j)) 24 = True := fun j hj h => inbE (by omega) (by omega)
  have cp : ∀ j, j < 3 → (nI (3 * p + j)).toNatClampNeg = 3 * p + j := fun j hj => cl1000 (by omega)
  have pe0 : p < 8 → inb (nI (3 * p)) 24 = True := pe 0 (by decide)
  have cp0 : (nI (3 * p)).toNatClampNeg = 3 * p := cp 0 (by decide)
  have p2 : ∀ q : Nat, nI q + (2 : Int32) = nI (q + 2) := fun q => nI_plus q 2
  have em := isIn_c (nI k) 0 2 0 2 rfl rfl σ
  rw [nT (by omega), if_pos (by omega)] at em
  have l8 : (nI p = 8) = (p = 8) := nE (a := p) (b := 8) (by omega) (by omega)
  have h3 : k = 0 ∨ k = 1 ∨ k = 2 := by omega
  unfold f_X6_plan
  rcases h3 with z | z | z
  · subst z
    have ev := isIn_c v (-99) 99 (-99) 99 rfl rfl σ
    by_cases hv : plok 0 v
    · rw [if_pos (show (-99 : Int) ≤ v.toInt ∧ v.toInt ≤ 99 from hv)] at ev
      rw [if_pos hv, if_pos hv]
      by_cases p8 : p = 8
      · simp (decide := true) only [mIsSource_ok, yif c1, ne, em, ev, beq1, e8, l8, p8, if_false, chk_p, lt_p, bd_p, bc_p, oc_n, oc_s, and_self, and_true, true_and, if_true, if_false, isO_sA', isO_sB', isO_rA', hlen_sA, hlen_sB, hlen_rA, hR_sA, hR_sB, hR_rA, Typ_sA', Typ_sB', Typ_rA', O48, r48_0, r48_1, r48_2, r48_3, r48_4, r48_5, r48_6, r48_8, r48_9, r48_10, r48_11, r48_12, r48_15, r48_21, r48_22, r48_23, r48_24, r48_25, r48_28, r48_30, r48_31, r48_32, r48_35, r48_37, r48_39, r48_40, r48_41, t]
      · simp (decide := true) only [mIsSource_ok, yif c1, ne, em, ev, beq1, e8, l8, p8, nI_mul3, nI_s, p2, pe0 (by omega), pe 1 (by decide) (by omega), pe 2 (by decide) (by omega), cp0, cp 1 (by decide), cp 2 (by decide), hA_sA, if_false, false_and, and_false, chk_p, lt_p, bd_p, bc_p, oc_n, oc_s, and_self, and_true, true_and, if_true, if_false, isO_sA', isO_sB', isO_rA', hlen_sA, hlen_sB, hlen_rA, hR_sA, hR_sB, hR_rA, Typ_sA', Typ_sB', Typ_rA', O48, r48_0, r48_1, r48_2, r48_3, r48_4, r48_5, r48_6, r48_8, r48_9, r48_10, r48_11, r48_12, r48_15, r48_21, r48_22, r48_23, r48_24, r48_25, r48_28, r48_30, r48_31, r48_32, r48_35, r48_37, r48_39, r48_40, r48_41, O71, l71, t]
    · rw [if_neg (show ¬ ((-99 : Int) ≤ v.toInt ∧ v.toInt ≤ 99) from hv)] at ev
      rw [if_neg hv, if_neg hv]; simp (decide := true) only [mIsSource_ok, yif c1, ne, em, ev, beq1, if_false, chk_p, lt_p, bd_p, bc_p, oc_n, oc_s, and_self, and_true, true_and, if_true, if_false, isO_sA', isO_sB', isO_rA', hlen_sA, hlen_sB, hlen_rA, hR_sA, hR_sB, hR_rA, Typ_sA', Typ_sB', Typ_rA']
  · subst z
    have ev := isIn_c v 0 20 0 20 rfl rfl σ
    by_cases hv : plok 1 v
    · rw [if_pos (show (0 : Int) ≤ v.toInt ∧ v.toInt ≤ 20 from hv)] at ev
      rw [if_pos hv, if_pos hv]
      by_cases p8 : p = 8
      · simp (decide := true) only [mIsSource_ok, yif c1, ne, em, ev, beq1, e8, l8, p8, if_false, chk_p, lt_p, bd_p, bc_p, oc_n, oc_s, and_self, and_true, true_and, if_true, if_false, isO_sA', isO_sB', isO_rA', hlen_sA, hlen_sB, hlen_rA, hR_sA, hR_sB, hR_rA, Typ_sA', Typ_sB', Typ_rA', O48, r48_0, r48_1, r48_2, r48_3, r48_4, r48_5, r48_6, r48_8, r48_9, r48_10, r48_11, r48_12, r48_15, r48_21, r48_22, r48_23, r48_24, r48_25, r48_28, r48_30, r48_31, r48_32, r48_35, r48_37, r48_39, r48_40, r48_41, t]
      · simp (decide := true) only [mIsSource_ok, yif c1, ne, em, ev, beq1, e8, l8, p8, nI_mul3, nI_s, p2, pe0 (by omega), pe 1 (by decide) (by omega), pe 2 (by decide) (by omega), cp0, cp 1 (by decide), cp 2 (by decide), hA_sA, if_false, false_and, and_false, chk_p, lt_p, bd_p, bc_p, oc_n, oc_s, and_self, and_true, true_and, if_true, if_false, isO_sA', isO_sB', isO_rA', hlen_sA, hlen_sB, hlen_rA, hR_sA, hR_sB, hR_rA, Typ_sA', Typ_sB', Typ_rA', O48, r48_0, r48_1, r48_2, r48_3, r48_4, r48_5, r48_6, r48_8, r48_9, r48_10, r48_11, r48_12, r48_15, r48_21, r48_22, r48_23, r48_24, r48_25, r48_28, r48_30, r48_31, r48_32, r48_35, r48_37, r48_39, r48_40, r48_41, O71, l71, t]
    · rw [if_neg (show ¬ ((0 : Int) ≤ v.toInt ∧ v.toInt ≤ 20) from hv)] at ev
      rw [if_neg hv, if_neg hv]; simp (decide := true) only [mIsSource_ok, yif c1, ne, em, ev, beq1, if_false, chk_p, lt_p, bd_p, bc_p, oc_n, oc_s, and_self, and_true, true_and, if_true, if_false, isO_sA', isO_sB', isO_rA', hlen_sA, hlen_sB, hlen_rA, hR_sA, hR_sB, hR_rA, Typ_sA', Typ_sB', Typ_rA']
  · subst z
    have ev := isIn_c v 0 4 0 4 rfl rfl σ
    by_cases hv : plok 2 v
    · rw [if_pos (show (0 : Int) ≤ v.toInt ∧ v.toInt ≤ 4 from hv)] at ev
      rw [if_pos hv, if_pos hv]
      by_cases p8 : p = 8
      · simp (decide := true) only [mIsSource_ok, yif c1, ne, em, ev, beq1, e8, l8, p8, if_false, chk_p, lt_p, bd_p, bc_p, oc_n, oc_s, and_self, and_true, true_and, if_true, if_false, isO_sA', isO_sB', isO_rA', hlen_sA, hlen_sB, hlen_rA, hR_sA, hR_sB, hR_rA, Typ_sA', Typ_sB', Typ_rA', O48, r48_0, r48_1, r48_2, r48_3, r48_4, r48_5, r48_6, r48_8, r48_9, r48_10, r48_11, r48_12, r48_15, r48_21, r48_22, r48_23, r48_24, r48_25, r48_28, r48_30, r48_31, r48_32, r48_35, r48_37, r48_39, r48_40, r48_41, t]
      · simp (decide := true) only [mIsSource_ok, yif c1, ne, em, ev, beq1, e8, l8, p8, nI_mul3, nI_s, p2, pe0 (by omega), pe 1 (by decide) (by omega), pe 2 (by decide) (by omega), cp0, cp 1 (by decide), cp 2 (by decide), hA_sA, if_false, false_and, and_false, chk_p, lt_p, bd_p, bc_p, oc_n, oc_s, and_self, and_true, true_and, if_true, if_false, isO_sA', isO_sB', isO_rA', hlen_sA, hlen_sB, hlen_rA, hR_sA, hR_sB, hR_rA, Typ_sA', Typ_sB', Typ_rA', O48, r48_0, r48_1, r48_2, r48_3, r48_4, r48_5, r48_6, r48_8, r48_9, r48_10, r48_11, r48_12, r48_15, r48_21, r48_22, r48_23, r48_24, r48_25, r48_28, r48_30, r48_31, r48_32, r48_35, r48_37, r48_39, r48_40, r48_41, O71, l71, t]
    · rw [if_neg (show ¬ ((0 : Int) ≤ v.toInt ∧ v.toInt ≤ 4) from hv)] at ev
      rw [if_neg hv, if_neg hv]; simp (decide := true) only [mIsSource_ok, yif c1, ne, em, ev, beq1, if_false, chk_p, lt_p, bd_p, bc_p, oc_n, oc_s, and_self, and_true, true_and, if_true, if_false, isO_sA', isO_sB', isO_rA', hlen_sA, hlen_sB, hlen_rA, hR_sA, hR_sB, hR_rA, Typ_sA', Typ_sB', Typ_rA']
theorem op_plan (a w v : Int32) : OpOK (f_X5_plan 0 a w v) (f_X6_plan 48 a w v) := by
  intro σ V S C n FS I
  have t := I.1
  by_cases am : a = -1
  · refine ⟨0, sA σ 1 8 0, sA (sA σ 1 8 0) 48 36 0, ?_, t, Nat.le_refl _, ?_, Nat.le_refl _, V, S, C, n, FS, plan0_inv I⟩
    · unfold f_X5_plan
      simp only [am, chk_p, lt_p, bd_p, bc_p, oc_n, oc_s, and_self, and_true, true_and, if_true, if_false, isO_sA', isO_sB', isO_rA', hlen_sA, hlen_sB, hlen_rA, hR_sA, hR_sB, hR_rA, Typ_sA', Typ_sB', Typ_rA', O0, r0_0, r0_1, r0_3, r0_4, r0_5, r0_6, r0_7, O1, r1_0, r1_1, r1_2, r1_3, r1_5, r1_6, r1_7, t]
    · unfold f_X6_plan
      simp only [am, chk_p, lt_p, bd_p, bc_p, oc_n, oc_s, and_self, and_true, true_and, if_true, if_false, isO_sA', isO_sB', isO_rA', hlen_sA, hlen_sB, hlen_rA, hR_sA, hR_sB, hR_rA, Typ_sA', Typ_sB', Typ_rA', O48, r48_0, r48_1, r48_2, r48_3, r48_4, r48_5, r48_6, r48_8, r48_9, r48_10, r48_11, r48_12, r48_15, r48_21, r48_22, r48_23, r48_24, r48_25, r48_28, r48_30, r48_31, r48_32, r48_35, r48_37, r48_39, r48_40, r48_41, t]
  obtain ⟨p, PS, PW, PV, hp⟩ := I.2.2.2.2.1
  rcases argC a 6 (by decide) with ⟨s, hs, rfl⟩ | ha
  · have c1 := inS hs
    rcases argC w 3 (by decide) with ⟨k, hk, rfl⟩ | hw
    · have ex := xplan_ok t hs hk v hp.1 hp.2.1
      by_cases hv : plok k v
      · rw [if_pos hv, if_pos hv] at ex
        by_cases p8 : p = 8
        · rw [if_pos p8, if_pos p8] at ex
          have em := mplan_ok t hs hk v hp.1 hp.2.2.1
          rw [if_pos hv, if_pos hv, if_pos p8, if_pos p8] at em
          exact opN I _ ex em
        · rw [if_neg p8, if_neg p8] at ex
          have p8' := hp.1
          have em := mplan_ok (σ := sA (sA (sA (sA σ 6 p (nI s)) 7 p (nI k)) 8 p v) 1 8 (nI (p + 1))) t hs hk v hp.1 (by simp (decide := true) only [hA_sA, false_and, if_false]; exact hp.2.2.1)
          rw [if_pos hv, if_pos hv, if_neg p8, if_neg p8] at em
          exact ⟨_, _, _, ex, t, Nat.le_refl _, em, Nat.le_refl _, V, S, C, n, FS, plan_inv I hp (by omega) ⟨by rw [nT (by omega)]; omega, by rw [nT (by omega)]; omega⟩ (plx hk hv)⟩
      · rw [if_neg hv, if_neg hv] at ex
        have em := mplan_ok t hs hk v hp.1 hp.2.2.1
        rw [if_neg hv, if_neg hv] at em
        exact opN I _ ex em
    · have em := isIn_c w 0 2 0 2 rfl rfl σ
      rw [if_neg (by omega)] at em
      have ne : (nI s = -1) = False := nm1 (by omega)
      refine opN I (-1) ?_ ?_
      · unfold f_X5_plan
        by_cases w0 : w < 0
        · simp only [isSource_ok, yif c1, beq1, ne, w0, if_false, chk_p, lt_p, bd_p, bc_p, oc_n, oc_s, and_self, and_true, true_and, if_true, if_false, isO_sA', isO_sB', isO_rA', hlen_sA, hlen_sB, hlen_rA, hR_sA, hR_sB, hR_rA, Typ_sA', Typ_sB', Typ_rA']
        · have w2 : (w ≤ 2) = False := by rw [i_lt, z320] at w0; rw [i_le]; exact eq_false (by have : (2 : Int32).toInt = 2 := rfl; omega)
          simp only [isSource_ok, yif c1, beq1, ne, w0, w2, if_false, chk_p, lt_p, bd_p, bc_p, oc_n, oc_s, and_self, and_true, true_and, if_true, if_false, isO_sA', isO_sB', isO_rA', hlen_sA, hlen_sB, hlen_rA, hR_sA, hR_sB, hR_rA, Typ_sA', Typ_sB', Typ_rA']
      · unfold f_X6_plan
        simp only [mIsSource_ok, yif c1, beq1, ne, em, if_false, chk_p, lt_p, bd_p, bc_p, oc_n, oc_s, and_self, and_true, true_and, if_true, if_false, isO_sA', isO_sB', isO_rA', hlen_sA, hlen_sB, hlen_rA, hR_sA, hR_sB, hR_rA, Typ_sA', Typ_sB', Typ_rA']
  · have c1 : ¬ (0 ≤ a.toInt ∧ a.toInt < 6) := by omega
    refine opN I (-1) ?_ ?_
    · unfold f_X5_plan
      simp only [isSource_ok, nif c1, am, if_false, chk_p, lt_p, bd_p, bc_p, oc_n, oc_s, and_self, and_true, true_and, if_true, if_false, isO_sA', isO_sB', isO_rA', hlen_sA, hlen_sB, hlen_rA, hR_sA, hR_sB, hR_rA, Typ_sA', Typ_sB', Typ_rA']
    · unfold f_X6_plan
      simp only [mIsSource_ok, nif c1, am, if_false, chk_p, lt_p, bd_p, bc_p, oc_n, oc_s, and_self, and_true, true_and, if_true, if_false, isO_sA', isO_sB', isO_rA', hlen_sA, hlen_sB, hlen_rA, hR_sA, hR_sB, hR_rA, Typ_sA', Typ_sB', Typ_rA']
