/-! split -/
theorem upI_self (L : Nat → Int) (s : Nat) {x : Int} (h : x = L s) : upI L s x = L := by
  funext i; unfold upI
  by_cases e : i = s
  · rw [if_pos e, h, e]
  · rw [if_neg e]
theorem upI_upI (L : Nat → Int) (s : Nat) (x y : Int) : upI (upI L s x) s y = upI L s y := by
  funext i; unfold upI
  by_cases e : i = s
  · rw [if_pos e, if_pos e]
  · rw [if_neg e, if_neg e, if_neg e]
/-- both halves joined -/
def spl (x y : Option (Int × Int)) : Option (Int × Int) := match x with
  | none => none
  | some p => match y with
    | none => none
    | some q => some (min p.1 q.1, max p.2 q.2)
def splR (Φ : FM) (V S : Nat → Int32) (s : Nat) (c : Int) : Option (Int × Int) := spl (RT Φ (LO V S) (upI (HI V S) s c)) (RT Φ (upI (LO V S) s c) (HI V S))
theorem half_some {Φ : FM} {V S : Nat → Int32} (hl : ∀ s, LO V S s ≤ HI V S s) {p : Int × Int} (hx : RT Φ (LO V S) (HI V S) = some p) {s : Nat} {c : Int} (h1 : LO V S s ≤ c) (h2 : c ≤ HI V S s) : (∃ q, RT Φ (LO V S) (upI (HI V S) s c) = some q ∧ q.1 ≤ q.2 ∧ p.1 ≤ q.1 ∧ q.2 ≤ p.2) ∧ ∃ q, RT Φ (upI (LO V S) s c) (HI V S) = some q ∧ q.1 ≤ q.2 ∧ p.1 ≤ q.1 ∧ q.2 ≤ p.2 := by
  constructor
  · obtain ⟨a, b, e, e1, e2, e3⟩ := SP_nar (Φ := Φ) (L := LO V S) (H := HI V S) (L' := LO V S) (H' := upI (HI V S) s c) (fun i => by
      unfold upI
      by_cases e : i = s
      · rw [if_pos e, e]; exact ⟨Int.le_refl _, h1, h2⟩
      · rw [if_neg e]; exact ⟨Int.le_refl _, hl i, Int.le_refl _⟩) (mN Φ - 1) p.1 p.2 hx
    exact ⟨(a, b), e, e2, e1, e3⟩
  · obtain ⟨a, b, e, e1, e2, e3⟩ := SP_nar (Φ := Φ) (L := LO V S) (H := HI V S) (L' := upI (LO V S) s c) (H' := HI V S) (fun i => by
      unfold upI
      by_cases e : i = s
      · rw [if_pos e, e]; exact ⟨h1, h2, Int.le_refl _⟩
      · rw [if_neg e]; exact ⟨Int.le_refl _, hl i, Int.le_refl _⟩) (mN Φ - 1) p.1 p.2 hx
    exact ⟨(a, b), e, e2, e1, e3⟩
theorem splR_some {Φ : FM} {V S : Nat → Int32} (hl : ∀ s, LO V S s ≤ HI V S s) {p : Int × Int} (hx : RT Φ (LO V S) (HI V S) = some p) {s : Nat} {c : Int} (h1 : LO V S s ≤ c) (h2 : c ≤ HI V S s) : ∃ r, splR Φ V S s c = some r ∧ p.1 ≤ r.1 ∧ r.1 ≤ r.2 ∧ r.2 ≤ p.2 := by
  obtain ⟨⟨q1, a1, a2, a3, a4⟩, q2, b1, b2, b3, b4⟩ := half_some hl hx h1 h2
  refine ⟨(min q1.1 q2.1, max q1.2 q2.2), ?_, ?_, ?_, ?_⟩
  · unfold splR; rw [a1, b1]; rfl
  · show p.1 ≤ min q1.1 q2.1; omega
  · show min q1.1 q2.1 ≤ max q1.2 q2.2; omega
  · show max q1.2 q2.2 ≤ p.2; omega
theorem c_split {σ : HS} {φ f : Nat} {Φ : FM} {V S C : Nat → Int32} (hw : WF Φ) (h : CS σ φ f Φ V S C) (hb : Bx σ (LO V S) (HI V S)) {p : Int × Int} (hx : RT Φ (LO V S) (HI V S) = some p) {s : Nat} (hs : s < 6) {c : Int32} (h1 : LO V S s ≤ c.toInt) (h2 : c.toInt ≤ HI V S s) :
    ∃ σ', f_X5_carrySplit 0 φ (nI s) c σ = some ((), σ') ∧ Kp σ σ' ∧ CS σ' φ f Φ V S C ∧ Bx σ' (LO V S) (HI V S) ∧ Th σ' (splR Φ V S s c.toInt) := by
  have v := cs_val h hs
  obtain ⟨-, -, -, -, -, -, -, -, -, vl, vh⟩ := v
  have t := h.1
  obtain ⟨⟨q1, a1, a2, a3, a4⟩, q2, b1, b2, b3, b4⟩ := half_some (LOHI h) hx h1 h2
  obtain ⟨s1, s2, s3⟩ := c_stand t hb hs (a := V s - S s) (b := c) (by rw [vl]; exact h1)
  rw [vl, upI_self (LO V S) s rfl] at s2
  have k1 := s3.kp (by decide)
  have c1 := h.kp k1
  obtain ⟨σ2, e1, e2, e3, e4, e5, e6, e7⟩ := c_carry hw c1 s2
  obtain ⟨r1, r2, r3⟩ := c_stand e3.1 e6 hs (a := c) (b := V s + S s) (by rw [vh]; exact h2)
  rw [vh, upI_upI, upI_self (HI V S) s rfl] at r2
  have k3 := r3.kp (by decide)
  have c3 := e3.kp k3
  obtain ⟨σ4, g1, g2, g3, g4, g5, g6, g7⟩ := c_carry hw c3 r2
  obtain ⟨m1, hm1⟩ : ∃ m1, m1 = (if hB σ4 24 3 < hB σ2 24 3 then hB σ4 24 3 else hB σ2 24 3) := ⟨_, rfl⟩
  obtain ⟨m2, hm2⟩ : ∃ m2, m2 = (if hB σ4 24 4 < hB σ2 24 4 then hB σ2 24 4 else hB σ4 24 4) := ⟨_, rfl⟩
  have f5 : Fr [24] σ4 (sB (sB σ4 24 3 m1) 24 4 m2) := (Fr_sB (by simp)).seq (Fr_sB (by simp))
  have k5 := f5.kp (by decide)
  have c5 := g3.kp k5
  have b5 : Bx (sB (sB σ4 24 3 m1) 24 4 m2) (upI (LO V S) s c.toInt) (HI V S) := g6.fr f5 (by decide) (by decide)
  obtain ⟨u1, u2, u3⟩ := c_stand c5.1 b5 hs (a := V s - S s) (b := V s + S s) (by rw [vl, vh]; omega)
  rw [vl, vh, upI_upI, upI_self (LO V S) s rfl, upI_self (HI V S) s rfl] at u2
  have k6 := u3.kp (by decide)
  rw [a1] at e5
  rw [b1] at g5
  obtain ⟨x1, x2, x3, x4⟩ := e5
  obtain ⟨y1, y2, y3, y4⟩ := g5
  refine ⟨_, ?_, ((((k1.seq e2).seq k3).seq g2).seq k5).seq k6, c5.kp k6, u2, ?_⟩
  · have t1 := c1.1
    have t2 := e3.1
    have t3 := c3.1
    have t4 := g3.1
    have t5 : Typ (sB σ4 24 3 m1) := t4
    have l5 := c_low c5 hs
    have h5 := c_high c5 hs
    unfold f_X5_carrySplit
    simp only [chk_p, lt_p, bd_p, bc_p, oc_n, oc_s, and_self, and_true, true_and, if_true, if_false, isO_sA', isO_sB', isO_rA', hlen_sA, hlen_sB, hlen_rA, hR_sA, hR_sB, hR_rA, Typ_sA', Typ_sB', Typ_rA', O0, r0_0, r0_1, r0_3, r0_4, r0_5, r0_6, r0_7, O1, r1_0, r1_1, r1_2, r1_3, r1_5, r1_6, r1_7, O24, r24_0, r24_1, r24_5, r24_6, r24_7, r24_8, r24_9, t, t1, t2, t3, t4, t5, c_low h hs, s1, e1, c_high e3 hs, r1, g1, ← hm1]
    simp (decide := true) only [hB_sB, if_false, ← hm2, chk_p, lt_p, bd_p, bc_p, oc_n, oc_s, and_self, and_true, true_and, if_true, if_false, isO_sA', isO_sB', isO_rA', hlen_sA, hlen_sB, hlen_rA, hR_sA, hR_sB, hR_rA, Typ_sA', Typ_sB', Typ_rA', O0, r0_0, r0_1, r0_3, r0_4, r0_5, r0_6, r0_7, O1, r1_0, r1_1, r1_2, r1_3, r1_5, r1_6, r1_7, O24, r24_0, r24_1, r24_5, r24_6, r24_7, r24_8, r24_9, t4, l5, h5, u1]
  · unfold splR
    rw [a1, b1]
    refine ⟨y1, ?_, ?_, ?_⟩
    · show m1.toInt = min q1.1 q2.1
      rw [hm1, l_min, x2, y2]
    · show m2.toInt = max q1.2 q2.2
      rw [hm2, l_max, x3, y3]
    · show min q1.1 q2.1 ≤ max q1.2 q2.2; omega
theorem m_of3 {σ : HS} {φ f : Nat} {Φ : FM} {V S C : Nat → Int32} (h : CS σ φ f Φ V S C) {s : Nat} (hs : s < 6) : f_X6_of 48 (nI s) 3 σ = some (V s - S s, σ) := by
  have em := isIn_c 3 0 4 0 4 rfl rfl σ
  rw [show (3 : Int32).toInt = 3 from rfl, if_pos (by omega)] at em
  have t := h.1
  unfold f_X6_of
  simp (decide := true) only [mIsSource_ok, yif (inS hs), beq1, em, m_val h hs, m_span h hs, chk_p, lt_p, bd_p, bc_p, oc_n, oc_s, and_self, and_true, true_and, if_true, if_false, isO_sA', isO_sB', isO_rA', hlen_sA, hlen_sB, hlen_rA, hR_sA, hR_sB, hR_rA, Typ_sA', Typ_sB', Typ_rA', O48, r48_0, r48_1, r48_2, r48_3, r48_4, r48_5, r48_6, r48_8, r48_9, r48_10, r48_11, r48_12, r48_15, r48_21, r48_22, r48_23, r48_24, r48_25, r48_28, r48_30, r48_31, r48_32, r48_35, r48_37, r48_39, r48_40, r48_41, t, if_false]
theorem m_of4 {σ : HS} {φ f : Nat} {Φ : FM} {V S C : Nat → Int32} (h : CS σ φ f Φ V S C) {s : Nat} (hs : s < 6) : f_X6_of 48 (nI s) 4 σ = some (V s + S s, σ) := by
  have em := isIn_c 4 0 4 0 4 rfl rfl σ
  rw [show (4 : Int32).toInt = 4 from rfl, if_pos (by omega)] at em
  have t := h.1
  unfold f_X6_of
  simp (decide := true) only [mIsSource_ok, yif (inS hs), beq1, em, m_val h hs, m_span h hs, chk_p, lt_p, bd_p, bc_p, oc_n, oc_s, and_self, and_true, true_and, if_true, if_false, isO_sA', isO_sB', isO_rA', hlen_sA, hlen_sB, hlen_rA, hR_sA, hR_sB, hR_rA, Typ_sA', Typ_sB', Typ_rA', O48, r48_0, r48_1, r48_2, r48_3, r48_4, r48_5, r48_6, r48_8, r48_9, r48_10, r48_11, r48_12, r48_15, r48_21, r48_22, r48_23, r48_24, r48_25, r48_28, r48_30, r48_31, r48_32, r48_35, r48_37, r48_39, r48_40, r48_41, t, if_false]
theorem Kp_l {σ : HS} {k : Nat} {v : Int64} : Kp σ (sB σ 48 k v) := ⟨Nat.le_refl _, fun _ _ => ⟨rfl, rfl⟩, fun _ _ => rfl, fun j _ hj => ⟨rfl, up2_ne (fun e => by subst e; exact absurd hj (by decide))⟩, fun k hk => rfl, fun j hj => scj_76 hj, fun j _ hj => by cases hj⟩
theorem m_split {σ : HS} {φ f : Nat} {Φ : FM} {V S C : Nat → Int32} (hf : f < 7) (hw : WF Φ) (h : CS σ φ f Φ V S C) {p : Int × Int} (hx : RT Φ (LO V S) (HI V S) = some p) {s : Nat} (hs : s < 6) {c : Int32} (h1 : LO V S s ≤ c.toInt) (h2 : c.toInt ≤ HI V S s) :
    ∃ σ' r, f_X6_splits 48 (nI f) (nI s) c σ = some ((), σ') ∧ Kp σ σ' ∧ CS σ' φ f Φ V S C ∧ splR Φ V S s c.toInt = some r ∧ (hB σ' 48 33).toInt = r.1 ∧ (hB σ' 48 34).toInt = r.2 ∧ r.1 ≤ r.2 := by
  have v := cs_val h hs
  obtain ⟨-, -, -, -, -, -, -, -, -, vl, vh⟩ := v
  have t := h.1
  have w1 := hw.1
  obtain ⟨⟨q1, a1, a2, a3, a4⟩, q2, b1, b2, b3, b4⟩ := half_some (LOHI h) hx h1 h2
  obtain ⟨σ1, x1, x2, x3, x4, x5⟩ := m_box h
  have t1 := x3.1
  have f2 : Fr [63] σ1 (sA σ1 63 s c) := Fr_sA (by simp)
  have k2 := f2.kp (by decide)
  have c2 := x3.kp k2
  have b2' : BxM (sA σ1 63 s c) (LO V S) (upI (HI V S) s c.toInt) := by
    refine ⟨fun i => ?_, fun i hi => ?_⟩
    · unfold upI
      by_cases e : i = s
      · rw [if_pos e, e]; exact h1
      · rw [if_neg e]; exact x4.1 i
    · obtain ⟨e1, e2⟩ := x4.2 i hi
      unfold upI
      by_cases e : i = s
      · subst e; simp (decide := true) only [hA_sA, if_true, if_false, and_self, and_true, false_and, e1]
      · simp (decide := true) only [hA_sA, e, if_true, if_false, and_false, false_and, e1, e2, and_self]
  obtain ⟨σ3, e1, e2, e3, e4, e5, e6⟩ := m_spans hf hw c2 b2'
  have t3 := e3.1
  have rt := e4 (mN Φ - 1) (by omega)
  rw [show SP Φ (LO V S) (upI (HI V S) s c.toInt) (mN Φ - 1) = some q1 from a1] at rt
  obtain ⟨r1, r2, r3, r4⟩ := rt
  obtain ⟨l1, hl1⟩ : ∃ l1, l1 = hB σ3 64 (mN Φ - 1) := ⟨_, rfl⟩
  obtain ⟨g1, hg1⟩ : ∃ g1, g1 = hB σ3 65 (mN Φ - 1) := ⟨_, rfl⟩
  have k4 : Kp σ3 (sB (sB σ3 48 33 l1) 48 34 g1) := Kp_l.seq Kp_l
  have c4 := e3.kp k4
  have b4' : BxM (sB (sB σ3 48 33 l1) 48 34 g1) (LO V S) (upI (HI V S) s c.toInt) := e5
  have hto : hA σ1 63 s = V s + S s := Int32.toInt_inj.mp (by rw [(x4.2 s hs).2, vh])
  obtain ⟨y1, y2, y3⟩ := m_lays c4.1 b4' hs (a := c) (b := V s + S s) (by rw [vh]; exact h2)
  rw [vh, upI_upI, upI_self (HI V S) s rfl] at y2
  have k5 := y3.kp (by decide)
  have c5 := c4.kp k5
  obtain ⟨σ6, z1, z2, z3, z4, z5, z6⟩ := m_spans hf hw c5 y2
  have t6 := z3.1
  have rt := z4 (mN Φ - 1) (by omega)
  rw [show SP Φ (upI (LO V S) s c.toInt) (HI V S) (mN Φ - 1) = some q2 from b1] at rt
  obtain ⟨o1, o2, o3, o4⟩ := rt
  have p33 : hB σ6 48 33 = l1 ∧ hB σ6 48 34 = g1 := by
    have q : ∀ k, (k = 33 ∨ k = 34) → hB σ6 48 k = hB (sA (sA (sB (sB σ3 48 33 l1) 48 34 g1) 62 s c) 63 s (V s + S s)) 48 k := fun k hk => ?_
    · rw [q 33 (Or.inl rfl), q 34 (Or.inr rfl)]
      simp (decide := true) only [hB_sA, hB_sB, if_true, if_false, and_self, and_false]
    · exact z6.2.2 k (by omega)
  obtain ⟨m1, hm1⟩ : ∃ m1, m1 = (if hB σ6 64 (mN Φ - 1) < l1 then hB σ6 64 (mN Φ - 1) else l1) := ⟨_, rfl⟩
  obtain ⟨m2, hm2⟩ : ∃ m2, m2 = (if hB σ6 65 (mN Φ - 1) < g1 then g1 else hB σ6 65 (mN Φ - 1)) := ⟨_, rfl⟩
  have k7 : Kp σ6 (sB (sB σ6 48 33 m1) 48 34 m2) := Kp_l.seq Kp_l
  have c7 := z3.kp k7
  refine ⟨sB (sB σ6 48 33 m1) 48 34 m2, (min q1.1 q2.1, max q1.2 q2.2), ?_, (((((x2.seq k2).seq e2).seq k4).seq k5).seq z2).seq k7, c7, ?_, ?_, ?_, ?_⟩
  · have ie := inbE (i := s) (n := 6) hs (by omega)
    have ci := cl1000 (i := s) (by omega)
    have lo1 := m_lo hf hw e3
    have c3' : CS (sB σ3 48 33 l1) φ f Φ V S C := e3.kp (Kp_l)
    have hi1 := m_hi hf hw c3'
    rw [show hB (sB σ3 48 33 l1) 65 (mN Φ - 1) = g1 from hg1.symm] at hi1
    rw [← hl1] at lo1
    have lo2 := m_lo hf hw z3
    have c6' : CS (sB σ6 48 33 m1) φ f Φ V S C := z3.kp (Kp_l)
    have hi2 := m_hi hf hw c6'
    have t2 := c2.1
    have t4 := c4.1
    have t5 := c5.1
    unfold f_X6_splits
    simp only [chk_p, lt_p, bd_p, bc_p, oc_n, oc_s, and_self, and_true, true_and, if_true, if_false, isO_sA', isO_sB', isO_rA', hlen_sA, hlen_sB, hlen_rA, hR_sA, hR_sB, hR_rA, Typ_sA', Typ_sB', Typ_rA', O48, r48_0, r48_1, r48_2, r48_3, r48_4, r48_5, r48_6, r48_8, r48_9, r48_10, r48_11, r48_12, r48_15, r48_21, r48_22, r48_23, r48_24, r48_25, r48_28, r48_30, r48_31, r48_32, r48_35, r48_37, r48_39, r48_40, r48_41, O63, l63, t, t1, t2, t3, x1, ie, ci, hto, e1, lo1, hi1, y1, z1, t6, p33.1, lo2, ← hm1, p33.2, if_false]
    simp (decide := true) only [hi2, hB_sB, false_and, and_false, if_false, p33.2, ← hm2, chk_p, lt_p, bd_p, bc_p, oc_n, oc_s, and_self, and_true, true_and, if_true, if_false, isO_sA', isO_sB', isO_rA', hlen_sA, hlen_sB, hlen_rA, hR_sA, hR_sB, hR_rA, Typ_sA', Typ_sB', Typ_rA', O48, r48_0, r48_1, r48_2, r48_3, r48_4, r48_5, r48_6, r48_8, r48_9, r48_10, r48_11, r48_12, r48_15, r48_21, r48_22, r48_23, r48_24, r48_25, r48_28, r48_30, r48_31, r48_32, r48_35, r48_37, r48_39, r48_40, r48_41, t6]
  · unfold splR; rw [a1, b1]; rfl
  · show (hB (sB (sB σ6 48 33 m1) 48 34 m2) 48 33).toInt = min q1.1 q2.1
    rw [hB_sB, if_neg (by decide), hB_sB, if_pos ⟨rfl, rfl⟩, hm1, l_min, hl1]
    rw [show (hB σ3 64 (mN Φ - 1)).toInt = q1.1 from r2, show (hB σ6 64 (mN Φ - 1)).toInt = q2.1 from o2]
  · show (hB (sB (sB σ6 48 33 m1) 48 34 m2) 48 34).toInt = max q1.2 q2.2
    rw [hB_sB, if_pos ⟨rfl, rfl⟩, hm2, l_max, hg1]
    rw [show (hB σ3 65 (mN Φ - 1)).toInt = q1.2 from r3, show (hB σ6 65 (mN Φ - 1)).toInt = q2.2 from o3]
  · show min q1.1 q2.1 ≤ max q1.2 q2.2; omega
