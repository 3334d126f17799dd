/-! the same in the reference; rises -/
theorem fl_1 {c : Prop} [Decidable c] : fl c 1 = 1 := by unfold fl; by_cases h : c <;> simp [h]
theorem jfin6 (σ : HS) (i : Nat) (v : Int32) (l1 g1 l2 g2 lo hi : Int64) :
    Mf [68, 69] σ (sB (sB (sB (sB (sB (sB (sA σ 48 20 v) 48 26 l1) 48 27 g1) 48 26 l2) 48 27 g2) 68 i lo) 69 i hi) ∧ hA (sB (sB (sB (sB (sB (sB (sA σ 48 20 v) 48 26 l1) 48 27 g1) 48 26 l2) 48 27 g2) 68 i lo) 69 i hi) 48 20 = v ∧ (∀ j, j ≠ i → hB (sB (sB (sB (sB (sB (sB (sA σ 48 20 v) 48 26 l1) 48 27 g1) 48 26 l2) 48 27 g2) 68 i lo) 69 i hi) 68 j = hB σ 68 j ∧ hB (sB (sB (sB (sB (sB (sB (sA σ 48 20 v) 48 26 l1) 48 27 g1) 48 26 l2) 48 27 g2) 68 i lo) 69 i hi) 69 j = hB σ 69 j) ∧ hB (sB (sB (sB (sB (sB (sB (sA σ 48 20 v) 48 26 l1) 48 27 g1) 48 26 l2) 48 27 g2) 68 i lo) 69 i hi) 68 i = lo ∧ hB (sB (sB (sB (sB (sB (sB (sA σ 48 20 v) 48 26 l1) 48 27 g1) 48 26 l2) 48 27 g2) 68 i lo) 69 i hi) 69 i = hi := by
  refine ⟨((((((Mf_s (by decide) (by decide)).seq (Mf_l (by decide))).seq (Mf_l (by decide))).seq (Mf_l (by decide))).seq (Mf_l (by decide))).seq (Mf_sB (by simp) (by decide))).seq (Mf_sB (by simp) (by decide)), ?_, fun j hj => ⟨?_, ?_⟩, ?_, ?_⟩
  · rw [hA_sB, hA_sB, hA_sB, hA_sB, hA_sB, hA_sB, hA_f]
  · simp (decide := true) only [hB_sB, hB_sA, hj, and_false, false_and, if_false]
  · simp (decide := true) only [hB_sB, hB_sA, hj, and_false, false_and, if_false]
  · simp (decide := true) only [hB_sB, hB_sA, and_self, false_and, if_false, if_true]
  · simp (decide := true) only [hB_sB, hB_sA, and_self, if_true]
theorem fit_pr {a b c d : Int64} {p r : Int × Int} (h1 : a.toInt = p.1) (h2 : b.toInt = p.2) (h3 : c.toInt = r.1) (h4 : d.toInt = r.2) : (fit4 a b c d → pr4 p.1 p.2 r.1 r.2 = some (mn4 p.1 p.2 r.1 r.2, mx4 p.1 p.2 r.1 r.2)) ∧ (¬ fit4 a b c d → pr4 p.1 p.2 r.1 r.2 = none) := by
  unfold fit4
  rw [h1, h2, h3, h4]
  exact ⟨fun z => if_pos ⟨z.1.1.1, z.1.1.2, z.1.2, z.2⟩, fun z => if_neg (fun y => z ⟨⟨⟨y.1, y.2.1⟩, y.2.2.1⟩, y.2.2.2⟩)⟩
theorem changes_ok {σ : HS} (h : Typ σ) (hb : bit (hA σ 48 20)) {k i a b : Nat} (hk : 2 ≤ k) (hk5 : k ≤ 5) (hi : i < 60) (ha : a < i) (hb' : 3 ≤ k → b < i) :
    ∃ σ', f_X6_changes 48 (nI k) (nI i) (nI a) (nI b) σ = some ((), σ') ∧ Mf [68, 69] σ σ' ∧ bit (hA σ' 48 20) ∧ (∀ j, j ≠ i → hB σ' 68 j = hB σ 68 j ∧ hB σ' 69 j = hB σ 69 j) ∧ ∀ p P, VB σ 68 69 a p → VB σ 64 65 a P → ∀ r R, (3 ≤ k → VB σ 68 69 b r ∧ VB σ 64 65 b R) → RJ σ σ' 68 69 i (if k = 2 then sp1 (some p) else if k = 5 then sp2 3 (sp2 5 (some p) (some R)) (sp2 5 (some P) (some r)) else sp2 k (some p) (some r)) := by
  have hk' : k = 2 ∨ k = 3 ∨ k = 4 ∨ k = 5 := by omega
  rcases hk' with k2 | k2 | k2 | k2
  · subst k2
    obtain ⟨j1, j2, j3, j4, j5⟩ := jfin 68 69 (by decide) (by decide) (by decide) σ i (fl (inR ((0 : Int64).toInt - (hB σ 69 a).toInt) ∧ inR ((0 : Int64).toInt - (hB σ 68 a).toInt)) (hA σ 48 20)) (0 - hB σ 69 a) (0 - hB σ 68 a)
    refine ⟨_, mc_2 h hb (nI b) hi ha, j1, by rw [j2]; exact fl_bit hb, j3, fun p P hp hP r R hr => ?_⟩
    rw [if_pos rfl]
    exact val_2 hp.1 hp.2.1 hp.2.2 j2 j4 j5 rfl
  · subst k2
    obtain ⟨j1, j2, j3, j4, j5⟩ := jfin 68 69 (by decide) (by decide) (by decide) σ i (fl (inR ((hB σ 68 a).toInt + (hB σ 68 b).toInt) ∧ inR ((hB σ 69 a).toInt + (hB σ 69 b).toInt)) (hA σ 48 20)) (hB σ 68 a + hB σ 68 b) (hB σ 69 a + hB σ 69 b)
    refine ⟨_, mc_3 h hb hi ha (hb' (by omega)), j1, by rw [j2]; exact fl_bit hb, j3, fun p P hp hP r R hr => ?_⟩
    rw [if_neg (by decide), if_neg (by decide)]
    have hr := (hr (by omega)).1
    exact val_3 hp.1 hp.2.1 hp.2.2 hr.1 hr.2.1 hr.2.2 j2 j4 j5 rfl
  · subst k2
    obtain ⟨j1, j2, j3, j4, j5⟩ := jfin 68 69 (by decide) (by decide) (by decide) σ i (fl (inR ((hB σ 68 a).toInt - (hB σ 69 b).toInt) ∧ inR ((hB σ 69 a).toInt - (hB σ 68 b).toInt)) (hA σ 48 20)) (hB σ 68 a - hB σ 69 b) (hB σ 69 a - hB σ 68 b)
    refine ⟨_, mc_4 h hb hi ha (hb' (by omega)), j1, by rw [j2]; exact fl_bit hb, j3, fun p P hp hP r R hr => ?_⟩
    rw [if_neg (by decide), if_neg (by decide)]
    have hr := (hr (by omega)).1
    exact val_4 hp.1 hp.2.1 hp.2.2 hr.1 hr.2.1 hr.2.2 j2 j4 j5 rfl
  · subst k2
    obtain ⟨v, v1, v2, v3, l1, g1, l2, g2, el1, eg1, el2, eg2, ev1, ev2, ev3, ev, ef⟩ := mc_5 h hb hi ha (hb' (by omega))
    obtain ⟨j1, j2, j3, j4, j5⟩ := jfin6 σ i v l1 g1 l2 g2 (l1 + l2) (g1 + g2)
    have bv1 : bit v1 := by rw [ev1]; exact fl_bit hb
    have bv2 : bit v2 := by rw [ev2]; exact fl_bit bv1
    have bv3 : bit v3 := by rw [ev3]; exact fl_bit bv2
    refine ⟨_, ef, j1, by rw [j2, ev]; exact fl_bit bv3, j3, fun p P hp hP r R hr => ?_⟩
    rw [if_neg (by decide), if_pos rfl]
    obtain ⟨hr1, hR⟩ := hr (by omega)
    obtain ⟨f1, f2⟩ := fit_pr hp.1 hp.2.1 hR.1 hR.2.1
    obtain ⟨f3, f4⟩ := fit_pr hP.1 hP.2.1 hr1.1 hr1.2.1
    show RJ _ _ 68 69 i (sp2 3 (pr4 p.1 p.2 R.1 R.2) (pr4 P.1 P.2 r.1 r.2))
    by_cases c1 : fit4 (hB σ 68 a) (hB σ 69 a) (hB σ 64 b) (hB σ 65 b)
    · by_cases c2 : fit4 (hB σ 64 a) (hB σ 65 a) (hB σ 68 b) (hB σ 69 b)
      · obtain ⟨m1, m2⟩ := gMM c1 hp.1 hp.2.1 hR.1 hR.2.1
        obtain ⟨m3, m4⟩ := gMM c2 hP.1 hP.2.1 hr1.1 hr1.2.1
        rw [← el1] at m1
        rw [← eg1] at m2
        rw [← el2] at m3
        rw [← eg2] at m4
        rw [fl_t c1] at ev1
        rw [fl_t c2, ev1] at ev2
        rw [f1 c1, f3 c2]
        have w1 := mn4_le p.1 p.2 R.1 R.2
        have w2 := mn4_le P.1 P.2 r.1 r.2
        show RJ _ _ 68 69 i (rg (mn4 p.1 p.2 R.1 R.2 + mn4 P.1 P.2 r.1 r.2) (mx4 p.1 p.2 R.1 R.2 + mx4 P.1 P.2 r.1 r.2))
        rw [m1, m3, ev2] at ev3
        rw [m2, m4] at ev
        by_cases c3 : inR (mn4 p.1 p.2 R.1 R.2 + mn4 P.1 P.2 r.1 r.2)
        · rw [fl_t c3] at ev3
          rw [ev3] at ev
          by_cases c4 : inR (mx4 p.1 p.2 R.1 R.2 + mx4 P.1 P.2 r.1 r.2)
          · rw [fl_t c4] at ev
            rw [rg_of c3 c4]
            refine ⟨j2.trans ev, ?_, ?_, ?_⟩
            · rw [j4, l_add (by rw [m1, m3]; exact c3), m1, m3]
            · rw [j5, l_add (by rw [m2, m4]; exact c4), m2, m4]
            · show mn4 p.1 p.2 R.1 R.2 + mn4 P.1 P.2 r.1 r.2 ≤ mx4 p.1 p.2 R.1 R.2 + mx4 P.1 P.2 r.1 r.2
              omega
          · rw [fl_f c4] at ev
            rw [show rg (mn4 p.1 p.2 R.1 R.2 + mn4 P.1 P.2 r.1 r.2) (mx4 p.1 p.2 R.1 R.2 + mx4 P.1 P.2 r.1 r.2) = none from if_neg (fun z => c4 z.2)]
            exact j2.trans ev
        · rw [fl_f c3] at ev3
          rw [ev3, fl_1] at ev
          rw [show rg (mn4 p.1 p.2 R.1 R.2 + mn4 P.1 P.2 r.1 r.2) (mx4 p.1 p.2 R.1 R.2 + mx4 P.1 P.2 r.1 r.2) = none from if_neg (fun z => c3 z.1)]
          exact j2.trans ev
      · rw [fl_f c2] at ev2
        rw [ev2, fl_1] at ev3
        rw [ev3, fl_1] at ev
        rw [f4 c2, sp2_n]
        exact j2.trans ev
    · rw [fl_f c1] at ev1
      rw [ev1, fl_1] at ev2
      rw [ev2, fl_1] at ev3
      rw [ev3, fl_1] at ev
      rw [f2 c1]
      exact j2.trans ev
/-- how far the reference's going through the changes has come: the flag, the places -/
def ChI (σ : HS) (Φ : FM) (L H : Nat → Int) (q i : Nat) (g : Int32) : Prop := (g = 0 ∧ ∀ j, j < i → ∃ p, CH Φ L H q j = some p ∧ VB σ 68 69 j p) ∨ (g = 1 ∧ ∃ j, j < i ∧ CH Φ L H q j = none)
theorem or01 (v : Int32) : (0 : Int32) ||| v = v := by rw [Int32.or_comm]; exact Int32.or_zero
theorem or11 {v : Int32} (h : bit v) : (1 : Int32) ||| v = 1 := by rcases h with z | z <;> rw [z] <;> decide
theorem m_chpart (K : Nat → Int32 → Int32 → Int32 → Int32 → Int32 → HS → Option (Int32 × HS)) {σ : HS} (h : Typ σ) {f : Nat} {Φ : FM} (hf : f < 7) (hm : MF σ f Φ) (hw : WF Φ) {L H : Nat → Int} (hs : RepA σ 63 Φ L H) (ha : ∀ j, j < mN Φ → SP Φ L H j ≠ none) {q : Nat} (hq : q < 6) (x3 : Int32) {i : Nat} (hi : i < mN Φ) {g : Int32} (hg : ChI σ Φ L H q i g) :
    ∃ σ' g', lp_X6_changeOf_12_b K 48 (nI f) (nI q) x3 g (nI i) σ = K 48 (nI f) (nI q) x3 g' (nI (i + 1)) σ' ∧ Mf [68, 69] σ σ' ∧ ChI σ' Φ L H q (i + 1) g' := by
  obtain ⟨w0, w60, wr⟩ := hw
  obtain ⟨k5, ku0, ku1, ku, kv, kv0, kp⟩ := wr i hi
  obtain ⟨hn, hc⟩ := hm
  obtain ⟨c1, c2, c3, c4⟩ := hc i hi
  have fe := inbE (i := f) (n := 7) hf (by omega)
  have cf := cl1000 (i := f) (by omega)
  have pe := inbE (i := 60 * f + i) (n := 420) (by omega) (by omega)
  have cp := cl1000 (i := 60 * f + i) (by omega)
  have ie := inbE (i := i) (n := 60) (by omega) (by omega)
  have ci := cl1000 (i := i) (by omega)
  have le := nle (a := mN Φ) (b := i) (by omega) (by omega)
  have n48 : ∀ j k : Nat, j ≠ 48 → hA (sA σ 48 20 0) j k = hA σ j k := fun j k hj => by rw [hA_sA, if_neg (fun z => hj z.1)]
  have hsV : ∀ j, j < mN Φ → ∃ P, SP Φ L H j = some P ∧ VB σ 64 65 j P := fun j hj => by
    obtain ⟨P, hP⟩ := Option.ne_none_iff_exists'.mp (ha j hj)
    have := hs j hj
    rw [hP] at this
    exact ⟨P, hP, this.2⟩
  by_cases kk : mK Φ i ≤ 1
  · have lk : ((1 : Int32) < nI (mK Φ i)) = False := eq_false (fun z => by
      rw [show (1 : Int32) = nI 1 from rfl, nI_ltI (by omega) (by omega)] at z; omega)
    have go : ∀ w : Int64, CH Φ L H q i = some (w.toInt, w.toInt) → Mf [68, 69] σ (sB (sB (sA σ 48 20 0) 68 i w) 69 i w) ∧ ChI (sB (sB (sA σ 48 20 0) 68 i w) 69 i w) Φ L H q (i + 1) g := fun w hcw => by
      obtain ⟨j1, j2, j3, j4, j5⟩ := jfin 68 69 (by decide) (by decide) (by decide) σ i 0 w w
      refine ⟨j1, ?_⟩
      rcases hg with ⟨g0, hv⟩ | ⟨g1, j, hj, hn'⟩
      · refine Or.inl ⟨g0, fun j hj => ?_⟩
        by_cases z : j = i
        · rw [z]; exact ⟨_, hcw, by rw [j4], by rw [j5], Int.le_refl _⟩
        · obtain ⟨p, hp, v1, v2, v3⟩ := hv j (by omega)
          obtain ⟨e1, e2⟩ := j3 j z
          exact ⟨p, hp, by rw [e1]; exact v1, by rw [e2]; exact v2, v3⟩
      · exact Or.inr ⟨g1, j, by omega, hn'⟩
    have fg : hA (sB (sB (sA σ 48 20 0) 68 i (1 : Int64)) 69 i 1) 48 20 = 0 := (hA_f σ 0)
    have fg0 : hA (sB (sB (sA σ 48 20 0) 68 i (0 : Int64)) 69 i 0) 48 20 = 0 := (hA_f σ 0)
    by_cases k0 : mK Φ i = 0
    · have hu := ku0 k0
      have eq : (nI (mU Φ i) = nI q) = (mU Φ i = q) := nE (by omega) (by omega)
      have k0' : (nI (mK Φ i) = 0) = True := by rw [k0]; exact eq_true rfl
      by_cases z : mU Φ i = q
      · obtain ⟨y1, y2⟩ := go 1 (by rw [CH_0 k0, if_pos z]; rfl)
        refine ⟨_, g, ?_, y1, y2⟩
        unfold lp_X6_changeOf_12_b
        simp only [chk_p, lt_p, bd_p, bc_p, oc_n, oc_s, and_self, and_true, true_and, if_true, if_false, isO_sA', isO_sB', isO_rA', hlen_sA, hlen_sB, hlen_rA, hR_sA, hR_sB, hR_rA, Typ_sA', Typ_sB', Typ_rA', O48, r48_0, r48_1, r48_2, r48_3, r48_4, r48_5, r48_6, r48_8, r48_9, r48_10, r48_11, r48_12, r48_15, r48_21, r48_22, r48_23, r48_24, r48_25, r48_28, r48_30, r48_31, r48_32, r48_35, r48_37, r48_39, r48_40, r48_41, O51, l51, O52, l52, O55, l55, O68, l68, O69, l69, h, fe, cf, hn, le, if_false, at_ok, n48 51 _ (by decide), n48 52 _ (by decide), pe, cp, c1, c2, lk, k0', eq, z, ie, ci, fg, or0, nI_s]
      · obtain ⟨y1, y2⟩ := go 0 (by rw [CH_0 k0, if_neg z]; rfl)
        refine ⟨_, g, ?_, y1, y2⟩
        unfold lp_X6_changeOf_12_b
        simp only [chk_p, lt_p, bd_p, bc_p, oc_n, oc_s, and_self, and_true, true_and, if_true, if_false, isO_sA', isO_sB', isO_rA', hlen_sA, hlen_sB, hlen_rA, hR_sA, hR_sB, hR_rA, Typ_sA', Typ_sB', Typ_rA', O48, r48_0, r48_1, r48_2, r48_3, r48_4, r48_5, r48_6, r48_8, r48_9, r48_10, r48_11, r48_12, r48_15, r48_21, r48_22, r48_23, r48_24, r48_25, r48_28, r48_30, r48_31, r48_32, r48_35, r48_37, r48_39, r48_40, r48_41, O51, l51, O52, l52, O55, l55, O68, l68, O69, l69, h, fe, cf, hn, le, if_false, at_ok, n48 51 _ (by decide), n48 52 _ (by decide), pe, cp, c1, c2, lk, k0', eq, z, ie, ci, fg0, or0, nI_s]
    · have k1 : mK Φ i = 1 := by omega
      have k0' : (nI (mK Φ i) = 0) = False := by rw [k1]; exact beq1
      obtain ⟨y1, y2⟩ := go 0 (by rw [CH_1 k1]; rfl)
      refine ⟨_, g, ?_, y1, y2⟩
      unfold lp_X6_changeOf_12_b
      simp only [chk_p, lt_p, bd_p, bc_p, oc_n, oc_s, and_self, and_true, true_and, if_true, if_false, isO_sA', isO_sB', isO_rA', hlen_sA, hlen_sB, hlen_rA, hR_sA, hR_sB, hR_rA, Typ_sA', Typ_sB', Typ_rA', O48, r48_0, r48_1, r48_2, r48_3, r48_4, r48_5, r48_6, r48_8, r48_9, r48_10, r48_11, r48_12, r48_15, r48_21, r48_22, r48_23, r48_24, r48_25, r48_28, r48_30, r48_31, r48_32, r48_35, r48_37, r48_39, r48_40, r48_41, O51, l51, O52, l52, O55, l55, O68, l68, O69, l69, h, fe, cf, hn, le, if_false, at_ok, n48 51 _ (by decide), n48 52 _ (by decide), pe, cp, c1, c2, lk, k0', ie, ci, fg0, or0, nI_s]
  · have lk : ((1 : Int32) < nI (mK Φ i)) = True := eq_true (by
      rw [show (1 : Int32) = nI 1 from rfl, nI_ltI (by omega) (by omega)]; omega)
    have hu := ku (by omega)
    obtain ⟨σ1, j1, j2, j3, j4, j5⟩ := changes_ok (σ := sA σ 48 20 0) (k := mK Φ i) (i := i) (a := mU Φ i) (b := mV Φ i) h (by rw [hA_f]; exact Or.inl rfl) (by omega) k5 (by omega) hu kv
    have h1 : Typ σ1 := j2.typ h
    have f1 : Mf [68, 69] σ σ1 := (Mf_s (by decide) (by decide)).seq j2
    refine ⟨σ1, g ||| hA σ1 48 20, ?_, f1, ?_⟩
    · unfold lp_X6_changeOf_12_b
      simp only [chk_p, lt_p, bd_p, bc_p, oc_n, oc_s, and_self, and_true, true_and, if_true, if_false, isO_sA', isO_sB', isO_rA', hlen_sA, hlen_sB, hlen_rA, hR_sA, hR_sB, hR_rA, Typ_sA', Typ_sB', Typ_rA', O48, r48_0, r48_1, r48_2, r48_3, r48_4, r48_5, r48_6, r48_8, r48_9, r48_10, r48_11, r48_12, r48_15, r48_21, r48_22, r48_23, r48_24, r48_25, r48_28, r48_30, r48_31, r48_32, r48_35, r48_37, r48_39, r48_40, r48_41, O51, l51, O52, l52, O53, l53, O55, l55, h, h1, fe, cf, hn, le, if_false, at_ok, n48 51 _ (by decide), n48 52 _ (by decide), n48 53 _ (by decide), pe, cp, c1, c2, c3, lk, j1, nI_s]
    · rcases hg with ⟨g0, hv⟩ | ⟨g1, j, hj, hn'⟩
      · rw [g0, or01]
        obtain ⟨p, hp, vp⟩ := hv _ hu
        obtain ⟨P, hP, vP⟩ := hsV (mU Φ i) (by omega)
        obtain ⟨r, R, hrr, e⟩ : ∃ r R, (3 ≤ mK Φ i → VB (sA σ 48 20 0) 68 69 (mV Φ i) r ∧ VB (sA σ 48 20 0) 64 65 (mV Φ i) R) ∧ (if mK Φ i = 2 then sp1 (some p) else if mK Φ i = 5 then sp2 3 (sp2 5 (some p) (some R)) (sp2 5 (some P) (some r)) else sp2 (mK Φ i) (some p) (some r)) = CH Φ L H q i := by
          by_cases k2 : mK Φ i = 2
          · exact ⟨(0, 0), (0, 0), fun z => by omega, by rw [if_pos k2, CH_2 wr hi k2, hp]⟩
          · have hv' := kv (by omega)
            obtain ⟨r, hr, vr⟩ := hv _ hv'
            obtain ⟨R, hR, vR⟩ := hsV (mV Φ i) (by omega)
            refine ⟨r, R, fun _ => ⟨vr, vR⟩, ?_⟩
            rw [if_neg k2]
            by_cases k5' : mK Φ i = 5
            · rw [if_pos k5', CH_5 wr hi k5', hp, hr, hP, hR]
            · rw [if_neg k5', CH_3 wr hi (by omega) k5', hp, hr]
        have rj := j5 p P vp vP r R hrr
        rw [e] at rj
        cases hx : CH Φ L H q i with
        | none =>
          rw [hx] at rj
          exact Or.inr ⟨rj, i, by omega, hx⟩
        | some x =>
          rw [hx] at rj
          obtain ⟨r1, r2⟩ := rj
          refine Or.inl ⟨r1.trans (hA_f _ _), fun j hj => ?_⟩
          by_cases z : j = i
          · rw [z]; exact ⟨x, hx, r2⟩
          · obtain ⟨y, hy, u1, u2, u3⟩ := hv j (by omega)
            obtain ⟨e1, e2⟩ := j4 j z
            exact ⟨y, hy, by rw [e1]; exact u1, by rw [e2]; exact u2, u3⟩
      · rw [g1, or11 j3]
        exact Or.inr ⟨rfl, j, by omega, hn'⟩
theorem m_chlp {f : Nat} {Φ : FM} (hf : f < 7) (hgd : Good Φ) {L H : Nat → Int} (ha : ∀ j, j < mN Φ → SP Φ L H j ≠ none) {q : Nat} (hq : q < 6) (x3 : Int32) : ∀ (d i : Nat) (g : Int32) (σ : HS), Typ σ → MF σ f Φ → RepA σ 63 Φ L H → ChI σ Φ L H q i g → i + d = mN Φ → ∀ nf, d < nf →
    ∃ σ', lp_X6_changeOf_12 nf 48 (nI f) (nI q) x3 g (nI i) σ = some (RC (CH Φ L H q (mN Φ - 1)), σ') ∧ Mf [68, 69] σ σ' := by
  have hw := hgd.1
  intro d
  induction d with
  | zero =>
    intro i g σ t hm hs hg hi nf hnf
    obtain ⟨nf, rfl⟩ : ∃ k, nf = k + 1 := ⟨nf - 1, by omega⟩
    have hi : i = mN Φ := by omega
    subst hi
    have w1 := hw.1
    have w60 := hw.2.1
    have fe := inbE (i := f) (n := 7) hf (by omega)
    have cf := cl1000 (i := f) (by omega)
    have me := inbE (i := mN Φ - 1) (n := 60) (by omega) (by omega)
    have cm := cl1000 (i := mN Φ - 1) (by omega)
    have ro := rootOf_ok t hf hm.1 hw
    have le : (nI (mN Φ) ≤ nI (mN Φ)) = True := eq_true (Int32.le_refl _)
    refine ⟨σ, ?_, Mf.rf⟩
    show lp_X6_changeOf_12_b (lp_X6_changeOf_12 nf) 48 (nI f) (nI q) x3 g (nI (mN Φ)) σ = _
    unfold lp_X6_changeOf_12_b
    rcases hg with ⟨g0, hv⟩ | ⟨g1, j, hj, hn'⟩
    · obtain ⟨p, hp, b2, b3, b4⟩ := hv (mN Φ - 1) (by omega)
      have z0 : (0 : Int64).toInt = 0 := rfl
      have e1 : (lg_cmp (hB σ 68 (mN Φ - 1)) 0 = 0) = (p.1 = 0) := by rw [z_eq, l_eq, z0, b2]
      have e2 : (lg_cmp (hB σ 69 (mN Φ - 1)) 0 = 0) = (p.2 = 0) := by rw [z_eq, l_eq, z0, b3]
      have e3 : (lg_cmp (hB σ 68 (mN Φ - 1)) 0 < 0) = (p.1 < 0) := by rw [z_lt0, b2]
      have e4 : (0 < lg_cmp (hB σ 69 (mN Φ - 1)) 0) = (0 < p.2) := by rw [zc_gt, z0, b3]
      rw [hp]
      simp only [chk_p, lt_p, bd_p, bc_p, oc_n, oc_s, and_self, and_true, true_and, if_true, if_false, isO_sA', isO_sB', isO_rA', hlen_sA, hlen_sB, hlen_rA, hR_sA, hR_sB, hR_rA, Typ_sA', Typ_sB', Typ_rA', O48, r48_0, r48_1, r48_2, r48_3, r48_4, r48_5, r48_6, r48_8, r48_9, r48_10, r48_11, r48_12, r48_15, r48_21, r48_22, r48_23, r48_24, r48_25, r48_28, r48_30, r48_31, r48_32, r48_35, r48_37, r48_39, r48_40, r48_41, O55, l55, O68, l68, O69, l69, t, fe, cf, hm.1, le, ro, me, cm, g0, e1, e2, e3, e4]
      show _ = some (if p.1 = 0 ∧ p.2 = 0 then 0 else if 0 ≤ p.1 then 1 else if p.2 ≤ 0 then 2 else 3, σ)
      by_cases c1 : p.1 = 0
      · rw [if_pos c1]
        by_cases c2 : p.2 = 0
        · rw [if_pos c2, if_pos ⟨c1, c2⟩]
        · rw [if_neg c2, if_neg (show ¬ p.1 < 0 by omega), if_neg (show ¬ (p.1 = 0 ∧ p.2 = 0) from fun z => c2 z.2), if_pos (show 0 ≤ p.1 by omega)]
      · rw [if_neg c1, if_neg (show ¬ (p.1 = 0 ∧ p.2 = 0) from fun z => c1 z.1)]
        by_cases c3 : p.1 < 0
        · rw [if_pos c3, if_neg (show ¬ 0 ≤ p.1 by omega)]
          by_cases c4 : 0 < p.2
          · rw [if_pos c4, if_neg (by omega)]
          · rw [if_neg c4, if_pos (by omega)]
        · rw [if_neg c3, if_pos (show 0 ≤ p.1 by omega)]
    · have hr : CH Φ L H q (mN Φ - 1) = none := by
        cases hx : CH Φ L H q (mN Φ - 1) with
        | none => rfl
        | some p => exact absurd hn' (CH_all hgd (by rw [hx]; exact fun z => by cases z) (mN Φ - 1 - j) j (by omega))
      rw [hr]
      simp only [chk_p, lt_p, bd_p, bc_p, oc_n, oc_s, and_self, and_true, true_and, if_true, if_false, isO_sA', isO_sB', isO_rA', hlen_sA, hlen_sB, hlen_rA, hR_sA, hR_sB, hR_rA, Typ_sA', Typ_sB', Typ_rA', O48, r48_0, r48_1, r48_2, r48_3, r48_4, r48_5, r48_6, r48_8, r48_9, r48_10, r48_11, r48_12, r48_15, r48_21, r48_22, r48_23, r48_24, r48_25, r48_28, r48_30, r48_31, r48_32, r48_35, r48_37, r48_39, r48_40, r48_41, O55, l55, O68, l68, O69, l69, t, fe, cf, hm.1, le, ro, me, cm, g1, beq1, if_false]
      rfl
  | succ d ih =>
    intro i g σ t hm hs hg hi nf hnf
    obtain ⟨nf, rfl⟩ : ∃ k, nf = k + 1 := ⟨nf - 1, by omega⟩
    obtain ⟨σ1, g1, e1, f1, r1⟩ := m_chpart (lp_X6_changeOf_12 nf) t hf hm hw hs ha hq x3 (i := i) (by omega) hg
    obtain ⟨σ2, e2, f2⟩ := ih (i + 1) g1 σ1 (f1.typ t) (hm.mf f1 (by decide) (by decide) (by decide) (by decide) (by decide)) (fun j hj => rep63 (hs j hj) (f1.B (by decide) j) (f1.B (by decide) j) (f1.A (by decide) j)) r1 (by omega) nf (by omega)
    exact ⟨σ2, e1.trans e2, f1.seq f2⟩
theorem m_change {σ : HS} {φ f : Nat} {Φ : FM} {V S C : Nat → Int32} (hf : f < 7) (hg : Good Φ) (h : CS σ φ f Φ V S C) (hx : RT Φ (LO V S) (HI V S) ≠ none) {q : Nat} (hq : q < 6) : ∃ σ', f_X6_changeOf 48 (nI f) (nI q) σ = some (RC (CH Φ (LO V S) (HI V S) q (mN Φ - 1)), σ') ∧ Kp σ σ' ∧ CS σ' φ f Φ V S C ∧ ∀ j, j < 6 → hA σ' 70 j = hA σ 70 j := by
  have w60 := hg.1.2.1
  obtain ⟨σ1, z1, z2, z3, z4, z5, z6⟩ := m_now hf hg.1 h
  obtain ⟨σ2, e1, e2⟩ := m_chlp hf hg (fun j hj => all_some hg hx (mN Φ - 1 - j) j (by omega)) hq (rc (RT Φ (LO V S) (HI V S))) (mN Φ) 0 0 σ1 z3.1 z3.2.2.1 z4 (Or.inl ⟨rfl, fun j hj => by omega⟩) (by omega) 1000 (by omega)
  have k2 : Kp σ1 σ2 := e2.kp (by decide)
  refine ⟨σ2, ?_, z2.seq k2, z3.kp k2, fun j hj => (e2.A (by decide) j).trans (z6.A (by decide) j)⟩
  have t := h.1
  unfold f_X6_changeOf
  rw [chk_p (o48 t), z1, bc_p, lt_p, lt_p]
  exact e1
theorem op_rises (a b : Int32) : OpOK (f_X5_rises 0 a b) (f_X6_rises 48 a b) := by
  intro σ V S C n FS I
  have t := I.1
  rcases start I a with ⟨k, φ, hk, rfl, ef, hg, hc, hxi, em⟩ | ⟨ef, em⟩
  · rcases srcC b with ⟨s, hs, rfl, xs, ms⟩ | ⟨xs, ms⟩
    · obtain ⟨σ1, x1, x2, x3, x4, x5, x6⟩ := c_now hg.1 hc
      have t1 := x3.1
      cases hx : RT (FS k) (LO V S) (HI V S) with
      | none =>
        obtain ⟨σ2, z1, z2, z3, z4, z5, z6⟩ := m_now hk hg.1 x3
        rw [hx] at x5 z1
        have xo' : ¬ (hA σ1 24 2 = 0) := by rw [show hA σ1 24 2 = 1 from x5]; decide
        refine opQ I ⟨-6, σ1, σ2, ?_, x2, ?_, z2⟩
        · unfold f_X5_rises
          rw [chk_p (o0 t), ef, bc_p, oc_s, xs, bc_p, if_neg (by decide), chk_p (o0 t), x1, bc_p, chk_p (o0 t1), r0_4 t1, bd_p, chk_p (o24 t1), lt_p, if_neg xo']
        · unfold f_X6_rises
          rw [chk_p (o48 t1), em σ1 t1 x2.k7, bc_p, if_neg (by decide), ms, bc_p, if_neg (by decide), chk_p (o48 t1), z1, bc_p]
          exact if_pos rfl
      | some p =>
        rw [hx] at x5
        have xo' : hA σ1 24 2 = 0 := x5.1
        obtain ⟨σ2, y1, y2, y3, y4, y5⟩ := c_change hg.1 x3 x4 hs
        have t2 := y3.1
        obtain ⟨σ3, z1, z2, z3, z4, z5, z6⟩ := m_now hk hg.1 y3
        rw [hx] at z1
        have t3 := z3.1
        obtain ⟨σ4, v1, v2, v3, v4⟩ := m_change hk hg z3 (by rw [hx]; exact fun z => by cases z) hs
        refine opQ I ⟨RC (CH (FS k) (LO V S) (HI V S) s (mN (FS k) - 1)), σ2, σ4, ?_, x2.seq y2, ?_, z2.seq v2⟩
        · unfold f_X5_rises
          rw [chk_p (o0 t), ef, bc_p, oc_s, xs, bc_p, if_neg (by decide), chk_p (o0 t), x1, bc_p, chk_p (o0 t1), r0_4 t1, bd_p, chk_p (o24 t1), lt_p, if_pos xo', y1, bc_p]
        · unfold f_X6_rises
          rw [chk_p (o48 t2), em σ2 t2 (x2.seq y2).k7, bc_p, if_neg (by decide), ms, bc_p, if_neg (by decide), chk_p (o48 t2), z1, bc_p, if_neg (show ¬ rc (some p) = 0 from (by decide : ¬ (1 : Int32) = 0)), chk_p (o48 t3), v1, bc_p]
    · refine opN I (-1) ?_ ?_
      · unfold f_X5_rises
        rw [chk_p (o0 t), ef, bc_p, oc_s, xs, bc_p, if_pos rfl]
      · unfold f_X6_rises
        rw [chk_p (o48 t), em σ t rfl, bc_p, if_neg (by decide), ms, bc_p, if_pos rfl]
  · refine opN I (-1) ?_ ?_
    · unfold f_X5_rises
      rw [chk_p (o0 t), ef, bc_p, oc_n]
    · unfold f_X6_rises
      rw [chk_p (o48 t), em, bc_p, if_pos rfl]
