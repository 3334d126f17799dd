/-! again -/
def hS (S : Nat → Int32) (k s : Nat) : Int32 := if k.testBit s = true then S s / 2 else S s
def cs32 (C : Nat → Int32) (k : Nat) : Nat → Int32
  | 0 => 0
  | i + 1 => cs32 C k i + (if k.testBit i = true then C i else 0)
def wA (Φ : FM) (V S : Nat → Int32) (k : Nat) : Int := wid (RT Φ (LO V (hS S k)) (HI V (hS S k)))
def stepA (Φ : FM) (V S C : Nat → Int32) (lim : Int) (k : Nat) (x : Int32 × Int32) : Int32 × Int32 := if (x.1 = -5 ∨ ¬ x.2 ≤ cs32 C k 6) ∧ ¬ lim < wA Φ V S k then (nI k, cs32 C k 6) else x
def outA (Φ : FM) (V S C : Nat → Int32) (lim : Int) : Nat → Nat → Int32 × Int32 → Int32 × Int32
  | 0, _, x => x
  | d + 1, k, x => outA Φ V S C lim d (k + 1) (stepA Φ V S C lim k x)
def resA (e : Nat) (x : Int32 × Int32) : Int32 := if x.1 = -5 then x.1 else if e = 0 then x.1 else x.2
theorem hS_in {σ : HS} {φ f : Nat} {Φ : FM} {V S C : Nat → Int32} (h : CS σ φ f Φ V S C) (k : Nat) {s : Nat} (hs : s < 6) : 0 ≤ (hS S k s).toInt ∧ (hS S k s).toInt ≤ (S s).toInt := by
  obtain ⟨-, -, -, -, -, -, -, r1, -⟩ := cs_val h hs
  unfold hS
  by_cases c : k.testBit s = true
  · rw [if_pos c, Int32.toInt_div_of_ne_right _ _ (by decide), show (2 : Int32).toInt = 2 from rfl, Int.tdiv_eq_ediv_of_nonneg (by omega)]
    omega
  · rw [if_neg c]; omega
theorem hS_lo {σ : HS} {φ f : Nat} {Φ : FM} {V S C : Nat → Int32} (h : CS σ φ f Φ V S C) (k : Nat) {s : Nat} (hs : s < 6) : (V s - hS S k s).toInt = LO V (hS S k) s ∧ (V s + hS S k s).toInt = HI V (hS S k) s ∧ LO V (hS S k) s ≤ HI V (hS S k) s := by
  obtain ⟨-, -, -, -, -, -, r0, r1, -⟩ := cs_val h hs
  have := hS_in h k hs
  unfold LO HI
  rw [if_pos hs, if_pos hs, i_sub (by omega) (by omega) (by omega) (by omega), i_add (by omega) (by omega) (by omega) (by omega)]
  exact ⟨rfl, rfl, by omega⟩
theorem hS_box {σ : HS} {φ f : Nat} {Φ : FM} {V S C : Nat → Int32} (h : CS σ φ f Φ V S C) (k : Nat) : ∀ s, LO V S s ≤ LO V (hS S k) s ∧ LO V (hS S k) s ≤ HI V (hS S k) s ∧ HI V (hS S k) s ≤ HI V S s := fun s => by
  by_cases hs : s < 6
  · obtain ⟨-, -, -, -, -, -, r0, r1, -⟩ := cs_val h hs
    have := hS_in h k hs
    unfold LO HI
    rw [if_pos hs, if_pos hs, if_pos hs, if_pos hs]; omega
  · unfold LO HI
    rw [if_neg hs, if_neg hs, if_neg hs, if_neg hs]; omega
theorem bmix_same (i : Nat) (v L : Nat → Int) (e : v i = L i) : bmix (i + 1) v L = bmix i v L := by
  funext s; unfold bmix
  by_cases c : s < i
  · rw [if_pos (by omega), if_pos c]
  · rw [if_neg c]
    by_cases c2 : s = i
    · rw [if_pos (by omega), c2, e]
    · rw [if_neg (by omega)]
theorem bmix_6' {v L : Nat → Int} (h : ∀ s, 6 ≤ s → L s = v s) : bmix 6 v L = v := by
  funext s; unfold bmix
  by_cases e : s < 6
  · rw [if_pos e]
  · rw [if_neg e, h s (by omega)]
theorem x_cost {φ f : Nat} {Φ : FM} {V S C : Nat → Int32} {k : Nat} (hk : k < 64) {σ : HS} (h : CS σ φ f Φ V S C) : ∀ d i, i + d = 6 → ∀ nf, d < nf → lp_X2_costOf_4 nf 1 (nI k) (cs32 C k i) (nI i) σ = some (cs32 C k 6, σ) := by
  intro d
  induction d with
  | zero =>
    intro i hi nf hnf
    obtain ⟨nf, rfl⟩ : ∃ k, nf = k + 1 := ⟨nf - 1, by omega⟩
    have : i = 6 := by omega
    subst this
    show lp_X2_costOf_4_b (lp_X2_costOf_4 nf) 1 _ _ (nI 6) σ = _
    unfold lp_X2_costOf_4_b
    exact if_pos (by decide)
  | succ d ih =>
    intro i hi nf hnf
    obtain ⟨nf, rfl⟩ : ∃ k, nf = k + 1 := ⟨nf - 1, by omega⟩
    have e := ih (i + 1) (by omega) nf (by omega)
    have t := h.1
    have le : (6 : Int32) ≤ nI i ↔ False := by rw [show (6 : Int32) = nI 6 from rfl, nle (a := 6) (b := i) (by omega) (by omega)]
    have le := eq_false (fun z => le.mp z)
    have ie := inbE (i := i) (n := 6) (by omega) (by omega)
    have ci := cl1000 (i := i) (by omega)
    have v := (cs_val h (show i < 6 by omega)).2.2.1
    rw [show cs32 C k (i + 1) = cs32 C k i + (if k.testBit i = true then C i else 0) from rfl] at e
    show lp_X2_costOf_4_b (lp_X2_costOf_4 nf) 1 _ _ (nI i) σ = _
    unfold lp_X2_costOf_4_b
    rw [← e]
    by_cases c : k.testBit i = true
    · simp (decide := true) only [le, if_false, bit_at k hk i (show i < 6 by omega), c, if_true, chk_p, lt_p, bd_p, bc_p, oc_n, oc_s, and_self, and_true, true_and, if_true, if_false, isO_sA', isO_sB', isO_rA', hlen_sA, hlen_sB, hlen_rA, hR_sA, hR_sB, hR_rA, Typ_sA', Typ_sB', Typ_rA', O1, r1_0, r1_1, r1_2, r1_3, r1_5, r1_6, r1_7, O4, l4, t, ie, ci, v, nI_s]
    · simp (decide := true) only [le, if_false, bit_at k hk i (show i < 6 by omega), c, if_true, nI_s, lt_p]
theorem x_half {φ f : Nat} {Φ : FM} {V S C : Nat → Int32} (hw : WF Φ) {p : Int × Int} (hx : RT Φ (LO V S) (HI V S) = some p) (g : inR (p.2 - p.1)) {k : Nat} (hk : k < 64) (S0 : Nat → Int32) : ∀ d i (σ : HS), CS σ φ f Φ V S C → Bx σ (bmix i (LO V (hS S k)) (LO V S0)) (bmix i (HI V (hS S k)) (HI V S0)) → i + d = 6 → ∀ nf, d < nf → ∃ σ', lp_X5_widthWithHalf_2 nf 0 φ (nI k) (nI i) σ = some (Int64.ofInt (wA Φ V S k), σ') ∧ Kp σ σ' ∧ CS σ' φ f Φ V S C ∧ Bx σ' (LO V (hS S k)) (HI V (hS S k)) := by
  intro d
  induction d with
  | zero =>
    intro i σ h hb hi nf hnf
    obtain ⟨nf, rfl⟩ : ∃ k, nf = k + 1 := ⟨nf - 1, by omega⟩
    have : i = 6 := by omega
    subst this
    rw [bmix_6' (fun s hs => by rw [LO6 V S0 s hs, LO6 V (hS S k) s hs]), bmix_6' (fun s hs => by rw [HI6 V S0 s hs, HI6 V (hS S k) s hs])] at hb
    obtain ⟨σ2, g1, g2, g3, g4, g5, g6, g7⟩ := c_carry hw h hb
    obtain ⟨q, e, q1, q2, q3⟩ := rt_nar (hS_box h k) hx
    rw [e] at g5
    obtain ⟨u1, u2, u3, u4⟩ := g5
    have ew : wA Φ V S k = q.2 - q.1 := by unfold wA; rw [e]; rfl
    have t := h.1
    have t2 := g3.1
    refine ⟨σ2, ?_, g2, g3, g6⟩
    show lp_X5_widthWithHalf_2_b (lp_X5_widthWithHalf_2 nf) 0 φ (nI k) (nI 6) σ = _
    unfold lp_X5_widthWithHalf_2_b
    rw [if_pos (by decide)]
    simp only [chk_p, lt_p, bd_p, bc_p, oc_n, oc_s, and_self, and_true, true_and, if_true, if_false, isO_sA', isO_sB', isO_rA', hlen_sA, hlen_sB, hlen_rA, hR_sA, hR_sB, hR_rA, Typ_sA', Typ_sB', Typ_rA', O0, r0_0, r0_1, r0_3, r0_4, r0_5, r0_6, r0_7, O24, r24_0, r24_1, r24_5, r24_6, r24_7, r24_8, r24_9, t, t2, g1]
    rw [ofI_eq (a := hB σ2 24 4 - hB σ2 24 3) (by rw [l_sub (by rw [u2, u3]; omega), u2, u3, ew])]
  | succ d ih =>
    intro i σ h hb hi nf hnf
    obtain ⟨nf, rfl⟩ : ∃ k, nf = k + 1 := ⟨nf - 1, by omega⟩
    have hi6 : i < 6 := by omega
    obtain ⟨hl1, hl2, hl3⟩ := hS_lo h k hi6
    obtain ⟨s1, s2, s3⟩ := c_stand h.1 hb hi6 (a := V i - hS S k i) (b := V i + hS S k i) (by rw [hl1, hl2]; exact hl3)
    rw [hl1, hl2, bmix_up, bmix_up] at s2
    have k1 := s3.kp (by decide)
    obtain ⟨σ', e1, e2, e3, e4⟩ := ih (i + 1) _ (h.kp k1) s2 (by omega) nf (by omega)
    refine ⟨σ', ?_, k1.seq e2, e3, e4⟩
    rw [← e1]
    have t := h.1
    have le : (6 : Int32) ≤ nI i ↔ False := by rw [show (6 : Int32) = nI 6 from rfl, nle (a := 6) (b := i) (by omega) (by omega)]
    have le := eq_false (fun z => le.mp z)
    have ie := inbE (i := i) (n := 6) (by omega) (by omega)
    have ci := cl1000 (i := i) (by omega)
    obtain ⟨v1, v2, -⟩ := cs_val h hi6
    show lp_X5_widthWithHalf_2_b (lp_X5_widthWithHalf_2 nf) 0 φ (nI k) (nI i) σ = _
    unfold lp_X5_widthWithHalf_2_b
    by_cases c : k.testBit i = true
    · have eh : hS S k i = S i / 2 := if_pos c
      rw [eh] at s1 ⊢
      simp (decide := true) only [le, if_false, bit_at k hk i hi6, c, if_true, chk_p, lt_p, bd_p, bc_p, oc_n, oc_s, and_self, and_true, true_and, if_true, if_false, isO_sA', isO_sB', isO_rA', hlen_sA, hlen_sB, hlen_rA, hR_sA, hR_sB, hR_rA, Typ_sA', Typ_sB', Typ_rA', O0, r0_0, r0_1, r0_3, r0_4, r0_5, r0_6, r0_7, O1, r1_0, r1_1, r1_2, r1_3, r1_5, r1_6, r1_7, O2, l2, O3, l3, O24, r24_0, r24_1, r24_5, r24_6, r24_7, r24_8, r24_9, t, ie, ci, v1, v2, s1, nI_s]
    · have eh : hS S k i = S i := if_neg c
      rw [eh] at s1 ⊢
      simp (decide := true) only [le, if_false, bit_at k hk i hi6, c, if_true, chk_p, lt_p, bd_p, bc_p, oc_n, oc_s, and_self, and_true, true_and, if_true, if_false, isO_sA', isO_sB', isO_rA', hlen_sA, hlen_sB, hlen_rA, hR_sA, hR_sB, hR_rA, Typ_sA', Typ_sB', Typ_rA', O0, r0_0, r0_1, r0_3, r0_4, r0_5, r0_6, r0_7, O1, r1_0, r1_1, r1_2, r1_3, r1_5, r1_6, r1_7, O2, l2, O3, l3, O24, r24_0, r24_1, r24_5, r24_6, r24_7, r24_8, r24_9, t, ie, ci, v1, v2, s1, nI_s]
theorem x_again {φ f : Nat} {Φ : FM} {V S C : Nat → Int32} (hw : WF Φ) {p : Int × Int} (hx : RT Φ (LO V S) (HI V S) = some p) (g : inR (p.2 - p.1)) (a : Int32) (lim : Int64) {e : Nat} (he : e < 2) : ∀ (d k : Nat) (S0 : Nat → Int32) (x : Int32 × Int32) (σ : HS), CS σ φ f Φ V S C → Bx σ (LO V S0) (HI V S0) → k + d = 64 → ∀ nf, d < nf →
    ∃ σ', lp_X5_again_54 nf 0 a lim (nI e) φ x.1 x.2 (nI k) σ = some (resA e (outA Φ V S C lim.toInt d k x), σ') ∧ Kp σ σ' := by
  intro d
  induction d with
  | zero =>
    intro k S0 x σ h hb hd nf hnf
    obtain ⟨nf, rfl⟩ : ∃ k, nf = k + 1 := ⟨nf - 1, by omega⟩
    have : k = 64 := by omega
    subst this
    refine ⟨σ, ?_, Kp.rf⟩
    show lp_X5_again_54_b (lp_X5_again_54 nf) 0 a lim (nI e) φ _ _ (nI 64) σ = _
    unfold lp_X5_again_54_b resA
    rw [if_pos (by decide)]
    have e0 : (nI e = 0) = (e = 0) := nE (a := e) (b := 0) (by omega) (by omega)
    simp only [e0]
    show (if x.1 = -5 then _ else _) = some (if x.1 = -5 then _ else _, σ)
    by_cases c1 : x.1 = -5
    · rw [if_pos c1, if_pos c1]; rfl
    · rw [if_neg c1, if_neg c1]
      by_cases c2 : e = 0
      · rw [if_pos c2, if_pos c2]; rfl
      · rw [if_neg c2, if_neg c2]; rfl
  | succ d ih =>
    intro k S0 x σ h hb hd nf hnf
    obtain ⟨nf, rfl⟩ : ∃ k, nf = k + 1 := ⟨nf - 1, by omega⟩
    have hk : k < 64 := by omega
    have t := h.1
    have le : (64 : Int32) ≤ nI k ↔ False := by rw [show (64 : Int32) = nI 64 from rfl, nle (a := 64) (b := k) (by omega) (by omega)]
    have le := eq_false (fun z => le.mp z)
    have co : f_X2_costOf 1 (nI k) σ = some (cs32 C k 6, σ) := x_cost hk h 6 0 (by omega) 1000 (by omega)
    obtain ⟨σ1, y1, y2, y3, y4⟩ := x_half hw hx g hk S0 6 0 σ h (by rw [bmix_0, bmix_0]; exact hb) (by omega) 1000 (by omega)
    have t1 := y3.1
    have hh : f_X5_widthWithHalf 0 φ (nI k) σ = some (Int64.ofInt (wA Φ V S k), σ1) := y1
    obtain ⟨q, eq, q1, q2, q3⟩ := rt_nar (hS_box h k) hx
    have ew : wA Φ V S k = q.2 - q.1 := by unfold wA; rw [eq]; rfl
    have cmp : (0 < lg_cmp (Int64.ofInt (wA Φ V S k)) lim) = (lim.toInt < wA Φ V S k) := by rw [zc_gt, ofI (by omega)]
    rw [show outA Φ V S C lim.toInt (d + 1) k x = outA Φ V S C lim.toInt d (k + 1) (stepA Φ V S C lim.toInt k x) from rfl]
    show ∃ σ', lp_X5_again_54_b (lp_X5_again_54 nf) 0 a lim (nI e) φ _ _ (nI k) σ = _ ∧ _
    unfold lp_X5_again_54_b
    by_cases c1 : x.1 = -5
    · by_cases c2 : lim.toInt < wA Φ V S k
      · rw [show stepA Φ V S C lim.toInt k x = x from if_neg (fun z => z.2 c2)]
        obtain ⟨σ2, e1, e2⟩ := ih (k + 1) _ x σ1 y3 y4 (by omega) nf (by omega)
        refine ⟨σ2, ?_, y2.seq e2⟩
        rw [← e1]
        simp only [le, if_false, chk_p, lt_p, bd_p, bc_p, oc_n, oc_s, and_self, and_true, true_and, if_true, if_false, isO_sA', isO_sB', isO_rA', hlen_sA, hlen_sB, hlen_rA, hR_sA, hR_sB, hR_rA, Typ_sA', Typ_sB', Typ_rA', O0, r0_0, r0_1, r0_3, r0_4, r0_5, r0_6, r0_7, O1, r1_0, r1_1, r1_2, r1_3, r1_5, r1_6, r1_7, t, co, c1, hh, cmp, c2, nI_s]
      · rw [show stepA Φ V S C lim.toInt k x = (nI k, cs32 C k 6) from if_pos ⟨Or.inl c1, c2⟩]
        obtain ⟨σ2, e1, e2⟩ := ih (k + 1) _ (nI k, cs32 C k 6) σ1 y3 y4 (by omega) nf (by omega)
        refine ⟨σ2, ?_, y2.seq e2⟩
        rw [← e1]
        simp only [le, if_false, chk_p, lt_p, bd_p, bc_p, oc_n, oc_s, and_self, and_true, true_and, if_true, if_false, isO_sA', isO_sB', isO_rA', hlen_sA, hlen_sB, hlen_rA, hR_sA, hR_sB, hR_rA, Typ_sA', Typ_sB', Typ_rA', O0, r0_0, r0_1, r0_3, r0_4, r0_5, r0_6, r0_7, O1, r1_0, r1_1, r1_2, r1_3, r1_5, r1_6, r1_7, t, co, c1, hh, cmp, c2, nI_s]
    · by_cases c3 : x.2 ≤ cs32 C k 6
      · rw [show stepA Φ V S C lim.toInt k x = x from if_neg (fun z => z.1.elim c1 (fun y => y c3))]
        obtain ⟨σ2, e1, e2⟩ := ih (k + 1) S0 x σ h hb (by omega) nf (by omega)
        refine ⟨σ2, ?_, e2⟩
        rw [← e1]
        simp only [le, if_false, chk_p, lt_p, bd_p, bc_p, oc_n, oc_s, and_self, and_true, true_and, if_true, if_false, isO_sA', isO_sB', isO_rA', hlen_sA, hlen_sB, hlen_rA, hR_sA, hR_sB, hR_rA, Typ_sA', Typ_sB', Typ_rA', O0, r0_0, r0_1, r0_3, r0_4, r0_5, r0_6, r0_7, O1, r1_0, r1_1, r1_2, r1_3, r1_5, r1_6, r1_7, t, co, c1, c3, nI_s]
      · by_cases c2 : lim.toInt < wA Φ V S k
        · rw [show stepA Φ V S C lim.toInt k x = x from if_neg (fun z => z.2 c2)]
          obtain ⟨σ2, e1, e2⟩ := ih (k + 1) _ x σ1 y3 y4 (by omega) nf (by omega)
          refine ⟨σ2, ?_, y2.seq e2⟩
          rw [← e1]
          simp only [le, if_false, chk_p, lt_p, bd_p, bc_p, oc_n, oc_s, and_self, and_true, true_and, if_true, if_false, isO_sA', isO_sB', isO_rA', hlen_sA, hlen_sB, hlen_rA, hR_sA, hR_sB, hR_rA, Typ_sA', Typ_sB', Typ_rA', O0, r0_0, r0_1, r0_3, r0_4, r0_5, r0_6, r0_7, O1, r1_0, r1_1, r1_2, r1_3, r1_5, r1_6, r1_7, t, co, c1, c3, hh, cmp, c2, nI_s]
        · rw [show stepA Φ V S C lim.toInt k x = (nI k, cs32 C k 6) from if_pos ⟨Or.inr c3, c2⟩]
          obtain ⟨σ2, e1, e2⟩ := ih (k + 1) _ (nI k, cs32 C k 6) σ1 y3 y4 (by omega) nf (by omega)
          refine ⟨σ2, ?_, y2.seq e2⟩
          rw [← e1]
          simp only [le, if_false, chk_p, lt_p, bd_p, bc_p, oc_n, oc_s, and_self, and_true, true_and, if_true, if_false, isO_sA', isO_sB', isO_rA', hlen_sA, hlen_sB, hlen_rA, hR_sA, hR_sB, hR_rA, Typ_sA', Typ_sB', Typ_rA', O0, r0_0, r0_1, r0_3, r0_4, r0_5, r0_6, r0_7, O1, r1_0, r1_1, r1_2, r1_3, r1_5, r1_6, r1_7, t, co, c1, c3, hh, cmp, c2, nI_s]
theorem m_ag {φ f : Nat} {Φ : FM} {V S C : Nat → Int32} (hf : f < 7) (hw : WF Φ) {p : Int × Int} (hx : RT Φ (LO V S) (HI V S) = some p) (g : inR (p.2 - p.1)) (K : Nat → Int32 → Int64 → Int32 → Int32 → Int32 → Int32 → HS → Option (Int32 × HS)) (lim : Int64) (e : Int32) {k : Nat} (hk : k < 64) (x : Int32 × Int32) : ∀ d i (σ : HS), CS σ φ f Φ V S C → BxM σ (bmix i (LO V (hS S k)) (LO V S)) (bmix i (HI V (hS S k)) (HI V S)) → i + d = 6 → ∀ nf, d < nf → ∃ σ', lp_X6_again_63 K nf 48 (nI f) lim e x.1 x.2 (nI k) (cs32 C k i) (nI i) σ = K 48 (nI f) lim e (stepA Φ V S C lim.toInt k x).1 (stepA Φ V S C lim.toInt k x).2 (nI (k + 1)) σ' ∧ Kp σ σ' ∧ CS σ' φ f Φ V S C := by
  intro d
  induction d with
  | zero =>
    intro i σ h hb hi nf hnf
    obtain ⟨nf, rfl⟩ : ∃ k, nf = k + 1 := ⟨nf - 1, by omega⟩
    have : i = 6 := by omega
    subst this
    rw [bmix_6' (fun s hs => by rw [LO6 V S s hs, LO6 V (hS S k) s hs]), bmix_6' (fun s hs => by rw [HI6 V S s hs, HI6 V (hS S k) s hs])] at hb
    obtain ⟨σ2, g1, g2, g3, g4⟩ := m_width hf hw h hb
    obtain ⟨q, eq, q1, q2, q3⟩ := rt_nar (hS_box h k) hx
    have ew : wA Φ V S k = q.2 - q.1 := by unfold wA; rw [eq]; rfl
    have eo : oW (WD (RT Φ (LO V (hS S k)) (HI V (hS S k)))) = Int64.ofInt (wA Φ V S k) := by
      rw [eq, ew]; show oW (if inR (q.2 - q.1) then some (q.2 - q.1) else none) = _
      rw [if_pos (by omega)]; rfl
    rw [eo] at g1
    have cmp : (0 < lg_cmp (Int64.ofInt (wA Φ V S k)) lim) = (lim.toInt < wA Φ V S k) := by rw [zc_gt, ofI (by omega)]
    have t := h.1
    refine ⟨σ2, ?_, g2, g3⟩
    show lp_X6_again_63_b K (lp_X6_again_63 K nf) 48 (nI f) lim e _ _ (nI k) _ (nI 6) σ = _
    unfold lp_X6_again_63_b
    rw [if_pos (by decide)]
    by_cases c2 : lim.toInt < wA Φ V S k
    · rw [show stepA Φ V S C lim.toInt k x = x from if_neg (fun z => z.2 c2)]
      simp only [chk_p, lt_p, bd_p, bc_p, oc_n, oc_s, and_self, and_true, true_and, if_true, if_false, isO_sA', isO_sB', isO_rA', hlen_sA, hlen_sB, hlen_rA, hR_sA, hR_sB, hR_rA, Typ_sA', Typ_sB', Typ_rA', O48, r48_0, r48_1, r48_2, r48_3, r48_4, r48_5, r48_6, r48_8, r48_9, r48_10, r48_11, r48_12, r48_15, r48_21, r48_22, r48_23, r48_24, r48_25, r48_28, r48_30, r48_31, r48_32, r48_35, r48_37, r48_39, r48_40, r48_41, t, g1, cmp, c2, nI_s]
    · by_cases c1 : x.1 = -5
      · rw [show stepA Φ V S C lim.toInt k x = (nI k, cs32 C k 6) from if_pos ⟨Or.inl c1, c2⟩]
        simp only [chk_p, lt_p, bd_p, bc_p, oc_n, oc_s, and_self, and_true, true_and, if_true, if_false, isO_sA', isO_sB', isO_rA', hlen_sA, hlen_sB, hlen_rA, hR_sA, hR_sB, hR_rA, Typ_sA', Typ_sB', Typ_rA', O48, r48_0, r48_1, r48_2, r48_3, r48_4, r48_5, r48_6, r48_8, r48_9, r48_10, r48_11, r48_12, r48_15, r48_21, r48_22, r48_23, r48_24, r48_25, r48_28, r48_30, r48_31, r48_32, r48_35, r48_37, r48_39, r48_40, r48_41, t, g1, cmp, c2, c1, if_false, nI_s]
      · by_cases c3 : x.2 ≤ cs32 C k 6
        · rw [show stepA Φ V S C lim.toInt k x = x from if_neg (fun z => z.1.elim c1 (fun y => y c3))]
          simp only [chk_p, lt_p, bd_p, bc_p, oc_n, oc_s, and_self, and_true, true_and, if_true, if_false, isO_sA', isO_sB', isO_rA', hlen_sA, hlen_sB, hlen_rA, hR_sA, hR_sB, hR_rA, Typ_sA', Typ_sB', Typ_rA', O48, r48_0, r48_1, r48_2, r48_3, r48_4, r48_5, r48_6, r48_8, r48_9, r48_10, r48_11, r48_12, r48_15, r48_21, r48_22, r48_23, r48_24, r48_25, r48_28, r48_30, r48_31, r48_32, r48_35, r48_37, r48_39, r48_40, r48_41, t, g1, cmp, c2, c1, c3, if_false, nI_s]
        · rw [show stepA Φ V S C lim.toInt k x = (nI k, cs32 C k 6) from if_pos ⟨Or.inr c3, c2⟩]
          simp only [chk_p, lt_p, bd_p, bc_p, oc_n, oc_s, and_self, and_true, true_and, if_true, if_false, isO_sA', isO_sB', isO_rA', hlen_sA, hlen_sB, hlen_rA, hR_sA, hR_sB, hR_rA, Typ_sA', Typ_sB', Typ_rA', O48, r48_0, r48_1, r48_2, r48_3, r48_4, r48_5, r48_6, r48_8, r48_9, r48_10, r48_11, r48_12, r48_15, r48_21, r48_22, r48_23, r48_24, r48_25, r48_28, r48_30, r48_31, r48_32, r48_35, r48_37, r48_39, r48_40, r48_41, t, g1, cmp, c2, c1, c3, if_false, nI_s]
  | succ d ih =>
    intro i σ h hb hi nf hnf
    obtain ⟨nf, rfl⟩ : ∃ k, nf = k + 1 := ⟨nf - 1, by omega⟩
    have hi6 : i < 6 := by omega
    have t := h.1
    have le : (6 : Int32) ≤ nI i ↔ False := by rw [show (6 : Int32) = nI 6 from rfl, nle (a := 6) (b := i) (by omega) (by omega)]
    have le := eq_false (fun z => le.mp z)
    obtain ⟨l1, l2, l3⟩ := hS_lo h k hi6
    have ec : cs32 C k (i + 1) = cs32 C k i + (if k.testBit i = true then C i else 0) := rfl
    show ∃ σ', lp_X6_again_63_b K (lp_X6_again_63 K nf) 48 (nI f) lim e _ _ (nI k) _ (nI i) σ = _ ∧ _
    unfold lp_X6_again_63_b
    by_cases c : k.testBit i = true
    · have eh : hS S k i = S i / 2 := if_pos c
      obtain ⟨s1, s2, s3⟩ := m_lays t hb hi6 (a := V i - hS S k i) (b := V i + hS S k i) (by rw [l1, l2]; exact l3)
      rw [l1, l2, bmix_up, bmix_up] at s2
      have k1 := s3.kp (by decide)
      obtain ⟨σ', e1, e2, e3⟩ := ih (i + 1) _ (h.kp k1) s2 (by omega) nf (by omega)
      rw [ec, if_pos c] at e1
      refine ⟨σ', ?_, k1.seq e2, e3⟩
      rw [← e1]
      rw [eh] at s1 ⊢
      have pe := inbE (i := 3 * i + 2) (n := 18) (by omega) (by omega)
      have cp := cl1000 (i := 3 * i + 2) (by omega)
      have v2 := (cs_val h hi6).2.2.2.2.2.1
      have p2 : ∀ q : Nat, nI q + (2 : Int32) = nI (q + 2) := fun q => nI_plus q 2
      simp (decide := true) only [le, if_false, bit_at k hk i hi6, c, if_true, chk_p, lt_p, bd_p, bc_p, oc_n, oc_s, and_self, and_true, true_and, if_true, if_false, isO_sA', isO_sB', isO_rA', hlen_sA, hlen_sB, hlen_rA, hR_sA, hR_sB, hR_rA, Typ_sA', Typ_sB', Typ_rA', O48, r48_0, r48_1, r48_2, r48_3, r48_4, r48_5, r48_6, r48_8, r48_9, r48_10, r48_11, r48_12, r48_15, r48_21, r48_22, r48_23, r48_24, r48_25, r48_28, r48_30, r48_31, r48_32, r48_35, r48_37, r48_39, r48_40, r48_41, O49, l49, t, nI_mul3, p2, pe, cp, v2, m_val h hi6, m_span h hi6, s1, nI_s]
    · have eh : hS S k i = S i := if_neg c
      obtain ⟨-, -, -, -, -, -, -, -, -, vl, vh⟩ := cs_val h hi6
      rw [← bmix_same i (LO V (hS S k)) (LO V S) (by rw [← l1, eh, vl]), ← bmix_same i (HI V (hS S k)) (HI V S) (by rw [← l2, eh, vh])] at hb
      obtain ⟨σ', e1, e2, e3⟩ := ih (i + 1) σ h hb (by omega) nf (by omega)
      rw [ec, if_neg c, Int32.add_zero] at e1
      refine ⟨σ', ?_, e2, e3⟩
      rw [← e1]
      simp (decide := true) only [le, if_false, bit_at k hk i hi6, c, if_true, nI_s, lt_p]
theorem m_again {φ f : Nat} {Φ : FM} {V S C : Nat → Int32} (hf : f < 7) (hw : WF Φ) {p : Int × Int} (hx : RT Φ (LO V S) (HI V S) = some p) (g : inR (p.2 - p.1)) (lim : Int64) {e : Nat} (he : e < 2) : ∀ (d k : Nat) (x : Int32 × Int32) (σ : HS), CS σ φ f Φ V S C → k + d = 64 → ∀ nf, d < nf →
    ∃ σ', lp_X6_again_46 nf 48 (nI f) lim (nI e) x.1 x.2 (nI k) σ = some (resA e (outA Φ V S C lim.toInt d k x), σ') ∧ Kp σ σ' := by
  intro d
  induction d with
  | zero =>
    intro k x σ h hd nf hnf
    obtain ⟨nf, rfl⟩ : ∃ k, nf = k + 1 := ⟨nf - 1, by omega⟩
    have : k = 64 := by omega
    subst this
    refine ⟨σ, ?_, Kp.rf⟩
    show lp_X6_again_46_b (lp_X6_again_46 nf) 48 (nI f) lim (nI e) _ _ (nI 64) σ = _
    unfold lp_X6_again_46_b resA
    rw [if_pos (by decide)]
    have e0 : (nI e = 0) = (e = 0) := nE (a := e) (b := 0) (by omega) (by omega)
    simp only [e0]
    show (if x.1 = -5 then _ else _) = some (if x.1 = -5 then _ else _, σ)
    by_cases c1 : x.1 = -5
    · rw [if_pos c1, if_pos c1]; rfl
    · rw [if_neg c1, if_neg c1]
      by_cases c2 : e = 0
      · rw [if_pos c2, if_pos c2]; rfl
      · rw [if_neg c2, if_neg c2]; rfl
  | succ d ih =>
    intro k x σ h hd nf hnf
    obtain ⟨nf, rfl⟩ : ∃ k, nf = k + 1 := ⟨nf - 1, by omega⟩
    have hk : k < 64 := by omega
    have t := h.1
    have le : (64 : Int32) ≤ nI k ↔ False := by rw [show (64 : Int32) = nI 64 from rfl, nle (a := 64) (b := k) (by omega) (by omega)]
    have le := eq_false (fun z => le.mp z)
    obtain ⟨σ1, b1, b2, b3, b4, -⟩ := m_box h
    obtain ⟨σ2, y1, y2, y3⟩ := m_ag hf hw hx g (lp_X6_again_46 nf) lim (nI e) hk x 6 0 σ1 b3 (by rw [bmix_0, bmix_0]; exact b4) (by omega) 1000 (by omega)
    obtain ⟨σ3, e1, e2⟩ := ih (k + 1) (stepA Φ V S C lim.toInt k x) σ2 y3 (by omega) nf (by omega)
    refine ⟨σ3, ?_, (b2.seq y2).seq e2⟩
    rw [show outA Φ V S C lim.toInt (d + 1) k x = outA Φ V S C lim.toInt d (k + 1) (stepA Φ V S C lim.toInt k x) from rfl, ← e1, ← y1]
    show lp_X6_again_46_b (lp_X6_again_46 nf) 48 (nI f) lim (nI e) _ _ (nI k) σ = _
    unfold lp_X6_again_46_b
    simp only [le, if_false, chk_p, lt_p, bd_p, bc_p, oc_n, oc_s, and_self, and_true, true_and, if_true, if_false, isO_sA', isO_sB', isO_rA', hlen_sA, hlen_sB, hlen_rA, hR_sA, hR_sB, hR_rA, Typ_sA', Typ_sB', Typ_rA', O48, r48_0, r48_1, r48_2, r48_3, r48_4, r48_5, r48_6, r48_8, r48_9, r48_10, r48_11, r48_12, r48_15, r48_21, r48_22, r48_23, r48_24, r48_25, r48_28, r48_30, r48_31, r48_32, r48_35, r48_37, r48_39, r48_40, r48_41, t, b1]
    rfl
theorem op_again (a : Int32) (lim : Int64) (w : Int32) : OpOK (f_X5_again 0 a lim w) (f_X6_again 48 a lim w) := by
  intro σ V S C n FS I
  have t := I.1
  rcases start I a with ⟨k, φ, hk, rfl, ef, hg, hc, hxi, em⟩ | ⟨ef, em⟩
  · rcases rng1 w with ⟨e, he, rfl, w0, w2, wm⟩ | ⟨wm, wc⟩
    · obtain ⟨σ1, x1, x2, x3, x4, x5, x6⟩ := c_now hg.1 hc
      have t1 := x3.1
      have hwd := hasWidth_ok t1 x5
      by_cases hw : WD (RT (FS k) (LO V S) (HI V S)) = none
      · obtain ⟨σ2, z1, z2, z3⟩ := m_widthNow hk hg.1 x3
        have ow := oW_no (Φ := FS k) (LOHI x3)
        rw [hw] at hwd z1 ow
        have ow1 : (lg_cmp (oW none) (-9223372036854775807) = 0) = True := ow.trans (eq_true rfl)
        refine opQ I ⟨-6, σ1, σ2, ?_, x2, ?_, z2⟩
        · unfold f_X5_again
          simp only [chk_p, lt_p, bd_p, bc_p, oc_n, oc_s, and_self, and_true, true_and, if_true, if_false, isO_sA', isO_sB', isO_rA', hlen_sA, hlen_sB, hlen_rA, hR_sA, hR_sB, hR_rA, Typ_sA', Typ_sB', Typ_rA', O0, r0_0, r0_1, r0_3, r0_4, r0_5, r0_6, r0_7, O24, r24_0, r24_1, r24_5, r24_6, r24_7, r24_8, r24_9, t, t1, ef, w0, w2, if_false, x1, hwd, Option.isSome_none, Bool.false_eq_true]
        · unfold f_X6_again
          rw [chk_p (o48 t1), em σ1 t1 x2.k7, bc_p, if_neg (by decide), wm, bc_p, if_neg (by decide), chk_p (o48 t1), z1, bc_p, if_pos (of_eq_true ow1)]
      · obtain ⟨wd, hw'⟩ := Option.ne_none_iff_exists'.mp hw
        obtain ⟨p, hp, hpw, hw0, hwr⟩ := WD_some (LOHI hc) hw'
        subst hpw
        have xg : ∀ b c : Int32, ∃ σ', lp_X5_again_54 1000 0 (nI k) lim (nI e) φ b c (nI 0) σ1 = some (resA e (outA (FS k) V S C lim.toInt 64 0 (b, c)), σ') ∧ Kp σ1 σ' := fun b c => x_again hg.1 hp hwr (nI k) lim he 64 0 S (b, c) σ1 x3 x6 (by omega) 1000 (by omega)
        obtain ⟨σ2, y1, y2⟩ := xg (-5) 0
        have c2 := x3.kp y2
        have t2 := c2.1
        obtain ⟨σ3, z1, z2, z3⟩ := m_widthNow hk hg.1 c2
        have t3 := z3.1
        have mg : ∀ b c : Int32, ∃ σ', lp_X6_again_46 1000 48 (nI k) lim (nI e) b c (nI 0) σ3 = some (resA e (outA (FS k) V S C lim.toInt 64 0 (b, c)), σ') ∧ Kp σ3 σ' := fun b c => m_again hk hg.1 hp hwr lim he 64 0 (b, c) σ3 z3 (by omega) 1000 (by omega)
        obtain ⟨σ4, u1, u2⟩ := mg (-5) 0
        have ow := oW_no (Φ := FS k) (LOHI x3)
        have ow' : (WD (RT (FS k) (LO V S) (HI V S)) = none) = False := eq_false hw
        rw [ow'] at ow
        rw [hw'] at hwd z1 ow
        generalize outA (FS k) V S C lim.toInt 64 0 (-5, 0) = y at y1 u1
        refine opQ I ⟨resA e y, σ2, σ4, ?_, x2.seq y2, ?_, z2.seq u2⟩
        · unfold f_X5_again
          simp only [chk_p, lt_p, bd_p, bc_p, oc_n, oc_s, and_self, and_true, true_and, if_true, if_false, isO_sA', isO_sB', isO_rA', hlen_sA, hlen_sB, hlen_rA, hR_sA, hR_sB, hR_rA, Typ_sA', Typ_sB', Typ_rA', O0, r0_0, r0_1, r0_3, r0_4, r0_5, r0_6, r0_7, O24, r24_0, r24_1, r24_5, r24_6, r24_7, r24_8, r24_9, t, t1, ef, w0, w2, if_false, x1, hwd, Option.isSome_some, beq1]
          exact y1
        · unfold f_X6_again
          rw [chk_p (o48 t2), em σ2 t2 (x2.seq y2).k7, bc_p, if_neg (by decide), wm, bc_p, if_neg (by decide), chk_p (o48 t2), z1, bc_p, if_neg (of_eq_false ow), lt_p, lt_p, lt_p]
          exact u1
    · refine opN I (-1) ?_ ?_
      · unfold f_X5_again
        rcases wc with wc | ⟨wc, wc2⟩
        · simp only [chk_p, lt_p, bd_p, bc_p, oc_n, oc_s, and_self, and_true, true_and, if_true, if_false, isO_sA', isO_sB', isO_rA', hlen_sA, hlen_sB, hlen_rA, hR_sA, hR_sB, hR_rA, Typ_sA', Typ_sB', Typ_rA', O0, r0_0, r0_1, r0_3, r0_4, r0_5, r0_6, r0_7, t, ef, wc]
        · simp only [chk_p, lt_p, bd_p, bc_p, oc_n, oc_s, and_self, and_true, true_and, if_true, if_false, isO_sA', isO_sB', isO_rA', hlen_sA, hlen_sB, hlen_rA, hR_sA, hR_sB, hR_rA, Typ_sA', Typ_sB', Typ_rA', O0, r0_0, r0_1, r0_3, r0_4, r0_5, r0_6, r0_7, t, ef, wc, wc2, if_false]
      · unfold f_X6_again
        rw [chk_p (o48 t), em σ t rfl, bc_p, if_neg (by decide), wm, bc_p, if_pos rfl]
  · refine opN I (-1) ?_ ?_
    · unfold f_X5_again
      simp only [chk_p, lt_p, bd_p, bc_p, oc_n, oc_s, and_self, and_true, true_and, if_true, if_false, isO_sA', isO_sB', isO_rA', hlen_sA, hlen_sB, hlen_rA, hR_sA, hR_sB, hR_rA, Typ_sA', Typ_sB', Typ_rA', O0, r0_0, r0_1, r0_3, r0_4, r0_5, r0_6, r0_7, t, ef]
    · unfold f_X6_again
      rw [chk_p (o48 t), em, bc_p, if_pos rfl]
