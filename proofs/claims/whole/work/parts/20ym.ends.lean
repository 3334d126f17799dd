/-! ends -/
def plV (PS PW PV V : Nat → Int32) : Nat → Nat → Int32
  | 0, s => V s
  | k + 1, s => if PS k = nI s ∧ PW k = 0 then PV k else plV PS PW PV V k s
def plS (PS PW PV S : Nat → Int32) : Nat → Nat → Int32
  | 0, s => S s
  | k + 1, s => if PS k = nI s then (if PW k = 1 then PV k else if PW k = 2 then plS PS PW PV S k s >>> (PV k &&& 31) else plS PS PW PV S k s) else plS PS PW PV S k s
theorem sh_in : ∀ T, T < 21 → ∀ q, q < 5 → ∃ r, r < 21 ∧ nI T >>> (nI q &&& 31) = nI r := by
  have h : ∀ T, T < 21 → ∀ q, q < 5 → nI T >>> (nI q &&& 31) = nI (T >>> q) := by decide +kernel
  intro T hT q hq
  refine ⟨T >>> q, ?_, h T hT q hq⟩
  rw [Nat.shiftRight_eq_div_pow]
  have := Nat.div_le_self T (2 ^ q)
  omega
abbrev plok3 (PW PV : Nat → Int32) (k : Nat) : Prop := PW k = 0 ∧ rgI (PV k) (-99) 99 ∨ PW k = 1 ∧ rgI (PV k) 0 20 ∨ PW k = 2 ∧ rgI (PV k) 0 4
theorem plV_in {PS PW PV V : Nat → Int32} {p : Nat} (h : ∀ k, k < p → plok3 PW PV k) {s : Nat} (hv : rgI (V s) (-99) 99) : ∀ k, k ≤ p → rgI (plV PS PW PV V k s) (-99) 99 := by
  intro k
  induction k with
  | zero => intro _; exact hv
  | succ k ih =>
    intro hk
    show rgI (if PS k = nI s ∧ PW k = 0 then PV k else plV PS PW PV V k s) (-99) 99
    by_cases c : PS k = nI s ∧ PW k = 0
    · rw [if_pos c]
      rcases h k (by omega) with z | z | z
      · exact z.2
      · exact absurd (c.2.symm.trans z.1) (by decide)
      · exact absurd (c.2.symm.trans z.1) (by decide)
    · rw [if_neg c]; exact ih (by omega)
theorem plS_in {PS PW PV S : Nat → Int32} {p : Nat} (h : ∀ k, k < p → plok3 PW PV k) {s : Nat} (hv : rgI (S s) 0 20) : ∀ k, k ≤ p → rgI (plS PS PW PV S k s) 0 20 := by
  intro k
  induction k with
  | zero => intro _; exact hv
  | succ k ih =>
    intro hk
    have i := ih (by omega)
    show rgI (if PS k = nI s then (if PW k = 1 then PV k else if PW k = 2 then plS PS PW PV S k s >>> (PV k &&& 31) else plS PS PW PV S k s) else plS PS PW PV S k s) 0 20
    by_cases c : PS k = nI s
    · rw [if_pos c]
      rcases h k (by omega) with z | z | z
      · rw [if_neg (by rw [z.1]; decide), if_neg (by rw [z.1]; decide)]; exact i
      · rw [if_pos z.1]; exact z.2
      · rw [if_neg (by rw [z.1]; decide), if_pos z.1]
        obtain ⟨T, hT, eT⟩ := nI_of20 i.1 i.2
        obtain ⟨q, hq, eq⟩ := nI_of20 z.2.1 (by have := z.2.2; omega)
        have hq4 : q < 5 := by have := z.2.2; rw [eq, nT (by omega)] at this; omega
        obtain ⟨r, hr, er⟩ := sh_in T (by omega) q hq4
        rw [eT, eq, er]
        exact ⟨by rw [nT (by omega)]; omega, by rw [nT (by omega)]; omega⟩
    · rw [if_neg c]; exact i
theorem sb_ok {σ : HS} (t : Typ σ) {k : Nat} (hk : k < 8) (x : Int32) {w v : Int32} (hw : hA σ 7 k = w) (hv : hA σ 8 k = v) : f_X2_spanBehind 1 (nI k) x σ = some (if w = 1 then v else if w = 2 then x >>> (v &&& 31) else x, σ) := by
  have ie := inbE (i := k) (n := 8) hk (by omega)
  have ci := cl1000 (i := k) (by omega)
  unfold f_X2_spanBehind
  simp only [chk_p, lt_p, bd_p, bc_p, oc_n, oc_s, and_self, and_true, true_and, if_true, if_false, isO_sA', isO_sB', isO_rA', hlen_sA, hlen_sB, hlen_rA, hR_sA, hR_sB, hR_rA, Typ_sA', Typ_sB', Typ_rA', O1, r1_0, r1_1, r1_2, r1_3, r1_5, r1_6, r1_7, O7, l7, O8, l8, t, ie, ci, hw, hv]
  by_cases c1 : w = 1
  · rw [if_pos c1, if_pos c1]
  · rw [if_neg c1, if_neg c1]
    by_cases c2 : w = 2
    · rw [if_pos c2, if_pos c2]
    · rw [if_neg c2, if_neg c2]
theorem x_endi {φ f p : Nat} {Φ : FM} {V S C PS PW PV : Nat → Int32} (K : Nat → Int32 → Nat → Int32 → HS → Option (Int64 × HS)) (a : Int32) {s : Nat} (hs : s < 6) {σ : HS} (h : CS σ φ f Φ V S C) (hp : PlI σ 1 6 71 36 p PS PW PV) : ∀ d k, k + d = p → ∀ nf, d < nf → lp_X5_ends_47 K nf 0 a φ (nI s) (plV PS PW PV V k s) (plS PS PW PV S k s) (nI k) σ = K 0 a φ (nI (s + 1)) (sA (sA σ 25 s (plV PS PW PV V p s - plS PS PW PV S p s)) 26 s (plV PS PW PV V p s + plS PS PW PV S p s)) := by
  have t := h.1
  obtain ⟨p8, hp1, hp2, hrow⟩ := hp
  intro d
  induction d with
  | zero =>
    intro k hd nf hnf
    obtain ⟨nf, rfl⟩ : ∃ k, nf = k + 1 := ⟨nf - 1, by omega⟩
    have : k = p := by omega
    subst this
    show lp_X5_ends_47_b K (lp_X5_ends_47 K nf) 0 a φ (nI s) _ _ (nI k) σ = _
    unfold lp_X5_ends_47_b
    rw [chk_p (o0 t), r0_0 t, bd_p, chk_p (o1 t), hp1, lt_p, if_pos (Int32.le_refl _), r0_4 t, bd_p, chk_p (o24 t), stand_ok t hs, bc_p, lt_p, nI_s]
  | succ d ih =>
    intro k hd nf hnf
    obtain ⟨nf, rfl⟩ : ∃ k, nf = k + 1 := ⟨nf - 1, by omega⟩
    obtain ⟨⟨a1, a2, a3⟩, -, -, hw⟩ := hrow k (by omega)
    have e := ih (k + 1) (by omega) nf (by omega)
    have le := nle (a := p) (b := k) (by omega) (by omega)
    have ie := inbE (i := k) (n := 8) (by omega) (by omega)
    have ci := cl1000 (i := k) (by omega)
    have sb := sb_ok t (k := k) (by omega) (plS PS PW PV S k s) a2 a3
    rw [show plV PS PW PV V (k + 1) s = if PS k = nI s ∧ PW k = 0 then PV k else plV PS PW PV V k s from rfl, show plS PS PW PV S (k + 1) s = if PS k = nI s then (if PW k = 1 then PV k else if PW k = 2 then plS PS PW PV S k s >>> (PV k &&& 31) else plS PS PW PV S k s) else plS PS PW PV S k s from rfl] at e
    rw [← e]
    show lp_X5_ends_47_b K (lp_X5_ends_47 K nf) 0 a φ (nI s) _ _ (nI k) σ = _
    unfold lp_X5_ends_47_b
    by_cases c : PS k = nI s
    · by_cases c0 : PW k = 0
      · rw [if_pos ⟨c, c0⟩, if_pos c]
        simp only [chk_p, lt_p, bd_p, bc_p, oc_n, oc_s, and_self, and_true, true_and, if_true, if_false, isO_sA', isO_sB', isO_rA', hlen_sA, hlen_sB, hlen_rA, hR_sA, hR_sB, hR_rA, Typ_sA', Typ_sB', Typ_rA', O0, r0_0, r0_1, r0_3, r0_4, r0_5, r0_6, r0_7, O1, r1_0, r1_1, r1_2, r1_3, r1_5, r1_6, r1_7, O6, l6, O7, l7, O8, l8, t, hp1, le, if_false, ie, ci, a1, a2, a3, c, c0, nI_s]
        rw [c0] at sb
        simp only [sb, bc_p, lt_p, nI_s]
      · rw [if_neg (fun z => c0 z.2), if_pos c]
        simp only [chk_p, lt_p, bd_p, bc_p, oc_n, oc_s, and_self, and_true, true_and, if_true, if_false, isO_sA', isO_sB', isO_rA', hlen_sA, hlen_sB, hlen_rA, hR_sA, hR_sB, hR_rA, Typ_sA', Typ_sB', Typ_rA', O0, r0_0, r0_1, r0_3, r0_4, r0_5, r0_6, r0_7, O1, r1_0, r1_1, r1_2, r1_3, r1_5, r1_6, r1_7, O6, l6, O7, l7, O8, l8, t, hp1, le, if_false, ie, ci, a1, a2, a3, c, c0, sb, nI_s]
    · rw [if_neg (fun z => c z.1), if_neg c]
      simp only [chk_p, lt_p, bd_p, bc_p, oc_n, oc_s, and_self, and_true, true_and, if_true, if_false, isO_sA', isO_sB', isO_rA', hlen_sA, hlen_sB, hlen_rA, hR_sA, hR_sB, hR_rA, Typ_sA', Typ_sB', Typ_rA', O0, r0_0, r0_1, r0_3, r0_4, r0_5, r0_6, r0_7, O1, r1_0, r1_1, r1_2, r1_3, r1_5, r1_6, r1_7, O6, l6, O7, l7, O8, l8, t, hp1, le, if_false, ie, ci, a1, c, nI_s]
theorem x_ends {φ f p : Nat} {Φ : FM} {V S C PS PW PV : Nat → Int32} (hw : WF Φ) (a : Int32) : ∀ d s (σ : HS), CS σ φ f Φ V S C → PlI σ 1 6 71 36 p PS PW PV → (∀ j, j < s → hA σ 25 j = plV PS PW PV V p j - plS PS PW PV S p j ∧ hA σ 26 j = plV PS PW PV V p j + plS PS PW PV S p j) → s + d = 6 → ∀ nf, d < nf → ∃ σ', lp_X5_ends_16 nf 0 a φ (nI s) σ = some (oW (WD (RT Φ (LO (plV PS PW PV V p) (plS PS PW PV S p)) (HI (plV PS PW PV V p) (plS PS PW PV S p)))), σ') ∧ Kp σ σ' := by
  intro d
  induction d with
  | zero =>
    intro s σ h hp hb hd nf hnf
    obtain ⟨nf, rfl⟩ : ∃ k, nf = k + 1 := ⟨nf - 1, by omega⟩
    have : s = 6 := by omega
    subst this
    have bx : Bx σ (LO (plV PS PW PV V p) (plS PS PW PV S p)) (HI (plV PS PW PV V p) (plS PS PW PV S p)) := by
      have rv : ∀ s, s < 6 → rgI (plV PS PW PV V p s) (-99) 99 ∧ rgI (plS PS PW PV S p s) 0 20 := fun s hs => by
        obtain ⟨-, -, -, -, -, -, v1, v2, -⟩ := cs_val h hs
        exact ⟨plV_in (fun k hk => (hp.2.2.2 k hk).2.2.2) v1 p (Nat.le_refl _), plS_in (fun k hk => (hp.2.2.2 k hk).2.2.2) v2 p (Nat.le_refl _)⟩
      refine ⟨fun s => ?_, fun s hs => ?_⟩
      · unfold LO HI
        by_cases hs : s < 6
        · have := rv s hs
          unfold rgI at this
          rw [if_pos hs, if_pos hs]; omega
        · rw [if_neg hs, if_neg hs]; exact Int.le_refl _
      · obtain ⟨e1, e2⟩ := hb s hs
        have := rv s hs
        unfold rgI at this
        unfold LO HI
        rw [e1, e2, if_pos hs, if_pos hs, i_sub (by omega) (by omega) (by omega) (by omega), i_add (by omega) (by omega) (by omega) (by omega)]
        exact ⟨rfl, rfl⟩
    obtain ⟨σ2, g1, g2, g3, g4, g5, g6, g7⟩ := c_carry hw h bx
    have t := h.1
    have t2 := g3.1
    have tl := told_ok t2 g5 (e := 2) (by decide)
    refine ⟨σ2, ?_, g2⟩
    show lp_X5_ends_16_b (lp_X5_ends_16 nf) 0 a φ (nI 6) σ = _
    unfold lp_X5_ends_16_b
    rw [if_pos (by decide), chk_p (o0 t), r0_4 t, bd_p, chk_p (o24 t), g1, bc_p, chk_p (o0 t2), r0_4 t2, bd_p, chk_p (o24 t2), show f_X4_told 24 2 σ2 = _ from tl, bc_p]
    generalize RT Φ (LO (plV PS PW PV V p) (plS PS PW PV S p)) (HI (plV PS PW PV V p) (plS PS PW PV S p)) = x
    cases x with
    | none => rfl
    | some q => rfl
  | succ d ih =>
    intro s σ h hp hb hd nf hnf
    obtain ⟨nf, rfl⟩ : ∃ k, nf = k + 1 := ⟨nf - 1, by omega⟩
    have hs : s < 6 := by omega
    have t := h.1
    have fr : Fr [25, 26] σ (sA (sA σ 25 s (plV PS PW PV V p s - plS PS PW PV S p s)) 26 s (plV PS PW PV V p s + plS PS PW PV S p s)) := (Fr_sA (by simp)).seq (Fr_sA (by simp))
    have k1 : Kp σ (sA (sA σ 25 s (plV PS PW PV V p s - plS PS PW PV S p s)) 26 s (plV PS PW PV V p s + plS PS PW PV S p s)) := fr.kp (by decide)
    obtain ⟨σ', e1, e2⟩ := ih (s + 1) _ (h.kp k1) (Kq.pl k1 t (by decide) (by decide) (by decide) (by decide) (Kq.A k1 (Nat.lt_of_lt_of_le (by decide) t.1) (by decide) 8) (by decide) (by decide) (by decide) (by decide) hp) (fun j hj => by
      by_cases c : j = s
      · subst c; simp (decide := true) only [hA_sA, and_self, if_true, false_and, if_false]
      · simp (decide := true) only [hA_sA, c, and_false, if_false]; exact hb j (by omega)) (by omega) nf (by omega)
    refine ⟨σ', ?_, k1.seq e2⟩
    have le : (6 : Int32) ≤ nI s ↔ False := by rw [show (6 : Int32) = nI 6 from rfl, nle (a := 6) (b := s) (by omega) (by omega)]
    have le := eq_false (fun z => le.mp z)
    have ie := inbE (i := s) (n := 6) (by omega) (by omega)
    have ci := cl1000 (i := s) (by omega)
    obtain ⟨v1, v2, -⟩ := cs_val h hs
    have xi := x_endi (lp_X5_ends_16 nf) a hs h hp p 0 (by omega) 1000 (by have := hp.1; omega)
    rw [show plV PS PW PV V 0 s = V s from rfl, show plS PS PW PV S 0 s = S s from rfl, show nI 0 = 0 from rfl] at xi
    rw [← e1, ← xi]
    show lp_X5_ends_16_b (lp_X5_ends_16 nf) 0 a φ (nI s) σ = _
    unfold lp_X5_ends_16_b
    simp only [le, if_false, chk_p, lt_p, bd_p, bc_p, oc_n, oc_s, and_self, and_true, true_and, if_true, if_false, isO_sA', isO_sB', isO_rA', hlen_sA, hlen_sB, hlen_rA, hR_sA, hR_sB, hR_rA, Typ_sA', Typ_sB', Typ_rA', O0, r0_0, r0_1, r0_3, r0_4, r0_5, r0_6, r0_7, O1, r1_0, r1_1, r1_2, r1_3, r1_5, r1_6, r1_7, O2, l2, O3, l3, t, ie, ci, v1, v2]
/-- the reference's sources, in the middle of its going through the plan -/
def EndM (σ τ : HS) (V S C : Nat → Int32) : Prop := Fr [49, 73] σ τ ∧ (∀ s, s < 6 → hA τ 49 (3 * s) = V s ∧ hA τ 49 (3 * s + 1) = S s ∧ hA τ 49 (3 * s + 2) = C s) ∧ (∀ k, 18 ≤ k → hA τ 49 k = hA σ 49 k) ∧ (∀ k, k < 18 → hA τ 73 k = hA σ 49 k) ∧ ∀ k, hB τ 49 k = hB σ 49 k
theorem EndM.put {σ τ : HS} {V S C V' S' C' : Nat → Int32} (h : EndM σ τ V S C) {s j : Nat} (hs : s < 6) (hj : j < 3) {v : Int32} (e : ∀ i, i < 6 → V' i = (if i = s ∧ j = 0 then v else V i) ∧ S' i = (if i = s ∧ j = 1 then v else S i) ∧ C' i = (if i = s ∧ j = 2 then v else C i)) : EndM σ (sA τ 49 (3 * s + j) v) V' S' C' := by
  obtain ⟨h1, h2, h3, h4, h5⟩ := h
  refine ⟨h1.seq (Fr_sA (by simp)), fun i hi => ?_, fun k hk => ?_, fun k hk => ?_, h5⟩
  · obtain ⟨a, b, c⟩ := h2 i hi
    obtain ⟨d1, d2, d3⟩ := e i hi
    rw [d1, d2, d3, hA_sA, hA_sA, hA_sA]
    refine ⟨?_, ?_, ?_⟩
    · by_cases z : i = s ∧ j = 0
      · rw [if_pos z, if_pos (by omega)]
      · rw [if_neg z, if_neg (by omega)]; exact a
    · by_cases z : i = s ∧ j = 1
      · rw [if_pos z, if_pos (by omega)]
      · rw [if_neg z, if_neg (by omega)]; exact b
    · by_cases z : i = s ∧ j = 2
      · rw [if_pos z, if_pos (by omega)]
      · rw [if_neg z, if_neg (by omega)]; exact c
  · rw [hA_sA, if_neg (by omega)]; exact h3 k hk
  · rw [hA_sA, if_neg (by omega)]; exact h4 k hk
theorem m_ends {φ f p : Nat} {Φ : FM} {V S C PS PW PV : Nat → Int32} (hf : f < 7) (hw : WF Φ) {σ : HS} (h : CS σ φ f Φ V S C) (hp : PlI σ 1 6 71 36 p PS PW PV) : ∀ d k (τ : HS), EndM σ τ (plV PS PW PV V k) (plS PS PW PV S k) C → k + d = p → ∀ nf, d < nf → ∃ σ', lp_X6_ends_29 nf 48 (nI f) (nI k) τ = some (oW (WD (RT Φ (LO (plV PS PW PV V p) (plS PS PW PV S p)) (HI (plV PS PW PV V p) (plS PS PW PV S p)))), σ') ∧ Kp σ σ' := by
  have t := h.1
  obtain ⟨p8, hp1, hp2, hrow⟩ := hp
  intro d
  induction d with
  | zero =>
    intro k τ hE hd nf hnf
    obtain ⟨nf, rfl⟩ : ∃ k, nf = k + 1 := ⟨nf - 1, by omega⟩
    have : k = p := by omega
    subst this
    obtain ⟨h1, h2, h3, h4, h5⟩ := hE
    have tt := h1.typ t
    have mf : MF τ f Φ := by
      refine ⟨(h1.A (by decide) _).trans h.2.2.1.1, fun i hi => ?_⟩
      obtain ⟨a, b, c, d⟩ := h.2.2.1.2 i hi
      exact ⟨(h1.A (by decide) _).trans a, (h1.A (by decide) _).trans b, (h1.A (by decide) _).trans c, (h1.A (by decide) _).trans d⟩
    obtain ⟨σ1, b1, b2, b3⟩ := laysBox_ok tt
    have t1 := b2.typ tt
    have bx : BxM σ1 (LO (plV PS PW PV V k) (plS PS PW PV S k)) (HI (plV PS PW PV V k) (plS PS PW PV S k)) := by
      have rv : ∀ s, s < 6 → rgI (plV PS PW PV V k s) (-99) 99 ∧ rgI (plS PS PW PV S k s) 0 20 := fun s hs => by
        obtain ⟨-, -, -, -, -, -, v1, v2, -⟩ := cs_val h hs
        exact ⟨plV_in (fun k hk => (hrow k hk).2.2.2) v1 k (Nat.le_refl _), plS_in (fun k hk => (hrow k hk).2.2.2) v2 k (Nat.le_refl _)⟩
      refine ⟨fun s => ?_, fun s hs => ?_⟩
      · unfold LO HI
        by_cases hs : s < 6
        · have := rv s hs
          unfold rgI at this
          rw [if_pos hs, if_pos hs]; omega
        · rw [if_neg hs, if_neg hs]; exact Int.le_refl _
      · obtain ⟨e1, e2⟩ := b3 s hs
        obtain ⟨g1, g2, -⟩ := h2 s hs
        have := rv s hs
        unfold rgI at this
        unfold LO HI
        rw [e1, e2, g1, g2, if_pos hs, if_pos hs, i_sub (by omega) (by omega) (by omega) (by omega), i_add (by omega) (by omega) (by omega) (by omega)]
        exact ⟨rfl, rfl⟩
    obtain ⟨σ2, w1, w2⟩ := widthBy_ok hf hw t1 (mf.mf b2 (by decide) (by decide) (by decide) (by decide) (by decide)) bx
    have t2 := w2.typ t1
    have wn : f_X6_widthNow 48 (nI f) τ = some (oW (WD (RT Φ (LO (plV PS PW PV V k) (plS PS PW PV S k)) (HI (plV PS PW PV V k) (plS PS PW PV S k)))), σ2) := by
      unfold f_X6_widthNow
      rw [chk_p (o48 tt), b1, bc_p, chk_p (o48 t1), w1, bc_p]
    have mm : Mf [62, 63, 64, 65, 66] τ σ2 := (b2.mono (by simp)).seq (w2.mono (by simp))
    have fa : Fr [49, 73, 48, 62, 63, 64, 65, 66] σ (cpy σ2 73 49 18) := ((h1.mono (by simp)).seq (mm.1.mono (by simp))).seq (Fr_rA (by simp))
    refine ⟨cpy σ2 73 49 18, ?_, ⟨Nat.le_of_eq fa.1.symm, fun j _ => ⟨fa.ty j, fa.len j⟩, fun j _ => fa.Rr j, fun j _ hj => ?_, fun q hq => ?_, fun j hj => scj_76 hj, fun j _ hj => by cases hj⟩⟩
    · have e36 : hA τ 48 36 = nI k := (h1.A (by decide) _).trans hp2
      show lp_X6_ends_29_b (lp_X6_ends_29 nf) 48 (nI f) (nI k) τ = _
      unfold lp_X6_ends_29_b
      rw [chk_p (o48 tt), e36, lt_p, if_pos (Int32.le_refl _), wn, bc_p, chk_p (o48 t2), r48_39 t2, bd_p, r48_0 t2, bd_p]
      rw [chk_p ⟨⟨o73 t2, o49 t2⟩, by decide, by rw [l73 t2, l49 t2]; decide⟩, lt_p]
      rfl
    · by_cases c : j = 49
      · subst c
        refine ⟨funext fun q => ?_, funext fun q => ?_⟩
        · rw [hA_cpy, if_pos rfl]
          by_cases z : q < 18
          · rw [if_pos z, mm.A (by decide) q]; exact h4 q z
          · rw [if_neg z, mm.A (by decide) q]; exact h3 q (by omega)
        · rw [hB_cpy, mm.B (by decide) q]; exact h5 q
      · exact fa.2.2.2.2 j (fun z => by
          simp only [List.mem_cons, List.mem_nil_iff, or_false] at z
          rcases z with z | z | z | z | z | z | z | z
          · exact c z
          all_goals subst z; exact absurd hj (by decide))
    · rw [hA_cpy, if_neg (by decide), mm.2.1 q (by
        simp only [Bool.and_eq_false_iff, decide_eq_false_iff_not] at hq; omega)]
      exact h1.A (by decide) q
  | succ d ih =>
    intro k τ hE hd nf hnf
    obtain ⟨nf, rfl⟩ : ∃ k, nf = k + 1 := ⟨nf - 1, by omega⟩
    obtain ⟨-, ⟨b1, b2, b3⟩, ⟨r1, r2⟩, hwv⟩ := hrow k (by omega)
    obtain ⟨s, hs, es⟩ : ∃ s : Nat, s < 6 ∧ PS k = nI s := by
      rcases argC (PS k) 6 (by decide) with ⟨s, hs, e⟩ | z
      · exact ⟨s, hs, e⟩
      · omega
    have h1 := hE.1
    have h2 := hE.2.1
    have tt := h1.typ t
    have e36 : hA τ 48 36 = nI p := (h1.A (by decide) _).trans hp2
    have le := nle (a := p) (b := k) (by omega) (by omega)
    have q1 : hA τ 71 (3 * k) = nI s := (h1.A (by decide) _).trans (b1.trans es)
    have q2 : hA τ 71 (3 * k + 1) = PW k := (h1.A (by decide) _).trans b2
    have q3 : hA τ 71 (3 * k + 2) = PV k := (h1.A (by decide) _).trans b3
    have ie0 := inbE (i := 3 * k) (n := 24) (by omega) (by omega)
    have ci0 := cl1000 (i := 3 * k) (by omega)
    have ie1 := inbE (i := 3 * k + 1) (n := 24) (by omega) (by omega)
    have ci1 := cl1000 (i := 3 * k + 1) (by omega)
    have ie2 := inbE (i := 3 * k + 2) (n := 24) (by omega) (by omega)
    have ci2 := cl1000 (i := 3 * k + 2) (by omega)
    have p2 : ∀ q : Nat, nI q + (2 : Int32) = nI (q + 2) := fun q => nI_plus q 2
    have eqp : ∀ i, i = s → PS k = nI i := fun i z => by rw [z]; exact es
    have eqn : ∀ i, i < 6 → ¬ i = s → ¬ PS k = nI i := fun i hi z y => z ((nE (a := i) (b := s) (by omega) (by omega)).mp (y.symm.trans es))
    rcases hwv with ⟨w, hv⟩ | ⟨w, hv⟩ | ⟨w, hv⟩
    · have hE' : EndM σ (sA τ 49 (3 * s + 0) (PV k)) (plV PS PW PV V (k + 1)) (plS PS PW PV S (k + 1)) C := hE.put hs (by decide) (fun i hi => by
        refine ⟨?_, ?_, by rw [if_neg (by omega)]⟩
        · show (if PS k = nI i ∧ PW k = 0 then PV k else plV PS PW PV V k i) = _
          by_cases z : i = s
          · rw [if_pos ⟨eqp i z, w⟩, if_pos ⟨z, rfl⟩]
          · rw [if_neg (fun y => eqn i hi z y.1), if_neg (fun y => z y.1)]
        · show (if PS k = nI i then (if PW k = 1 then PV k else if PW k = 2 then plS PS PW PV S k i >>> (PV k &&& 31) else plS PS PW PV S k i) else plS PS PW PV S k i) = _
          rw [if_neg (show ¬ (i = s ∧ 0 = 1) from fun y => absurd y.2 (by decide))]
          by_cases z : PS k = nI i
          · rw [if_pos z, if_neg (by rw [w]; decide), if_neg (by rw [w]; decide)]
          · rw [if_neg z])
      obtain ⟨σ', e1, e2⟩ := ih (k + 1) _ hE' (by omega) nf (by omega)
      refine ⟨σ', ?_, e2⟩
      have pe := inbE (i := 3 * s + 0) (n := 18) (by omega) (by omega)
      have pc := cl1000 (i := 3 * s + 0) (by omega)
      rw [← e1]
      show lp_X6_ends_29_b (lp_X6_ends_29 nf) 48 (nI f) (nI k) τ = _
      unfold lp_X6_ends_29_b
      simp (decide := true) only [chk_p, lt_p, bd_p, bc_p, oc_n, oc_s, and_self, and_true, true_and, if_true, if_false, isO_sA', isO_sB', isO_rA', hlen_sA, hlen_sB, hlen_rA, hR_sA, hR_sB, hR_rA, Typ_sA', Typ_sB', Typ_rA', O48, r48_0, r48_1, r48_2, r48_3, r48_4, r48_5, r48_6, r48_8, r48_9, r48_10, r48_11, r48_12, r48_15, r48_21, r48_22, r48_23, r48_24, r48_25, r48_28, r48_30, r48_31, r48_32, r48_35, r48_37, r48_39, r48_40, r48_41, O49, l49, O71, l71, tt, e36, le, if_false, nI_mul3, ie0, ci0, q1, p2, ie2, ci2, q3, nI_s, ie1, ci1, q2, w, show (nI (3 * s) + 0 : Int32) = nI (3 * s + 0) from nI_plus (3 * s) 0, pe, pc]
    · have hE' : EndM σ (sA τ 49 (3 * s + 1) (PV k)) (plV PS PW PV V (k + 1)) (plS PS PW PV S (k + 1)) C := hE.put hs (by decide) (fun i hi => by
        refine ⟨?_, ?_, by rw [if_neg (by omega)]⟩
        · show (if PS k = nI i ∧ PW k = 0 then PV k else plV PS PW PV V k i) = _
          rw [w, if_neg (fun y => absurd y.2 (by decide)), if_neg (by omega)]
        · show (if PS k = nI i then (if PW k = 1 then PV k else if PW k = 2 then plS PS PW PV S k i >>> (PV k &&& 31) else plS PS PW PV S k i) else plS PS PW PV S k i) = _
          by_cases z : i = s
          · rw [if_pos (eqp i z), if_pos w, if_pos ⟨z, rfl⟩]
          · rw [if_neg (eqn i hi z), if_neg (fun y => z y.1)])
      obtain ⟨σ', e1, e2⟩ := ih (k + 1) _ hE' (by omega) nf (by omega)
      refine ⟨σ', ?_, e2⟩
      have pe := inbE (i := 3 * s + 1) (n := 18) (by omega) (by omega)
      have pc := cl1000 (i := 3 * s + 1) (by omega)
      rw [← e1]
      show lp_X6_ends_29_b (lp_X6_ends_29 nf) 48 (nI f) (nI k) τ = _
      unfold lp_X6_ends_29_b
      simp (decide := true) only [chk_p, lt_p, bd_p, bc_p, oc_n, oc_s, and_self, and_true, true_and, if_true, if_false, isO_sA', isO_sB', isO_rA', hlen_sA, hlen_sB, hlen_rA, hR_sA, hR_sB, hR_rA, Typ_sA', Typ_sB', Typ_rA', O48, r48_0, r48_1, r48_2, r48_3, r48_4, r48_5, r48_6, r48_8, r48_9, r48_10, r48_11, r48_12, r48_15, r48_21, r48_22, r48_23, r48_24, r48_25, r48_28, r48_30, r48_31, r48_32, r48_35, r48_37, r48_39, r48_40, r48_41, O49, l49, O71, l71, tt, e36, le, if_false, nI_mul3, ie0, ci0, q1, p2, ie2, ci2, q3, nI_s, ie1, ci1, q2, w, pe, pc]
    · have hE' : EndM σ (sA τ 49 (3 * s + 1) (hA τ 49 (3 * s + 1) >>> (PV k &&& 31))) (plV PS PW PV V (k + 1)) (plS PS PW PV S (k + 1)) C := hE.put hs (by decide) (fun i hi => by
        refine ⟨?_, ?_, by rw [if_neg (by omega)]⟩
        · show (if PS k = nI i ∧ PW k = 0 then PV k else plV PS PW PV V k i) = _
          rw [w, if_neg (fun y => absurd y.2 (by decide)), if_neg (by omega)]
        · show (if PS k = nI i then (if PW k = 1 then PV k else if PW k = 2 then plS PS PW PV S k i >>> (PV k &&& 31) else plS PS PW PV S k i) else plS PS PW PV S k i) = _
          by_cases z : i = s
          · rw [if_pos (eqp i z), if_neg (by rw [w]; decide), if_pos w, if_pos ⟨z, rfl⟩, z, (h2 s hs).2.1]
          · rw [if_neg (eqn i hi z), if_neg (fun y => z y.1)])
      obtain ⟨σ', e1, e2⟩ := ih (k + 1) _ hE' (by omega) nf (by omega)
      refine ⟨σ', ?_, e2⟩
      have pe := inbE (i := 3 * s + 1) (n := 18) (by omega) (by omega)
      have pc := cl1000 (i := 3 * s + 1) (by omega)
      rw [← e1]
      show lp_X6_ends_29_b (lp_X6_ends_29 nf) 48 (nI f) (nI k) τ = _
      unfold lp_X6_ends_29_b
      simp (decide := true) only [chk_p, lt_p, bd_p, bc_p, oc_n, oc_s, and_self, and_true, true_and, if_true, if_false, isO_sA', isO_sB', isO_rA', hlen_sA, hlen_sB, hlen_rA, hR_sA, hR_sB, hR_rA, Typ_sA', Typ_sB', Typ_rA', O48, r48_0, r48_1, r48_2, r48_3, r48_4, r48_5, r48_6, r48_8, r48_9, r48_10, r48_11, r48_12, r48_15, r48_21, r48_22, r48_23, r48_24, r48_25, r48_28, r48_30, r48_31, r48_32, r48_35, r48_37, r48_39, r48_40, r48_41, O49, l49, O71, l71, tt, e36, le, if_false, nI_mul3, ie0, ci0, q1, p2, ie2, ci2, q3, nI_s, ie1, ci1, q2, w, pe, pc]
theorem op_ends (a : Int32) : OpOK (f_X5_ends 0 a) (f_X6_ends 48 a) := by
  intro σ V S C n FS I
  have t := I.1
  obtain ⟨p, PS, PW, PV, hp⟩ := I.2.2.2.2.1
  rcases start I a with ⟨k, φ, hk, rfl, ef, hg, hc, hxi, em⟩ | ⟨ef, em⟩
  · obtain ⟨σ1, y1, y2⟩ := x_ends hg.1 (nI k) 6 0 σ hc hp (fun j hj => by omega) (by omega) 1000 (by omega)
    have c1 := hc.kp y2
    have t1 := c1.1
    have hp1 : PlI σ1 1 6 71 36 p PS PW PV := Kq.pl y2 t (by decide) (by decide) (by decide) (by decide) (Kq.A y2 (Nat.lt_of_lt_of_le (by decide) t.1) (by decide) 8) (by decide) (by decide) (by decide) (by decide) hp
    have E0 : EndM σ1 (cpy σ1 49 73 18) (plV PS PW PV V 0) (plS PS PW PV S 0) C := by
      refine ⟨Fr_rA (by simp), fun s hs => ?_, fun k hk => ?_, fun k hk => ?_, fun k => rfl⟩
      · obtain ⟨-, -, -, g1, g2, g3, -⟩ := cs_val c1 hs
        simp (decide := true) only [hA_cpy, if_false]
        exact ⟨g1, g2, g3⟩
      · simp (decide := true) only [hA_cpy, if_false]
      · simp (decide := true) only [hA_cpy, hk, if_true]
    obtain ⟨σ2, u1, u2⟩ := m_ends hk hg.1 c1 hp1 p 0 _ E0 (by omega) 1000 (by have := hp.1; omega)
    refine opQ I ⟨oW (WD (RT (FS k) (LO (plV PS PW PV V p) (plS PS PW PV S p)) (HI (plV PS PW PV V p) (plS PS PW PV S p)))), σ1, σ2, ?_, y2, ?_, u2⟩
    · unfold f_X5_ends
      rw [chk_p (o0 t), ef, bc_p, oc_s, lt_p]
      exact y1
    · unfold f_X6_ends
      rw [chk_p (o48 t1), em σ1 t1 y2.k7, bc_p, if_neg (by decide), chk_p (o48 t1), r48_0 t1, bd_p, r48_39 t1, bd_p, chk_p ⟨⟨o49 t1, o73 t1⟩, by decide, by rw [l73 t1, l49 t1]; decide⟩, lt_p, lt_p]
      exact u1
  · refine opN I (-9223372036854775808) ?_ ?_
    · unfold f_X5_ends
      rw [chk_p (o0 t), ef, bc_p, oc_n]
    · unfold f_X6_ends
      rw [chk_p (o48 t), em, bc_p, if_pos rfl]
