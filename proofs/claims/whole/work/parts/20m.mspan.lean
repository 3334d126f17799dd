/-! the reference's spans -/
def VB (σ : HS) (P Q a : Nat) (p : Int × Int) : Prop := (hB σ P a).toInt = p.1 ∧ (hB σ Q a).toInt = p.2 ∧ p.1 ≤ p.2
def RJ (σ σ' : HS) (P Q i : Nat) (x : Option (Int × Int)) : Prop := match x with
  | none => hA σ' 48 20 = 1
  | some p => hA σ' 48 20 = hA σ 48 20 ∧ VB σ' P Q i p
theorem fl_t {c : Prop} [Decidable c] {v : Int32} (h : c) : fl c v = v := if_pos h
theorem fl_f {c : Prop} [Decidable c] {v : Int32} (h : ¬ c) : fl c v = 1 := if_neg h
theorem z64 : (0 : Int64).toInt = 0 := rfl
theorem gMM {a b c d : Int64} {p r : Int × Int} (h : fit4 a b c d) (h1 : a.toInt = p.1) (h2 : b.toInt = p.2) (h3 : c.toInt = r.1) (h4 : d.toInt = r.2) : (gMin a b c d).toInt = mn4 p.1 p.2 r.1 r.2 ∧ (gMax a b c d).toInt = mx4 p.1 p.2 r.1 r.2 := by
  obtain ⟨⟨⟨g1, g2⟩, g3⟩, g4⟩ := h
  unfold gMin gMax mn4 mx4
  rw [lmn_i, lmn_i, lmn_i, lmx_i, lmx_i, lmx_i, l_mul g1, l_mul g2, l_mul g3, l_mul g4, h1, h2, h3, h4]
  exact ⟨rfl, rfl⟩
/-- two places of longs written, the flag set to v -/
theorem jfin (P Q : Nat) (h48 : P ≠ 48) (h48' : Q ≠ 48) (hpq : P ≠ Q) (σ : HS) (i : Nat) (v : Int32) (lo hi : Int64) :
    Mf [P, Q] σ (sB (sB (sA σ 48 20 v) P i lo) Q i hi) ∧ hA (sB (sB (sA σ 48 20 v) P i lo) Q i hi) 48 20 = v ∧ (∀ j, j ≠ i → hB (sB (sB (sA σ 48 20 v) P i lo) Q i hi) P j = hB σ P j ∧ hB (sB (sB (sA σ 48 20 v) P i lo) Q i hi) Q j = hB σ Q j) ∧ hB (sB (sB (sA σ 48 20 v) P i lo) Q i hi) P i = lo ∧ hB (sB (sB (sA σ 48 20 v) P i lo) Q i hi) Q i = hi := by
  refine ⟨((Mf_s (by decide) (by decide)).seq (Mf_sB (by simp) h48)).seq (Mf_sB (by simp) h48'), ?_, fun j hj => ⟨?_, ?_⟩, ?_, ?_⟩
  · rw [hA_sB, hA_sB, hA_f]
  · simp only [hB_sB, hB_sA, hj, and_false, if_false]
  · simp only [hB_sB, hB_sA, hj, and_false, if_false]
  · simp only [hB_sB, hB_sA, hpq, and_self, false_and, if_false, if_true]
  · simp only [hB_sB, hB_sA, and_self, if_true]
theorem jfin2 (P Q : Nat) (h48 : P ≠ 48) (h48' : Q ≠ 48) (hpq : P ≠ Q) (σ : HS) (i : Nat) (v : Int32) (l g lo hi : Int64) :
    Mf [P, Q] σ (sB (sB (sB (sB (sA σ 48 20 v) 48 26 l) 48 27 g) P i lo) Q i hi) ∧ hA (sB (sB (sB (sB (sA σ 48 20 v) 48 26 l) 48 27 g) P i lo) Q i hi) 48 20 = v ∧ (∀ j, j ≠ i → hB (sB (sB (sB (sB (sA σ 48 20 v) 48 26 l) 48 27 g) P i lo) Q i hi) P j = hB σ P j ∧ hB (sB (sB (sB (sB (sA σ 48 20 v) 48 26 l) 48 27 g) P i lo) Q i hi) Q j = hB σ Q j) ∧ hB (sB (sB (sB (sB (sA σ 48 20 v) 48 26 l) 48 27 g) P i lo) Q i hi) P i = lo ∧ hB (sB (sB (sB (sB (sA σ 48 20 v) 48 26 l) 48 27 g) P i lo) Q i hi) Q i = hi := by
  refine ⟨((((Mf_s (by decide) (by decide)).seq (Mf_l (by decide))).seq (Mf_l (by decide))).seq (Mf_sB (by simp) h48)).seq (Mf_sB (by simp) h48'), ?_, fun j hj => ⟨?_, ?_⟩, ?_, ?_⟩
  · rw [hA_sB, hA_sB, hA_sB, hA_sB, hA_f]
  · simp only [hB_sB, hB_sA, hj, h48, and_false, false_and, if_false]
  · simp only [hB_sB, hB_sA, hj, h48', and_false, false_and, if_false]
  · simp only [hB_sB, hB_sA, hpq, and_self, false_and, if_false, if_true]
  · simp only [hB_sB, hB_sA, and_self, if_true]
theorem val_2 {lo hi : Int64} {p : Int × Int} (h1 : lo.toInt = p.1) (h2 : hi.toInt = p.2) (h3 : p.1 ≤ p.2) {σ σ' : HS} {P Q i : Nat} {v : Int32} (e1 : hA σ' 48 20 = fl (inR ((0 : Int64).toInt - hi.toInt) ∧ inR ((0 : Int64).toInt - lo.toInt)) v) (e2 : hB σ' P i = 0 - hi) (e3 : hB σ' Q i = 0 - lo) (ev : hA σ 48 20 = v) : RJ σ σ' P Q i (sp1 (some p)) := by
  show RJ σ σ' P Q i (rg (-p.2) (-p.1))
  rw [z64, h1, h2] at e1
  by_cases g : inR (0 - p.2) ∧ inR (0 - p.1)
  · rw [rg_of (by omega) (by omega)]
    rw [fl_t g] at e1
    refine ⟨by rw [e1, ev], ?_, ?_, by show -p.2 ≤ -p.1; omega⟩
    · rw [e2, l_sub (by rw [z64, h2]; exact g.1), z64, h2]; show 0 - p.2 = -p.2; omega
    · rw [e3, l_sub (by rw [z64, h1]; exact g.2), z64, h1]; show 0 - p.1 = -p.1; omega
  · rw [fl_f g] at e1
    rw [show rg (-p.2) (-p.1) = none from if_neg (fun z => g (by omega))]
    exact e1
theorem val_3 {al ah bl bh : Int64} {p r : Int × Int} (h1 : al.toInt = p.1) (h2 : ah.toInt = p.2) (h3 : p.1 ≤ p.2) (h1' : bl.toInt = r.1) (h2' : bh.toInt = r.2) (h3' : r.1 ≤ r.2) {σ σ' : HS} {P Q i : Nat} {v : Int32} (e1 : hA σ' 48 20 = fl (inR (al.toInt + bl.toInt) ∧ inR (ah.toInt + bh.toInt)) v) (e2 : hB σ' P i = al + bl) (e3 : hB σ' Q i = ah + bh) (ev : hA σ 48 20 = v) : RJ σ σ' P Q i (sp2 3 (some p) (some r)) := by
  show RJ σ σ' P Q i (rg (p.1 + r.1) (p.2 + r.2))
  rw [h1, h2, h1', h2'] at e1
  by_cases g : inR (p.1 + r.1) ∧ inR (p.2 + r.2)
  · rw [rg_of g.1 g.2]
    rw [fl_t g] at e1
    refine ⟨by rw [e1, ev], ?_, ?_, by show p.1 + r.1 ≤ p.2 + r.2; omega⟩
    · rw [e2, l_add (by rw [h1, h1']; exact g.1), h1, h1']
    · rw [e3, l_add (by rw [h2, h2']; exact g.2), h2, h2']
  · rw [fl_f g] at e1
    rw [show rg (p.1 + r.1) (p.2 + r.2) = none from if_neg g]
    exact e1
theorem val_4 {al ah bl bh : Int64} {p r : Int × Int} (h1 : al.toInt = p.1) (h2 : ah.toInt = p.2) (h3 : p.1 ≤ p.2) (h1' : bl.toInt = r.1) (h2' : bh.toInt = r.2) (h3' : r.1 ≤ r.2) {σ σ' : HS} {P Q i : Nat} {v : Int32} (e1 : hA σ' 48 20 = fl (inR (al.toInt - bh.toInt) ∧ inR (ah.toInt - bl.toInt)) v) (e2 : hB σ' P i = al - bh) (e3 : hB σ' Q i = ah - bl) (ev : hA σ 48 20 = v) : RJ σ σ' P Q i (sp2 4 (some p) (some r)) := by
  show RJ σ σ' P Q i (rg (p.1 - r.2) (p.2 - r.1))
  rw [h1, h2, h1', h2'] at e1
  by_cases g : inR (p.1 - r.2) ∧ inR (p.2 - r.1)
  · rw [rg_of g.1 g.2]
    rw [fl_t g] at e1
    refine ⟨by rw [e1, ev], ?_, ?_, by show p.1 - r.2 ≤ p.2 - r.1; omega⟩
    · rw [e2, l_sub (by rw [h1, h2']; exact g.1), h1, h2']
    · rw [e3, l_sub (by rw [h2, h1']; exact g.2), h2, h1']
  · rw [fl_f g] at e1
    rw [show rg (p.1 - r.2) (p.2 - r.1) = none from if_neg g]
    exact e1
theorem joins_ok {σ : HS} (h : Typ σ) (hb : bit (hA σ 48 20)) {k i a b : Nat} (hk : 2 ≤ k) (hk5 : k ≤ 5) (hi : i < 60) (ha : a < i) (hb' : 3 ≤ k → b < i) :
    ∃ σ', f_X6_joins 48 (nI k) (nI i) (nI a) (nI b) σ = some ((), σ') ∧ Mf [64, 65] σ σ' ∧ bit (hA σ' 48 20) ∧ (∀ j, j ≠ i → hB σ' 64 j = hB σ 64 j ∧ hB σ' 65 j = hB σ 65 j) ∧ ∀ p, VB σ 64 65 a p → ∀ r, (3 ≤ k → VB σ 64 65 b r) → RJ σ σ' 64 65 i (if k = 2 then sp1 (some p) else sp2 k (some p) (some r)) := by
  have hk' : k = 2 ∨ k = 3 ∨ k = 4 ∨ k = 5 := by omega
  rcases hk' with k2 | k2 | k2 | k2
  · subst k2
    obtain ⟨j1, j2, j3, j4, j5⟩ := jfin 64 65 (by decide) (by decide) (by decide) σ i (fl (inR ((0 : Int64).toInt - (hB σ 65 a).toInt) ∧ inR ((0 : Int64).toInt - (hB σ 64 a).toInt)) (hA σ 48 20)) (0 - hB σ 65 a) (0 - hB σ 64 a)
    refine ⟨_, mj_2 h hb (nI b) hi ha, j1, by rw [j2]; exact fl_bit hb, j3, fun p hp r hr => ?_⟩
    rw [if_pos rfl]
    exact val_2 hp.1 hp.2.1 hp.2.2 j2 j4 j5 rfl
  · subst k2
    obtain ⟨j1, j2, j3, j4, j5⟩ := jfin 64 65 (by decide) (by decide) (by decide) σ i (fl (inR ((hB σ 64 a).toInt + (hB σ 64 b).toInt) ∧ inR ((hB σ 65 a).toInt + (hB σ 65 b).toInt)) (hA σ 48 20)) (hB σ 64 a + hB σ 64 b) (hB σ 65 a + hB σ 65 b)
    refine ⟨_, mj_3 h hb hi ha (hb' (by omega)), j1, by rw [j2]; exact fl_bit hb, j3, fun p hp r hr => ?_⟩
    rw [if_neg (by decide)]
    have hr := hr (by omega)
    exact val_3 hp.1 hp.2.1 hp.2.2 hr.1 hr.2.1 hr.2.2 j2 j4 j5 rfl
  · subst k2
    obtain ⟨j1, j2, j3, j4, j5⟩ := jfin 64 65 (by decide) (by decide) (by decide) σ i (fl (inR ((hB σ 64 a).toInt - (hB σ 65 b).toInt) ∧ inR ((hB σ 65 a).toInt - (hB σ 64 b).toInt)) (hA σ 48 20)) (hB σ 64 a - hB σ 65 b) (hB σ 65 a - hB σ 64 b)
    refine ⟨_, mj_4 h hb hi ha (hb' (by omega)), j1, by rw [j2]; exact fl_bit hb, j3, fun p hp r hr => ?_⟩
    rw [if_neg (by decide)]
    have hr := hr (by omega)
    exact val_4 hp.1 hp.2.1 hp.2.2 hr.1 hr.2.1 hr.2.2 j2 j4 j5 rfl
  · subst k2
    obtain ⟨v, l, g, ev, el, eg, ef⟩ := mj_5 h hb hi ha (hb' (by omega))
    obtain ⟨j1, j2, j3, j4, j5⟩ := jfin2 64 65 (by decide) (by decide) (by decide) σ i v l g l g
    refine ⟨_, ef, j1, by rw [j2, ev]; exact fl_bit hb, j3, fun p hp r hr => ?_⟩
    rw [if_neg (by decide)]
    have hr := hr (by omega)
    show RJ _ _ 64 65 i (pr4 p.1 p.2 r.1 r.2)
    by_cases g0 : fit4 (hB σ 64 a) (hB σ 65 a) (hB σ 64 b) (hB σ 65 b)
    · obtain ⟨m1, m2⟩ := gMM g0 hp.1 hp.2.1 hr.1 hr.2.1
      rw [fl_t g0] at ev
      obtain ⟨⟨⟨g1, g2⟩, g3⟩, g4⟩ := g0
      rw [hp.1, hr.1] at g1
      rw [hp.1, hr.2.1] at g2
      rw [hp.2.1, hr.1] at g3
      rw [hp.2.1, hr.2.1] at g4
      rw [show pr4 p.1 p.2 r.1 r.2 = some (mn4 p.1 p.2 r.1 r.2, mx4 p.1 p.2 r.1 r.2) from if_pos ⟨g1, g2, g3, g4⟩]
      exact ⟨by rw [j2, ev], by rw [j4, el]; exact m1, by rw [j5, eg]; exact m2, mn4_le _ _ _ _⟩
    · rw [fl_f g0] at ev
      rw [show pr4 p.1 p.2 r.1 r.2 = none from if_neg (fun z => g0 ⟨⟨⟨by rw [hp.1, hr.1]; exact z.1, by rw [hp.1, hr.2.1]; exact z.2.1⟩, by rw [hp.2.1, hr.1]; exact z.2.2.1⟩, by rw [hp.2.1, hr.2.1]; exact z.2.2.2⟩)]
      exact j2.trans ev
