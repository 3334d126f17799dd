/-! what a call that only asks keeps, both sides -/
def LO (V S : Nat → Int32) (s : Nat) : Int := if s < 6 then (V s).toInt - (S s).toInt else 0
def HI (V S : Nat → Int32) (s : Nat) : Int := if s < 6 then (V s).toInt + (S s).toInt else 0
def upI (L : Nat → Int) (s : Nat) (x : Int) (i : Nat) : Int := if i = s then x else L i
def CS (σ : HS) (φ f : Nat) (Φ : FM) (V S C : Nat → Int32) : Prop := Typ σ ∧ XF σ φ Φ ∧ MF σ f Φ ∧ SrcI σ 2 49 V S C
abbrev RepA (σ : HS) (t : Nat) (Φ : FM) (L H : Nat → Int) : Prop := ∀ j, j < mN Φ → Rep σ t j (SP Φ L H j)
abbrev RT (Φ : FM) (L H : Nat → Int) : Option (Int × Int) := SP Φ L H (mN Φ - 1)
theorem Kp.seq {σ σ' σ'' : HS} (h : Kp σ σ') (g : Kp σ' σ'') : Kp σ σ'' := by
  obtain ⟨a1, a2, a3, a4, a5, a6, a7⟩ := h
  obtain ⟨b1, b2, b3, b4, b5, b6, b7⟩ := g
  refine ⟨Nat.le_trans a1 b1, fun j hj => ?_, fun j hj => ?_, fun j hj hp => ?_, fun k hk => (b5 k hk).trans (a5 k hk), a6, a7⟩
  · obtain ⟨p, q⟩ := a2 j hj
    obtain ⟨r, t⟩ := b2 j (Nat.lt_of_lt_of_le hj a1)
    exact ⟨r.trans p, t.trans q⟩
  · refine (b3 j ?_).trans (a3 j hj)
    rcases hj with z | z
    · exact Or.inl z
    · exact Or.inr ⟨Nat.lt_of_lt_of_le z.1 a1, (a2 j z.1).1.trans z.2⟩
  · obtain ⟨p, q⟩ := a4 j hj hp
    obtain ⟨r, t⟩ := b4 j (Nat.lt_of_lt_of_le hj a1) hp
    exact ⟨r.trans p, t.trans q⟩
theorem CS.kp {σ σ' : HS} {φ f : Nat} {Φ : FM} {V S C : Nat → Int32} (h : CS σ φ f Φ V S C) (hk : Kp σ σ') : CS σ' φ f Φ V S C := by
  obtain ⟨t, h1, h2, h3⟩ := h
  have e : ∀ j, j < 76 → (scj j || j == 48) = false → ∀ k, hA σ' j k = hA σ j k := fun j hj hs k => Kq.A hk (Nat.lt_of_lt_of_le hj t.1) hs k
  refine ⟨hk.typ t, Kq.xf hk h1, ⟨(e 55 (by decide) (by decide) _).trans h2.1, fun i hi => ?_⟩, Kq.src hk t (by decide) (by decide) (by decide) (by decide) (by decide) (by decide) h3⟩
  obtain ⟨a, b, c, d⟩ := h2.2 i hi
  exact ⟨(e 51 (by decide) (by decide) _).trans a, (e 52 (by decide) (by decide) _).trans b, (e 53 (by decide) (by decide) _).trans c, (e 54 (by decide) (by decide) _).trans d⟩
theorem CS.vals {σ : HS} {φ f : Nat} {Φ : FM} {V S C : Nat → Int32} (h : CS σ φ f Φ V S C) : Vals σ := fun s hs => by
  obtain ⟨⟨a1, a2, a3⟩, -, ⟨r1, r2⟩, ⟨r3, r4⟩, r5, r6⟩ := h.2.2.2 s hs
  rw [a1, a2, a3]; exact ⟨r1, r2, r3, r4, r5, r6⟩
theorem CS.srcM {σ : HS} {φ f : Nat} {Φ : FM} {V S C : Nat → Int32} (h : CS σ φ f Φ V S C) : SrcM σ := fun s hs => by
  obtain ⟨⟨a1, a2, a3⟩, ⟨b1, b2, b3⟩, -⟩ := h.2.2.2 s hs
  exact ⟨b1.trans a1.symm, b2.trans a2.symm, b3.trans a3.symm⟩
theorem cs_bL {σ : HS} {φ f : Nat} {Φ : FM} {V S C : Nat → Int32} (h : CS σ φ f Φ V S C) : bL σ = LO V S := by
  funext s
  unfold bL LO
  by_cases hs : s < 6
  · obtain ⟨⟨a1, a2, a3⟩, -⟩ := h.2.2.2 s hs
    rw [if_pos hs, if_pos hs, a1, a2]
  · rw [if_neg hs, if_neg hs]
theorem cs_bH {σ : HS} {φ f : Nat} {Φ : FM} {V S C : Nat → Int32} (h : CS σ φ f Φ V S C) : bH σ = HI V S := by
  funext s
  unfold bH HI
  by_cases hs : s < 6
  · obtain ⟨⟨a1, a2, a3⟩, -⟩ := h.2.2.2 s hs
    rw [if_pos hs, if_pos hs, a1, a2]
  · rw [if_neg hs, if_neg hs]
theorem c_now {σ : HS} {φ f : Nat} {Φ : FM} {V S C : Nat → Int32} (hw : WF Φ) (h : CS σ φ f Φ V S C) : ∃ σ', f_X5_carryAsItIs 0 φ σ = some ((), σ') ∧ Kp σ σ' ∧ CS σ' φ f Φ V S C ∧ RepA σ' 28 Φ (LO V S) (HI V S) ∧ Th σ' (RT Φ (LO V S) (HI V S)) ∧ Bx σ' (LO V S) (HI V S) := by
  obtain ⟨σ', e1, e2, e3, e4, e5⟩ := cai_ok hw h.1 h.2.1 h.vals
  rw [cs_bL h, cs_bH h] at e3 e4 e5
  have k : Kp σ σ' := e2.kp (by decide)
  exact ⟨σ', e1, k, h.kp k, e3, e4, e5⟩
theorem c_carry {σ : HS} {φ f : Nat} {Φ : FM} {V S C : Nat → Int32} (hw : WF Φ) (h : CS σ φ f Φ V S C) {L H : Nat → Int} (hb : Bx σ L H) : ∃ σ', f_X4_carry 24 φ σ = some ((), σ') ∧ Kp σ σ' ∧ CS σ' φ f Φ V S C ∧ RepA σ' 28 Φ L H ∧ Th σ' (RT Φ L H) ∧ Bx σ' L H ∧ Fr [24, 29, 30, 31] σ σ' := by
  obtain ⟨σ', e1, e2, e3, e4⟩ := carry_ok hw h.1 h.2.1 hb
  have k : Kp σ σ' := e2.kp (by decide)
  exact ⟨σ', e1, k, h.kp k, e3, e4, hb.fr e2 (by decide) (by decide), e2⟩
theorem m_now {σ : HS} {φ f : Nat} {Φ : FM} {V S C : Nat → Int32} (hf : f < 7) (hw : WF Φ) (h : CS σ φ f Φ V S C) : ∃ σ', f_X6_spansNow 48 (nI f) σ = some (rc (RT Φ (LO V S) (HI V S)), σ') ∧ Kp σ σ' ∧ CS σ' φ f Φ V S C ∧ RepA σ' 63 Φ (LO V S) (HI V S) ∧ BxM σ' (LO V S) (HI V S) ∧ Mf [62, 63, 64, 65, 66] σ σ' := by
  obtain ⟨σ', e1, e2, e3, e4⟩ := spansNow_ok hf hw h.1 h.2.2.1 h.vals h.srcM
  rw [cs_bL h, cs_bH h] at e1 e3 e4
  have k : Kp σ σ' := e2.kp (by decide)
  exact ⟨σ', e1, k, h.kp k, e3, e4, e2⟩
theorem m_spans {σ : HS} {φ f : Nat} {Φ : FM} {V S C : Nat → Int32} (hf : f < 7) (hw : WF Φ) (h : CS σ φ f Φ V S C) {L H : Nat → Int} (hb : BxM σ L H) : ∃ σ', f_X6_spans 48 (nI f) σ = some (rc (RT Φ L H), σ') ∧ Kp σ σ' ∧ CS σ' φ f Φ V S C ∧ RepA σ' 63 Φ L H ∧ BxM σ' L H ∧ Mf [64, 65, 66] σ σ' := by
  obtain ⟨σ', e1, e2, e3⟩ := spans_ok hf hw h.1 h.2.2.1 hb
  have k : Kp σ σ' := e2.kp (by decide)
  exact ⟨σ', e1, k, h.kp k, e3, hb.mf e2 (by decide) (by decide), e2⟩
theorem m_box {σ : HS} {φ f : Nat} {Φ : FM} {V S C : Nat → Int32} (h : CS σ φ f Φ V S C) : ∃ σ', f_X6_laysBox 48 σ = some ((), σ') ∧ Kp σ σ' ∧ CS σ' φ f Φ V S C ∧ BxM σ' (LO V S) (HI V S) ∧ Mf [62, 63] σ σ' := by
  obtain ⟨σ', e1, e2, e3⟩ := laysBox_ok h.1
  have k : Kp σ σ' := e2.kp (by decide)
  have hb := BxM_now h.vals h.srcM e3
  rw [cs_bL h, cs_bH h] at hb
  exact ⟨σ', e1, k, h.kp k, hb, e2⟩
theorem m_width {σ : HS} {φ f : Nat} {Φ : FM} {V S C : Nat → Int32} (hf : f < 7) (hw : WF Φ) (h : CS σ φ f Φ V S C) {L H : Nat → Int} (hb : BxM σ L H) : ∃ σ', f_X6_widthBy 48 (nI f) σ = some (oW (WD (RT Φ L H)), σ') ∧ Kp σ σ' ∧ CS σ' φ f Φ V S C ∧ BxM σ' L H := by
  obtain ⟨σ', e1, e2⟩ := widthBy_ok hf hw h.1 h.2.2.1 hb
  have k : Kp σ σ' := e2.kp (by decide)
  exact ⟨σ', e1, k, h.kp k, hb.mf e2 (by decide) (by decide)⟩
theorem m_widthNow {σ : HS} {φ f : Nat} {Φ : FM} {V S C : Nat → Int32} (hf : f < 7) (hw : WF Φ) (h : CS σ φ f Φ V S C) : ∃ σ', f_X6_widthNow 48 (nI f) σ = some (oW (WD (RT Φ (LO V S) (HI V S))), σ') ∧ Kp σ σ' ∧ CS σ' φ f Φ V S C := by
  obtain ⟨σ', e1, e2⟩ := widthNow_ok hf hw h.1 h.2.2.1 h.vals h.srcM
  rw [cs_bL h, cs_bH h] at e1
  have k : Kp σ σ' := e2.kp (by decide)
  exact ⟨σ', e1, k, h.kp k⟩
theorem m_lo {σ : HS} {φ f : Nat} {Φ : FM} {V S C : Nat → Int32} (hf : f < 7) (hw : WF Φ) (h : CS σ φ f Φ V S C) : f_X6_lowOf 48 (nI f) σ = some (hB σ 64 (mN Φ - 1), σ) := mLow_ok h.1 hf h.2.2.1.1 hw
theorem m_hi {σ : HS} {φ f : Nat} {Φ : FM} {V S C : Nat → Int32} (hf : f < 7) (hw : WF Φ) (h : CS σ φ f Φ V S C) : f_X6_highOf 48 (nI f) σ = some (hB σ 65 (mN Φ - 1), σ) := mHigh_ok h.1 hf h.2.2.1.1 hw
theorem upI_le {L H : Nat → Int} (h : ∀ s, L s ≤ H s) (s : Nat) {a b : Int} (hab : a ≤ b) : ∀ i, upI L s a i ≤ upI H s b i := fun i => by
  unfold upI
  by_cases e : i = s
  · rw [if_pos e, if_pos e]; exact hab
  · rw [if_neg e, if_neg e]; exact h i
theorem c_stand {σ : HS} (t : Typ σ) {L H : Nat → Int} (hb : Bx σ L H) {s : Nat} (hs : s < 6) {a b : Int32} (hab : a.toInt ≤ b.toInt) : f_X4_stand 24 (nI s) a b σ = some ((), sA (sA σ 25 s a) 26 s b) ∧ Bx (sA (sA σ 25 s a) 26 s b) (upI L s a.toInt) (upI H s b.toInt) ∧ Fr [25, 26] σ (sA (sA σ 25 s a) 26 s b) := by
  refine ⟨stand_ok t hs a b, ⟨upI_le hb.1 s hab, fun i hi => ?_⟩, (Fr_sA (by simp)).seq (Fr_sA (by simp))⟩
  obtain ⟨e1, e2⟩ := hb.2 i hi
  unfold upI
  by_cases e : i = s
  · subst e; simp (decide := true) only [hA_sA, if_true, if_false, and_self, and_true, false_and]
  · simp (decide := true) only [hA_sA, e, if_true, if_false, and_false, e1, e2, and_self]
theorem m_lays {σ : HS} (t : Typ σ) {L H : Nat → Int} (hb : BxM σ L H) {s : Nat} (hs : s < 6) {a b : Int32} (hab : a.toInt ≤ b.toInt) : f_X6_lays 48 (nI s) a b σ = some ((), sA (sA σ 62 s a) 63 s b) ∧ BxM (sA (sA σ 62 s a) 63 s b) (upI L s a.toInt) (upI H s b.toInt) ∧ Fr [62, 63] σ (sA (sA σ 62 s a) 63 s b) := by
  refine ⟨lays_ok t hs a b, ⟨upI_le hb.1 s hab, fun i hi => ?_⟩, (Fr_sA (by simp)).seq (Fr_sA (by simp))⟩
  obtain ⟨e1, e2⟩ := hb.2 i hi
  unfold upI
  by_cases e : i = s
  · subst e; simp (decide := true) only [hA_sA, if_true, if_false, and_self, and_true, false_and]
  · simp (decide := true) only [hA_sA, e, if_true, if_false, and_false, e1, e2, and_self]
theorem m_laysPoint {σ : HS} (t : Typ σ) {L H : Nat → Int} (hb : BxM σ L H) {s : Nat} (hs : s < 6) {a : Int32} : f_X6_laysPoint 48 (nI s) a σ = some ((), sA (sA σ 62 s a) 63 s a) ∧ BxM (sA (sA σ 62 s a) 63 s a) (upI L s a.toInt) (upI H s a.toInt) ∧ Fr [62, 63] σ (sA (sA σ 62 s a) 63 s a) := by
  obtain ⟨e1, e2, e3⟩ := m_lays t hb hs (a := a) (b := a) (Int.le_refl _)
  refine ⟨?_, e2, e3⟩
  unfold f_X6_laysPoint
  simp only [chk_p, lt_p, bd_p, bc_p, oc_n, oc_s, and_self, and_true, true_and, if_true, if_false, isO_sA', isO_sB', isO_rA', hlen_sA, hlen_sB, hlen_rA, hR_sA, hR_sB, hR_rA, Typ_sA', Typ_sB', Typ_rA', O48, r48_0, r48_1, r48_2, r48_3, r48_4, r48_5, r48_6, r48_8, r48_9, r48_10, r48_11, r48_12, r48_15, r48_21, r48_22, r48_23, r48_24, r48_25, r48_28, r48_30, r48_31, r48_32, r48_35, r48_37, r48_39, r48_40, r48_41, t, e1]
theorem cs_val {σ : HS} {φ f : Nat} {Φ : FM} {V S C : Nat → Int32} (h : CS σ φ f Φ V S C) {s : Nat} (hs : s < 6) : hA σ 2 s = V s ∧ hA σ 3 s = S s ∧ hA σ 4 s = C s ∧ hA σ 49 (3 * s) = V s ∧ hA σ 49 (3 * s + 1) = S s ∧ hA σ 49 (3 * s + 2) = C s ∧ (-99 ≤ (V s).toInt ∧ (V s).toInt ≤ 99) ∧ (0 ≤ (S s).toInt ∧ (S s).toInt ≤ 20) ∧ (0 ≤ (C s).toInt ∧ (C s).toInt ≤ 99) ∧ (V s - S s).toInt = LO V S s ∧ (V s + S s).toInt = HI V S s := by
  obtain ⟨⟨a1, a2, a3⟩, ⟨b1, b2, b3⟩, ⟨r1, r2⟩, ⟨r3, r4⟩, r5, r6⟩ := h.2.2.2 s hs
  refine ⟨a1, a2, a3, b1, b2, b3, ⟨r1, r2⟩, ⟨r3, r4⟩, ⟨r5, r6⟩, ?_, ?_⟩
  · unfold LO; rw [if_pos hs, i_sub (by omega) (by omega) (by omega) (by omega)]
  · unfold HI; rw [if_pos hs, i_add (by omega) (by omega) (by omega) (by omega)]
theorem c_low {σ : HS} {φ f : Nat} {Φ : FM} {V S C : Nat → Int32} (h : CS σ φ f Φ V S C) {s : Nat} (hs : s < 6) : f_X2_lowOf 1 (nI s) σ = some (V s - S s, σ) := by
  have v := cs_val h hs
  have e := lowOf_ok h.1 hs
  rw [v.1, v.2.1] at e; exact e
theorem c_high {σ : HS} {φ f : Nat} {Φ : FM} {V S C : Nat → Int32} (h : CS σ φ f Φ V S C) {s : Nat} (hs : s < 6) : f_X2_highOf 1 (nI s) σ = some (V s + S s, σ) := by
  have v := cs_val h hs
  have e := highOf_ok h.1 hs
  rw [v.1, v.2.1] at e; exact e
theorem m_val {σ : HS} {φ f : Nat} {Φ : FM} {V S C : Nat → Int32} (h : CS σ φ f Φ V S C) {s : Nat} (hs : s < 6) : f_X6_valueOf 48 (nI s) σ = some (V s, σ) := by
  have e := valueOf_ok h.1 hs
  rw [(cs_val h hs).2.2.2.1] at e; exact e
theorem m_span {σ : HS} {φ f : Nat} {Φ : FM} {V S C : Nat → Int32} (h : CS σ φ f Φ V S C) {s : Nat} (hs : s < 6) : f_X6_spanOf 48 (nI s) σ = some (S s, σ) := by
  have e := spanOf_ok h.1 hs
  rw [(cs_val h hs).2.2.2.2.1] at e; exact e
theorem LOHI {σ : HS} {φ f : Nat} {Φ : FM} {V S C : Nat → Int32} (h : CS σ φ f Φ V S C) (s : Nat) : LO V S s ≤ HI V S s := by
  by_cases hs : s < 6
  · have v := (cs_val h hs).2.2.2.2.2.2.2.1
    unfold LO HI; rw [if_pos hs, if_pos hs]; omega
  · unfold LO HI; rw [if_neg hs, if_neg hs]; exact Int.le_refl _
/-- a call's formula, or none -/
theorem start {σ : HS} {V S C : Nat → Int32} {n : Nat} {FS : Nat → FM} (I : INV σ V S C n FS) (a : Int32) :
    (∃ k φ, k < 7 ∧ a = nI k ∧ f_X5_formulaOf 0 (nI k) σ = some (some φ, σ) ∧ Good (FS k) ∧ CS σ φ k (FS k) V S C ∧ XI σ φ (FS k) ∧ ∀ σ', Typ σ' → hA σ' 48 7 = hA σ 48 7 → f_X6_isFormula 48 (nI k) σ' = some (1, σ')) ∨ (f_X5_formulaOf 0 a σ = some (none, σ) ∧ f_X6_isFormula 48 a σ = some (0, σ)) := by
  have t := I.1
  obtain ⟨hn6, hg, e1, e2, ex, em, er⟩ := I.2.2.1
  rcases argC a n (by omega) with ⟨k, hk, rfl⟩ | ha
  · obtain ⟨φ, hφ, hx, hxi⟩ := ex k hk
    have ef := formulaOf_so t hn6 e1 hk
    rw [hφ] at ef
    refine Or.inl ⟨k, φ, by omega, rfl, ef, hg k hk, ⟨t, hx, em k hk, I.2.1⟩, hxi, fun σ' t' h7 => ?_⟩
    rw [isFormula_ok t' hn6 (h7.trans e2), if_pos (inF hk hn6)]
  · refine Or.inr ⟨formulaOf_no t hn6 e1 ha, ?_⟩
    rw [isFormula_ok t hn6 e2, if_neg (by omega)]
theorem rng1 (w : Int32) : (∃ e, e < 2 ∧ w = nI e ∧ (nI e < 0) = False ∧ (nI e ≤ 1) = True ∧ ∀ σ, f_X6_isIn (nI e).toInt64 0 1 σ = some (1, σ)) ∨ ((∀ σ, f_X6_isIn w.toInt64 0 1 σ = some (0, σ)) ∧ ((w < 0) = True ∨ ((w < 0) = False ∧ (w ≤ 1) = False))) := by
  have z1 : (1 : Int32).toInt = 1 := rfl
  rcases argC w 2 (by decide) with ⟨e, he, rfl⟩ | hw
  · refine Or.inl ⟨e, he, rfl, ?_, ?_, fun σ => ?_⟩
    · rw [i_lt, nT (by omega), z320]; exact eq_false (by omega)
    · rw [i_le, nT (by omega), z1]; exact eq_true (by omega)
    · rw [isIn_c (nI e) 0 1 0 1 rfl rfl σ, nT (by omega), if_pos (by omega)]
  · refine Or.inr ⟨fun σ => by rw [isIn_c w 0 1 0 1 rfl rfl σ, if_neg (by omega)], ?_⟩
    rw [i_lt, i_le, z320, z1]
    by_cases c : w.toInt < 0
    · exact Or.inl (eq_true c)
    · exact Or.inr ⟨eq_false c, eq_false (by omega)⟩
theorem rng2 (w : Int32) : (∃ e, e < 3 ∧ w = nI e ∧ (nI e < 0) = False ∧ (nI e ≤ 2) = True ∧ ∀ σ, f_X6_isIn (nI e).toInt64 0 2 σ = some (1, σ)) ∨ ((∀ σ, f_X6_isIn w.toInt64 0 2 σ = some (0, σ)) ∧ ((w < 0) = True ∨ ((w < 0) = False ∧ (w ≤ 2) = False))) := by
  have z1 : (2 : Int32).toInt = 2 := rfl
  rcases argC w 3 (by decide) with ⟨e, he, rfl⟩ | hw
  · refine Or.inl ⟨e, he, rfl, ?_, ?_, fun σ => ?_⟩
    · rw [i_lt, nT (by omega), z320]; exact eq_false (by omega)
    · rw [i_le, nT (by omega), z1]; exact eq_true (by omega)
    · rw [isIn_c (nI e) 0 2 0 2 rfl rfl σ, nT (by omega), if_pos (by omega)]
  · refine Or.inr ⟨fun σ => by rw [isIn_c w 0 2 0 2 rfl rfl σ, if_neg (by omega)], ?_⟩
    rw [i_lt, i_le, z320, z1]
    by_cases c : w.toInt < 0
    · exact Or.inl (eq_true c)
    · exact Or.inr ⟨eq_false c, eq_false (by omega)⟩
theorem srcC (w : Int32) : (∃ s, s < 6 ∧ w = nI s ∧ (∀ σ, f_X5_isSource (nI s) σ = some (1, σ)) ∧ ∀ σ, f_X6_isSource (nI s) σ = some (1, σ)) ∨ ((∀ σ, f_X5_isSource w σ = some (0, σ)) ∧ ∀ σ, f_X6_isSource w σ = some (0, σ)) := by
  rcases argC w 6 (by decide) with ⟨s, hs, rfl⟩ | hw
  · exact Or.inl ⟨s, hs, rfl, fun σ => by rw [isSource_ok, yif (inS hs)], fun σ => by rw [mIsSource_ok, yif (inS hs)]⟩
  · exact Or.inr ⟨fun σ => by rw [isSource_ok, if_neg (by omega)], fun σ => by rw [mIsSource_ok, if_neg (by omega)]⟩
/-- what holds of a span that is not over -/
theorem SP_nar {Φ : FM} {L H L' H' : Nat → Int} (h : ∀ s, L s ≤ L' s ∧ L' s ≤ H' s ∧ H' s ≤ H s) (i : Nat) : Nar (SP Φ L H i) (SP Φ L' H' i) := SPI_nar Φ h (i + 1) i
theorem all_some {Φ : FM} (hg : Good Φ) {L H : Nat → Int} (h : RT Φ L H ≠ none) : ∀ d i, i + d + 1 = mN Φ → SP Φ L H i ≠ none := by
  obtain ⟨⟨w1, w60, wr⟩, hr, -⟩ := hg
  intro d
  induction d using Nat.strongRecOn with
  | _ d ih =>
    intro i hi
    by_cases d0 : d = 0
    · subst d0; rw [show i = mN Φ - 1 by omega]; exact h
    · obtain ⟨j, hj, hjn, hc⟩ := hr i (by omega)
      have e := ih (mN Φ - 1 - j) (by omega) j (by omega)
      rcases hc with ⟨k2, hu⟩ | ⟨k3, hv⟩
      · by_cases k2' : mK Φ j = 2
        · rw [SP_2 wr hjn k2', hu] at e
          intro z; rw [z] at e; exact e rfl
        · rw [SP_3 wr hjn (by omega), hu] at e
          intro z; rw [z] at e; exact e rfl
      · rw [SP_3 wr hjn k3, hv] at e
        intro z; rw [z] at e
        apply e
        cases SP Φ L H (mU Φ j) <;> rfl
theorem th_over {σ : HS} {x : Option (Int × Int)} (h : Th σ x) : hA σ 24 2 = if x.isNone = true then 1 else 0 := by
  cases x with
  | none => exact h
  | some p => exact h.1
theorem Kp.k7 {σ σ' : HS} (h : Kp σ σ') : hA σ' 48 7 = hA σ 48 7 := h.2.2.2.2.1 7 (by decide)
