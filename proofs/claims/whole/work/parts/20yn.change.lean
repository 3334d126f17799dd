/-! by which a formula changes -/
def CHI (Φ : FM) (L H : Nat → Int) (q : Nat) : Nat → Nat → Option (Int × Int)
  | 0, _ => none
  | n + 1, i => if mK Φ i = 0 then some (if mU Φ i = q then (1, 1) else (0, 0)) else if mK Φ i = 1 then some (0, 0) else if mK Φ i = 2 then sp1 (CHI Φ L H q n (mU Φ i)) else if mK Φ i = 5 then sp2 3 (sp2 5 (CHI Φ L H q n (mU Φ i)) (SP Φ L H (mV Φ i))) (sp2 5 (SP Φ L H (mU Φ i)) (CHI Φ L H q n (mV Φ i))) else sp2 (mK Φ i) (CHI Φ L H q n (mU Φ i)) (CHI Φ L H q n (mV Φ i))
theorem CHI_fuel (Φ : FM) (hw : wfR Φ) {L H : Nat → Int} {q : Nat} : ∀ n m i, i < mN Φ → i < n → i < m → CHI Φ L H q n i = CHI Φ L H q m i := by
  intro n
  induction n with
  | zero => intro m i _ h; omega
  | succ n ih =>
    intro m i hi h1 h2
    cases m with
    | zero => omega
    | succ m =>
      obtain ⟨w1, w2, w3, w4, w5, w6, w7⟩ := hw i hi
      unfold CHI
      by_cases k0 : mK Φ i = 0
      · rw [if_pos k0, if_pos k0]
      rw [if_neg k0, if_neg k0]
      by_cases k1 : mK Φ i = 1
      · rw [if_pos k1, if_pos k1]
      rw [if_neg k1, if_neg k1]
      have hu := w4 (by omega)
      rw [ih m (mU Φ i) (by omega) (by omega) (by omega)]
      by_cases k2 : mK Φ i = 2
      · rw [if_pos k2, if_pos k2]
      rw [if_neg k2, if_neg k2]
      have hv := w5 (by omega)
      rw [ih m (mV Φ i) (by omega) (by omega) (by omega)]
def CH (Φ : FM) (L H : Nat → Int) (q i : Nat) : Option (Int × Int) := CHI Φ L H q (i + 1) i
theorem CH_0 {Φ : FM} {L H : Nat → Int} {q i : Nat} (k : mK Φ i = 0) : CH Φ L H q i = some (if mU Φ i = q then (1, 1) else (0, 0)) := if_pos k
theorem CH_1 {Φ : FM} {L H : Nat → Int} {q i : Nat} (k : mK Φ i = 1) : CH Φ L H q i = some (0, 0) := by
  unfold CH CHI; rw [if_neg (by omega), if_pos k]
theorem CH_2 {Φ : FM} (hw : wfR Φ) {L H : Nat → Int} {q i : Nat} (hi : i < mN Φ) (k : mK Φ i = 2) : CH Φ L H q i = sp1 (CH Φ L H q (mU Φ i)) := by
  have hu := (hw i hi).2.2.2.1 (by omega)
  have e := CHI_fuel Φ hw (L := L) (H := H) (q := q) i (mU Φ i + 1) (mU Φ i) (by omega) (by omega) (by omega)
  show CHI Φ L H q (i + 1) i = _
  unfold CHI; rw [if_neg (by omega), if_neg (by omega), if_pos k, e]; rfl
theorem CH_5 {Φ : FM} (hw : wfR Φ) {L H : Nat → Int} {q i : Nat} (hi : i < mN Φ) (k : mK Φ i = 5) : CH Φ L H q i = sp2 3 (sp2 5 (CH Φ L H q (mU Φ i)) (SP Φ L H (mV Φ i))) (sp2 5 (SP Φ L H (mU Φ i)) (CH Φ L H q (mV Φ i))) := by
  have hu := (hw i hi).2.2.2.1 (by omega)
  have hv := (hw i hi).2.2.2.2.1 (by omega)
  have e := CHI_fuel Φ hw (L := L) (H := H) (q := q) i (mU Φ i + 1) (mU Φ i) (by omega) (by omega) (by omega)
  have e2 := CHI_fuel Φ hw (L := L) (H := H) (q := q) i (mV Φ i + 1) (mV Φ i) (by omega) (by omega) (by omega)
  show CHI Φ L H q (i + 1) i = _
  unfold CHI; rw [if_neg (by omega), if_neg (by omega), if_neg (by omega), if_pos k, e, e2]; rfl
theorem CH_3 {Φ : FM} (hw : wfR Φ) {L H : Nat → Int} {q i : Nat} (hi : i < mN Φ) (k : 3 ≤ mK Φ i) (k5 : mK Φ i ≠ 5) : CH Φ L H q i = sp2 (mK Φ i) (CH Φ L H q (mU Φ i)) (CH Φ L H q (mV Φ i)) := by
  have hu := (hw i hi).2.2.2.1 (by omega)
  have hv := (hw i hi).2.2.2.2.1 (by omega)
  have e := CHI_fuel Φ hw (L := L) (H := H) (q := q) i (mU Φ i + 1) (mU Φ i) (by omega) (by omega) (by omega)
  have e2 := CHI_fuel Φ hw (L := L) (H := H) (q := q) i (mV Φ i + 1) (mV Φ i) (by omega) (by omega) (by omega)
  show CHI Φ L H q (i + 1) i = _
  unfold CHI; rw [if_neg (by omega), if_neg (by omega), if_neg (by omega), if_neg k5, e, e2]; rfl
def RC (x : Option (Int × Int)) : Int32 := match x with
  | none => 3
  | some p => if p.1 = 0 ∧ p.2 = 0 then 0 else if 0 ≤ p.1 then 1 else if p.2 ≤ 0 then 2 else 3
theorem sp2_n {k : Nat} {x : Option (Int × Int)} : sp2 k x none = none := by cases x <;> rfl
theorem CH_all {Φ : FM} (hg : Good Φ) {L H : Nat → Int} {q : Nat} (h : CH Φ L H q (mN Φ - 1) ≠ none) : ∀ d i, i + d + 1 = mN Φ → CH Φ L H q i ≠ none := by
  obtain ⟨⟨w1, w60, wr⟩, hr, -⟩ := hg
  intro d
  induction d using Nat.strongRecOn with
  | _ d ih =>
    intro i hi
    by_cases d0 : d = 0
    · subst d0; rw [show i = mN Φ - 1 by omega]; exact h
    · obtain ⟨j, hj, hjn, hc⟩ := hr i (by omega)
      have e := ih (mN Φ - 1 - j) (by omega) j (by omega)
      intro z
      apply e
      rcases hc with ⟨k2, hu⟩ | ⟨k3, hv⟩
      · by_cases k2' : mK Φ j = 2
        · rw [CH_2 wr hjn k2', hu, z]; rfl
        · by_cases k5 : mK Φ j = 5
          · rw [CH_5 wr hjn k5, hu, z]; rfl
          · rw [CH_3 wr hjn (by omega) k5, hu, z]; rfl
      · by_cases k5 : mK Φ j = 5
        · rw [CH_5 wr hjn k5, hv, z, sp2_n, sp2_n]
        · rw [CH_3 wr hjn (by omega) k5, hv, z, sp2_n]
abbrev RepC (σ : HS) (t : Nat) (Φ : FM) (L H : Nat → Int) (q n : Nat) : Prop := ∀ j, j < n → Rep σ t j (CH Φ L H q j)
theorem changePart_ok {σ : HS} (h : Typ σ) {φ : Nat} {Φ : FM} (hx : XF σ φ Φ) (hw : WF Φ) {L H : Nat → Int} (hs : RepA σ 28 Φ L H) {q : Nat} (hq : q < 6) {i : Nat} (hi : i < mN Φ) (ih : RepC σ 32 Φ L H q i) :
    ∃ σ', f_X4_changePart 24 φ (nI i) (nI q) σ = some ((), σ') ∧ Fr [33, 34, 35, 37, 38, 39] σ σ' ∧ RepC σ' 32 Φ L H q (i + 1) := by
  obtain ⟨ft, hn, hc⟩ := hx
  obtain ⟨c1, c2, c3, c4, c5⟩ := hc i hi
  obtain ⟨w0, w60, wr⟩ := hw
  obtain ⟨k5, ku0, ku1, ku, kv, kv0, kp⟩ := wr i hi
  obtain ⟨f0, f1, ⟨a1, a2, a3⟩, -, ⟨d1, d2, d3⟩, ⟨e1, e2, e3⟩, ⟨g1, g2, g3⟩⟩ := ft
  have ib := inbE (i := i) hi (by omega)
  have ci := cl1000 (i := i) (by omega)
  have q1 := eq_true f1
  have q2 := eq_true a2
  have q3 := eq_true d2
  have q4 := eq_true e2
  have q5 := eq_true g2
  have sr := SR32 h
  have ss := SR28 h
  have fin : ∀ u lo hi', Rep (st3 σ 32 i u lo hi') 32 i (CH Φ L H q i) → Fr [33, 34, 35, 37, 38, 39] σ (st3 σ 32 i u lo hi') ∧ RepC (st3 σ 32 i u lo hi') 32 Φ L H q (i + 1) := fun u lo hi' hr => ⟨st3_fr.mono (by simp), fun j hj => by
    by_cases z : j = i
    · rw [z]; exact hr
    · exact rep_keep rfl z (ih j (by omega))⟩
  unfold f_X4_changePart
  simp only [chk_p, lt_p, bd_p, bc_p, oc_n, oc_s, and_self, and_true, true_and, if_true, if_false, isO_sA', isO_sB', isO_rA', hlen_sA, hlen_sB, hlen_rA, hR_sA, hR_sB, hR_rA, Typ_sA', Typ_sB', Typ_rA', O24, r24_0, r24_1, r24_5, r24_6, r24_7, r24_8, r24_9, h, q1, q2, q3, q4, q5, a1, a3, d1, d3, e1, e3, g1, g3, ib, ci, c1, c3, c4, c5]
  have h6 : mK Φ i = 0 ∨ mK Φ i = 1 ∨ mK Φ i = 2 ∨ mK Φ i = 3 ∨ mK Φ i = 4 ∨ mK Φ i = 5 := by omega
  rcases h6 with k | k | k | k | k | k
  · have hu := ku0 k
    have eq : (nI (mU Φ i) = nI q) = (mU Φ i = q) := nE (by omega) (by omega)
    by_cases z : mU Φ i = q
    · obtain ⟨y1, y2⟩ := fin 0 ((1 : Int32).toInt64) ((1 : Int32).toInt64) (by
        rw [CH_0 k, if_pos z]; exact st3_rep_some rfl rfl (Int.le_refl _))
      refine ⟨_, ?_, y1, y2⟩
      simp (decide := true) only [k, if_true, eq, z, chk_p, lt_p, bd_p, bc_p, oc_n, oc_s, and_self, and_true, true_and, if_true, if_false, isO_sA', isO_sB', isO_rA', hlen_sA, hlen_sB, hlen_rA, hR_sA, hR_sB, hR_rA, Typ_sA', Typ_sB', Typ_rA', O24, r24_0, r24_1, r24_5, r24_6, r24_7, r24_8, r24_9, O32, r32_0, r32_1, r32_2, h, fromTo_ok sr (show i < 60 by omega) (by omega)]
    · obtain ⟨y1, y2⟩ := fin 0 ((0 : Int32).toInt64) ((0 : Int32).toInt64) (by
        rw [CH_0 k, if_neg z]; exact st3_rep_some rfl rfl (Int.le_refl _))
      refine ⟨_, ?_, y1, y2⟩
      simp (decide := true) only [k, if_true, eq, z, if_false, chk_p, lt_p, bd_p, bc_p, oc_n, oc_s, and_self, and_true, true_and, if_true, if_false, isO_sA', isO_sB', isO_rA', hlen_sA, hlen_sB, hlen_rA, hR_sA, hR_sB, hR_rA, Typ_sA', Typ_sB', Typ_rA', O24, r24_0, r24_1, r24_5, r24_6, r24_7, r24_8, r24_9, O32, r32_0, r32_1, r32_2, h, fromTo_ok sr (show i < 60 by omega) (by omega)]
  · obtain ⟨y1, y2⟩ := fin 0 0 0 (by rw [CH_1 k]; exact st3_rep_some rfl rfl (Int.le_refl _))
    refine ⟨_, ?_, y1, y2⟩
    simp (decide := true) only [k, if_true, if_false, chk_p, lt_p, bd_p, bc_p, oc_n, oc_s, and_self, and_true, true_and, if_true, if_false, isO_sA', isO_sB', isO_rA', hlen_sA, hlen_sB, hlen_rA, hR_sA, hR_sB, hR_rA, Typ_sA', Typ_sB', Typ_rA', O24, r24_0, r24_1, r24_5, r24_6, r24_7, r24_8, r24_9, O32, r32_0, r32_1, r32_2, h, fromTo_ok sr (show i < 60 by omega) (by omega)]
  · have hu := ku (by omega)
    obtain ⟨u, lo, hi', ef, er⟩ := less_ok sr sr (show i < 60 by omega) (show mU Φ i < 60 by omega) (by omega) (by omega) (ih _ hu)
    rw [← CH_2 wr hi k] at er
    obtain ⟨y1, y2⟩ := fin u lo hi' er
    refine ⟨_, ?_, y1, y2⟩
    simp (decide := true) only [k, if_true, if_false, chk_p, lt_p, bd_p, bc_p, oc_n, oc_s, and_self, and_true, true_and, if_true, if_false, isO_sA', isO_sB', isO_rA', hlen_sA, hlen_sB, hlen_rA, hR_sA, hR_sB, hR_rA, Typ_sA', Typ_sB', Typ_rA', O24, r24_0, r24_1, r24_5, r24_6, r24_7, r24_8, r24_9, O32, r32_0, r32_1, r32_2, h, ef]
  · have hu := ku (by omega)
    have hv := kv (by omega)
    obtain ⟨u, lo, hi', ef, er⟩ := sum_ok sr sr sr (show i < 60 by omega) (show mU Φ i < 60 by omega) (show mV Φ i < 60 by omega) (by omega) (by omega) (by omega) (Or.inl ⟨rfl, by omega⟩) (Or.inl ⟨rfl, by omega⟩) (ih _ hu) (ih _ hv)
    rw [show sp2 3 (CH Φ L H q (mU Φ i)) (CH Φ L H q (mV Φ i)) = CH Φ L H q i by rw [CH_3 wr hi (by omega) (by omega), k]] at er
    obtain ⟨y1, y2⟩ := fin u lo hi' er
    refine ⟨_, ?_, y1, y2⟩
    simp (decide := true) only [k, if_true, if_false, chk_p, lt_p, bd_p, bc_p, oc_n, oc_s, and_self, and_true, true_and, if_true, if_false, isO_sA', isO_sB', isO_rA', hlen_sA, hlen_sB, hlen_rA, hR_sA, hR_sB, hR_rA, Typ_sA', Typ_sB', Typ_rA', O24, r24_0, r24_1, r24_5, r24_6, r24_7, r24_8, r24_9, O32, r32_0, r32_1, r32_2, h, ef]
  · have hu := ku (by omega)
    have hv := kv (by omega)
    obtain ⟨u, lo, hi', ef, er⟩ := difference_ok sr sr sr (show i < 60 by omega) (show mU Φ i < 60 by omega) (show mV Φ i < 60 by omega) (by omega) (by omega) (by omega) (Or.inl ⟨rfl, by omega⟩) (Or.inl ⟨rfl, by omega⟩) (ih _ hu) (ih _ hv)
    rw [show sp2 4 (CH Φ L H q (mU Φ i)) (CH Φ L H q (mV Φ i)) = CH Φ L H q i by rw [CH_3 wr hi (by omega) (by omega), k]] at er
    obtain ⟨y1, y2⟩ := fin u lo hi' er
    refine ⟨_, ?_, y1, y2⟩
    simp (decide := true) only [k, if_true, if_false, chk_p, lt_p, bd_p, bc_p, oc_n, oc_s, and_self, and_true, true_and, if_true, if_false, isO_sA', isO_sB', isO_rA', hlen_sA, hlen_sB, hlen_rA, hR_sA, hR_sB, hR_rA, Typ_sA', Typ_sB', Typ_rA', O24, r24_0, r24_1, r24_5, r24_6, r24_7, r24_8, r24_9, O32, r32_0, r32_1, r32_2, h, ef]
  · have hu := ku (by omega)
    have hv := kv (by omega)
    have s36 := SR36 h
    obtain ⟨u, lo, hi', ef, er⟩ := product_ok (i := 0) (k := 5) s36 sr ss (by omega) (show mU Φ i < 60 by omega) (show mV Φ i < 60 by omega) (by omega) (by omega) (by omega) (ih _ hu) (hs _ (by omega)) (by omega)
    have fr1 : Fr [37, 38, 39] σ (st3 σ 36 0 u lo hi') := st3_fr
    have h1 := fr1.typ h
    obtain ⟨u2, lo2, hi2, ef2, er2⟩ := product_ok (i := 1) (k := 5) (SR36 h1) (SR28 h1) (SR32 h1) (by omega) (show mU Φ i < 60 by omega) (show mV Φ i < 60 by omega) (by omega) (by omega) (by omega) (Rep_fr (hs _ (show mU Φ i < mN Φ by omega)) fr1 (by decide) (by decide) (by decide)) (Rep_fr (ih _ hv) fr1 (by decide) (by decide) (by decide)) (by omega)
    have fr2 : Fr [37, 38, 39] (st3 σ 36 0 u lo hi') (st3 (st3 σ 36 0 u lo hi') 36 1 u2 lo2 hi2) := st3_fr
    have h2 := fr2.typ h1
    have er1 := rep_keep (σ' := st3 (st3 σ 36 0 u lo hi') 36 1 u2 lo2 hi2) rfl (show 0 ≠ 1 by decide) er
    obtain ⟨u3, lo3, hi3, ef3, er3⟩ := sum_ok (SR32 h2) (SR36 h2) (SR36 h2) (show i < 60 by omega) (show 0 < 2 by omega) (show 1 < 2 by omega) (by omega) (by omega) (by omega) (Or.inr (Or.inr (by omega))) (Or.inr (Or.inr (by omega))) er1 er2
    rw [← CH_5 wr hi k] at er3
    have fr3 : Fr [33, 34, 35] (st3 (st3 σ 36 0 u lo hi') 36 1 u2 lo2 hi2) (st3 (st3 (st3 σ 36 0 u lo hi') 36 1 u2 lo2 hi2) 32 i u3 lo3 hi3) := st3_fr
    refine ⟨_, ?_, ((fr1.mono (by simp)).seq (fr2.mono (by simp))).seq (fr3.mono (by simp)), fun j hj => ?_⟩
    rotate_left
    · by_cases z : j = i
      · rw [z]; exact er3
      · exact rep_keep rfl z (Rep_fr (Rep_fr (ih j (by omega)) fr1 (by decide) (by decide) (by decide)) fr2 (by decide) (by decide) (by decide))
    · rw [show nI 0 = 0 from rfl] at ef ef3
      rw [show nI 1 = 1 from rfl] at ef2 ef3
      simp (decide := true) only [k, if_true, if_false, chk_p, lt_p, bd_p, bc_p, oc_n, oc_s, and_self, and_true, true_and, if_true, if_false, isO_sA', isO_sB', isO_rA', hlen_sA, hlen_sB, hlen_rA, hR_sA, hR_sB, hR_rA, Typ_sA', Typ_sB', Typ_rA', O24, r24_0, r24_1, r24_5, r24_6, r24_7, r24_8, r24_9, O32, r32_0, r32_1, r32_2, O36, r36_0, r36_1, r36_2, h, h1, h2, ef, ef2, ef3]
theorem changeBy_lp {φ : Nat} {Φ : FM} (hw : WF Φ) {L H : Nat → Int} {q : Nat} (hq : q < 6) : ∀ (d i : Nat) (σ : HS), Typ σ → XF σ φ Φ → RepA σ 28 Φ L H → RepC σ 32 Φ L H q i → i + d = mN Φ → ∀ nf, d < nf →
    ∃ σ', lp_X4_changeBy_2 nf 24 φ (nI q) (nI i) σ = some (RC (CH Φ L H q (mN Φ - 1)), σ') ∧ Fr [33, 34, 35, 37, 38, 39] σ σ' := by
  intro d
  induction d with
  | zero =>
    intro i σ t hx hs hr hi nf hnf
    obtain ⟨nf, rfl⟩ : ∃ k, nf = k + 1 := ⟨nf - 1, by omega⟩
    obtain ⟨m, hm⟩ : ∃ m, mN Φ = m + 1 := ⟨mN Φ - 1, by have := hw.1; omega⟩
    have : i = m + 1 := by omega
    subst this
    have w60 := hw.2.1
    have im := inbE (i := m) (n := 60) (by omega) (by omega)
    have cm := cl1000 (i := m) (by omega)
    have q0 := eq_true hx.1.2.1
    have hn := hx.2.1
    rw [hm] at hn
    have le : (nI (m + 1) ≤ nI (m + 1)) = True := eq_true (Int32.le_refl _)
    have rt := hr m (by omega)
    refine ⟨σ, ?_, Fr.rf⟩
    rw [hm, Nat.add_sub_cancel]
    show lp_X4_changeBy_2_b (lp_X4_changeBy_2 nf) 24 φ (nI q) (nI (m + 1)) σ = _
    unfold lp_X4_changeBy_2_b
    cases hc : CH Φ L H q m with
    | none =>
      rw [hc] at rt
      have e : hA σ 35 m = 1 := rt
      simp only [chk_p, lt_p, bd_p, bc_p, oc_n, oc_s, and_self, and_true, true_and, if_true, if_false, isO_sA', isO_sB', isO_rA', hlen_sA, hlen_sB, hlen_rA, hR_sA, hR_sB, hR_rA, Typ_sA', Typ_sB', Typ_rA', O24, r24_0, r24_1, r24_5, r24_6, r24_7, r24_8, r24_9, O32, r32_0, r32_1, r32_2, O35, l35, t, q0, hn, le, nI_pred, im, cm, e, beq1, if_false]
      rfl
    | some p =>
      rw [hc] at rt
      obtain ⟨b1, b2, b3, b4⟩ := rt
      have z0 : (0 : Int64).toInt = 0 := rfl
      have e1 : (lg_cmp (hB σ 33 m) 0 = 0) = (p.1 = 0) := by rw [z_eq, l_eq, z0, show (hB σ 33 m).toInt = p.1 from b2]
      have e2 : (lg_cmp (hB σ 34 m) 0 = 0) = (p.2 = 0) := by rw [z_eq, l_eq, z0, show (hB σ 34 m).toInt = p.2 from b3]
      have e3 : (lg_cmp (hB σ 33 m) 0 < 0) = (p.1 < 0) := by rw [z_lt0, show (hB σ 33 m).toInt = p.1 from b2]
      have e4 : (0 < lg_cmp (hB σ 34 m) 0) = (0 < p.2) := by rw [zc_gt, z0, show (hB σ 34 m).toInt = p.2 from b3]
      have b1' : hA σ 35 m = 0 := b1
      simp only [chk_p, lt_p, bd_p, bc_p, oc_n, oc_s, and_self, and_true, true_and, if_true, if_false, isO_sA', isO_sB', isO_rA', hlen_sA, hlen_sB, hlen_rA, hR_sA, hR_sB, hR_rA, Typ_sA', Typ_sB', Typ_rA', O24, r24_0, r24_1, r24_5, r24_6, r24_7, r24_8, r24_9, O32, r32_0, r32_1, r32_2, O33, l33, O34, l34, O35, l35, t, q0, hn, le, nI_pred, im, cm, b1', e1, e2, e3, e4]
      show _ = some (if p.1 = 0 ∧ p.2 = 0 then 0 else if 0 ≤ p.1 then 1 else if p.2 ≤ 0 then 2 else 3, σ)
      by_cases c1 : p.1 = 0
      · rw [if_pos c1]
        by_cases c2 : p.2 = 0
        · rw [if_pos c2, if_pos ⟨c1, c2⟩]
        · rw [if_neg c2, if_neg (show ¬ p.1 < 0 by omega), if_neg (show ¬ (p.1 = 0 ∧ p.2 = 0) from fun z => c2 z.2), if_pos (show 0 ≤ p.1 by omega)]
      · rw [if_neg c1, if_neg (show ¬ (p.1 = 0 ∧ p.2 = 0) from fun z => c1 z.1)]
        by_cases c3 : p.1 < 0
        · rw [if_pos c3, if_neg (show ¬ 0 ≤ p.1 by omega)]
          by_cases c4 : 0 < p.2
          · rw [if_pos c4, if_neg (by omega)]
          · rw [if_neg c4, if_pos (by omega)]
        · rw [if_neg c3, if_pos (show 0 ≤ p.1 by omega)]
  | succ d ih =>
    intro i σ t hx hs hr hi nf hnf
    obtain ⟨nf, rfl⟩ : ∃ k, nf = k + 1 := ⟨nf - 1, by omega⟩
    have w60 := hw.2.1
    obtain ⟨σ1, e1, f1, r1⟩ := changePart_ok t hx hw hs hq (i := i) (by omega) hr
    obtain ⟨σ2, e2, f2⟩ := ih (i + 1) σ1 (f1.typ t) (hx.fr f1 (by decide)) (fun j hj => Rep_fr (hs j hj) f1 (by decide) (by decide) (by decide)) r1 (by omega) nf (by omega)
    refine ⟨σ2, ?_, f1.seq f2⟩
    have q0 := eq_true hx.1.2.1
    have hn := hx.2.1
    have le := nle (a := mN Φ) (b := i) (by omega) (by omega)
    rw [← e2]
    show lp_X4_changeBy_2_b (lp_X4_changeBy_2 nf) 24 φ (nI q) (nI i) σ = _
    unfold lp_X4_changeBy_2_b
    rw [chk_p hx.1.2.1, hn, lt_p, if_neg (of_eq_false le), chk_p (o24 t), e1, bc_p, lt_p, nI_s]
theorem c_change {σ : HS} {φ f : Nat} {Φ : FM} {V S C : Nat → Int32} (hw : WF Φ) (h : CS σ φ f Φ V S C) {L H : Nat → Int} (hs : RepA σ 28 Φ L H) {q : Nat} (hq : q < 6) : ∃ σ', f_X4_changeBy 24 φ (nI q) σ = some (RC (CH Φ L H q (mN Φ - 1)), σ') ∧ Kp σ σ' ∧ CS σ' φ f Φ V S C ∧ RepA σ' 28 Φ L H ∧ Fr [33, 34, 35, 37, 38, 39] σ σ' := by
  have w60 := hw.2.1
  obtain ⟨σ', e1, e2⟩ := changeBy_lp hw hq (mN Φ) 0 σ h.1 h.2.1 hs (fun j hj => by omega) (by omega) 1000 (by omega)
  have k : Kp σ σ' := e2.kp (by decide)
  exact ⟨σ', e1, k, h.kp k, fun j hj => Rep_fr (hs j hj) e2 (by decide) (by decide) (by decide), e2⟩
