/-! what a call changes, by rows -/
theorem isO_sR' (σ : HS) (j k : Nat) (v : Option Nat) (t a : Nat) : isO (sR σ j k v) t a = isO σ t a := rfl
theorem hlen_sR (σ : HS) (j k : Nat) (v : Option Nat) (a : Nat) : hlen (sR σ j k v) a = hlen σ a := rfl
theorem Typ_sR5 {σ : HS} {k : Nat} {v : Option Nat} (h : Typ σ) : Typ (sR σ 5 k v) = True := eq_true (h.cong (Nat.le_refl _) (fun j _ => ⟨rfl, rfl, fun e _ => up2_ne e⟩))
theorem Typ_sR13 {σ : HS} {k : Nat} {v : Option Nat} (h : Typ σ) : Typ (sR σ 13 k v) = True := eq_true (h.cong (Nat.le_refl _) (fun j _ => ⟨rfl, rfl, fun _ e => up2_ne e⟩))
def tsok (l : List Nat) : Bool := l.all (fun j => j == 5 || j == 13)
def KL (S qs ts : List Nat) (σ σ' : HS) : Prop := Kq (fun j => S.contains j) (fun k => qs.contains k) (fun j => ts.contains j) σ σ'
theorem cont_t {S : List Nat} {j : Nat} (h : j ∈ S) : S.contains j = true := List.contains_iff_mem.mpr h
theorem cont_76 {S : List Nat} (hs : lows S = true) {j : Nat} (hj : 76 ≤ j) : S.contains j = false := by
  cases hc : S.contains j with
  | false => rfl
  | true => exact absurd (List.contains_iff_mem.mp hc) (lows_ne hs hj)
theorem tsok_e {ts : List Nat} (h : tsok ts = true) {j : Nat} (hj : ts.contains j = true) : j = 5 ∨ j = 13 := by
  have := List.all_eq_true.mp h j (List.contains_iff_mem.mp hj)
  simpa using this
theorem KL.rf {S qs ts : List Nat} {σ : HS} (hs : lows S = true) (ht : tsok ts = true) : KL S qs ts σ σ := ⟨Nat.le_refl _, fun _ _ => ⟨rfl, rfl⟩, fun _ _ => rfl, fun _ _ _ => ⟨rfl, rfl⟩, fun _ _ => rfl, fun _ hj => cont_76 hs hj, fun _ _ h => tsok_e ht h⟩
theorem KL.seq {S qs ts : List Nat} {σ σ' σ'' : HS} (h : KL S qs ts σ σ') (g : KL S qs ts σ' σ'') : KL S qs ts σ σ'' := by
  obtain ⟨a1, a2, a3, a4, a5, a6, a7⟩ := h
  obtain ⟨b1, b2, b3, b4, b5, b6, b7⟩ := g
  refine ⟨Nat.le_trans a1 b1, fun j hj => ?_, fun j hj => ?_, fun j hj hp => ?_, fun k hk => (b5 k hk).trans (a5 k hk), a6, a7⟩
  · obtain ⟨p, q⟩ := a2 j hj
    obtain ⟨r, t⟩ := b2 j (Nat.lt_of_lt_of_le hj a1)
    exact ⟨r.trans p, t.trans q⟩
  · refine (b3 j ?_).trans (a3 j hj)
    rcases hj with z | z
    · exact Or.inl z
    · exact Or.inr ⟨Nat.lt_of_lt_of_le z.1 a1, (a2 j z.1).1.trans z.2⟩
  · obtain ⟨p, q⟩ := a4 j hj hp
    obtain ⟨r, t⟩ := b4 j (Nat.lt_of_lt_of_le hj a1) hp
    exact ⟨r.trans p, t.trans q⟩
theorem KL_sA {S qs ts : List Nat} {σ : HS} {j k : Nat} {v : Int32} (hs : lows S = true) (ht : tsok ts = true) (hj : S.contains j = true) (hk : j = 48 → qs.contains k = true) : KL S qs ts σ (sA σ j k v) := ⟨Nat.le_refl _, fun _ _ => ⟨rfl, rfl⟩, fun _ _ => rfl, fun i _ hi => ⟨up2_ne (fun e => by subst e; exact absurd (hj.symm.trans hi) (by decide)), rfl⟩, fun i hi => by
  rw [hA_sA]
  by_cases e : 48 = j ∧ i = k
  · obtain ⟨e1, e2⟩ := e
    subst e2
    exact absurd ((hk e1.symm).symm.trans hi) (by decide)
  · rw [if_neg e], fun _ hj => cont_76 hs hj, fun _ _ h => tsok_e ht h⟩
theorem KL_sB {S qs ts : List Nat} {σ : HS} {j k : Nat} {v : Int64} (hs : lows S = true) (ht : tsok ts = true) (hj : S.contains j = true) : KL S qs ts σ (sB σ j k v) := ⟨Nat.le_refl _, fun _ _ => ⟨rfl, rfl⟩, fun _ _ => rfl, fun i _ hi => ⟨rfl, up2_ne (fun e => by subst e; exact absurd (hj.symm.trans hi) (by decide))⟩, fun i hi => rfl, fun _ hj => cont_76 hs hj, fun _ _ h => tsok_e ht h⟩
theorem KL_rA {S qs ts : List Nat} {σ : HS} {j : Nat} {g : Nat → Int32} (hs : lows S = true) (ht : tsok ts = true) (hj : S.contains j = true) (h48 : j ≠ 48) : KL S qs ts σ (rA σ j g) := ⟨Nat.le_refl _, fun _ _ => ⟨rfl, rfl⟩, fun _ _ => rfl, fun i _ hi => ⟨upr_ne (fun e => by subst e; exact absurd (hj.symm.trans hi) (by decide)), rfl⟩, fun i hi => by
  rw [hA_rA, if_neg (fun e => h48 e.symm)], fun _ hj => cont_76 hs hj, fun _ _ h => tsok_e ht h⟩
theorem KL_sR {S qs ts : List Nat} {σ : HS} {j k : Nat} {v : Option Nat} (hs : lows S = true) (ht : tsok ts = true) (hj : ts.contains j = true) (h0 : hty σ j ≠ 0) : KL S qs ts σ (sR σ j k v) := ⟨Nat.le_refl _, fun _ _ => ⟨rfl, rfl⟩, fun i hi => up2_ne (fun e => by
  subst e
  rcases hi with z | z
  · exact absurd (hj.symm.trans z.2) (by decide)
  · exact h0 z.2), fun i _ hi => ⟨rfl, rfl⟩, fun i hi => rfl, fun _ hj => cont_76 hs hj, fun _ _ h => tsok_e ht h⟩
theorem Fr.kl {S S' qs ts : List Nat} {σ σ' : HS} (h : Fr S' σ σ') (hs : lows S = true) (ht : tsok ts = true) (hS : ∀ j, j ∈ S' → j ∈ S) (hn : 48 ∉ S') : KL S qs ts σ σ' := ⟨Nat.le_of_eq h.1.symm, fun j _ => ⟨h.ty j, h.len j⟩, fun j _ => h.Rr j, fun j _ hj => h.2.2.2.2 j (fun z => absurd ((cont_t (hS j z)).symm.trans hj) (by decide)), fun k _ => h.A hn k, fun _ hj => cont_76 hs hj, fun _ _ h => tsok_e ht h⟩
/-- one call on both sides -/
def OpOK {α : Type} (fx fm : HS → Option (α × HS)) : Prop := ∀ σ V S C n FS, INV σ V S C n FS → ∃ r σ1 σ2, fx σ = some (r, σ1) ∧ Typ σ1 ∧ hN σ ≤ hN σ1 ∧ fm σ1 = some (r, σ2) ∧ hN σ1 ≤ hN σ2 ∧ ∃ V S C n FS, INV σ2 V S C n FS
theorem opQ {α : Type} {fx fm : HS → Option (α × HS)} {σ : HS} {V S C : Nat → Int32} {n : Nat} {FS : Nat → FM} (I : INV σ V S C n FS) (h : ∃ r σ1 σ2, fx σ = some (r, σ1) ∧ Kp σ σ1 ∧ fm σ1 = some (r, σ2) ∧ Kp σ1 σ2) : ∃ r σ1 σ2, fx σ = some (r, σ1) ∧ Typ σ1 ∧ hN σ ≤ hN σ1 ∧ fm σ1 = some (r, σ2) ∧ hN σ1 ≤ hN σ2 ∧ ∃ V S C n FS, INV σ2 V S C n FS := by
  obtain ⟨r, σ1, σ2, h1, h2, h3, h4⟩ := h
  exact ⟨r, σ1, σ2, h1, h2.typ I.1, h2.hN, h3, h4.hN, V, S, C, n, FS, (I.kp h2).kp h4⟩
/-- a call that answers so and changes nothing -/
theorem opN {α : Type} {fx fm : HS → Option (α × HS)} {σ : HS} {V S C : Nat → Int32} {n : Nat} {FS : Nat → FM} (I : INV σ V S C n FS) (r : α) (h1 : fx σ = some (r, σ)) (h2 : fm σ = some (r, σ)) : ∃ r σ1 σ2, fx σ = some (r, σ1) ∧ Typ σ1 ∧ hN σ ≤ hN σ1 ∧ fm σ1 = some (r, σ2) ∧ hN σ1 ≤ hN σ2 ∧ ∃ V S C n FS, INV σ2 V S C n FS :=
  opQ I ⟨r, σ, σ, h1, Kp.rf, h2, Kp.rf⟩
theorem nif {c : Prop} [Decidable c] (h : ¬ c) : (if c then (1 : Int32) else 0) = 0 := if_neg h
theorem yif {c : Prop} [Decidable c] (h : c) : (if c then (1 : Int32) else 0) = 1 := if_pos h
theorem inS {s : Nat} (h : s < 6) : 0 ≤ (nI s).toInt ∧ (nI s).toInt < 6 := by rw [nT (by omega)]; omega
theorem inL {s : Nat} (h : s < 4) : 0 ≤ (nI s).toInt ∧ (nI s).toInt < 4 := by rw [nT (by omega)]; omega
theorem inF {k n : Nat} (h : k < n) (hn : n ≤ 6) : 0 ≤ (nI k).toInt ∧ (nI k).toInt < n := by rw [nT (by omega)]; omega
theorem mb_ok (k : Nat) (hk : k < 3) (v : Int32) (σ : HS) : f_X5_mayBecome (nI k) v σ = some (if (if k = 0 then -99 else 0) ≤ v.toInt ∧ v.toInt ≤ (if k = 1 then 20 else 99) then 1 else 0, σ) := by
  have h3 : k = 0 ∨ k = 1 ∨ k = 2 := by omega
  have z99 : (99 : Int32).toInt = 99 := rfl
  have zm99 : (-99 : Int32).toInt = -99 := rfl
  have z20 : (20 : Int32).toInt = 20 := rfl
  unfold f_X5_mayBecome
  simp only [i_lt, z320, z99, zm99, z20]
  rcases h3 with z | z | z <;> subst z
  · simp (decide := true) only [if_true, if_false]
    by_cases c1 : v.toInt < -99
    · rw [if_pos c1, if_neg (by omega)]
    · rw [if_neg c1]
      by_cases c2 : 99 < v.toInt
      · rw [if_pos c2, if_neg (by omega)]
      · rw [if_neg c2, if_pos (by omega)]
  · simp (decide := true) only [if_true, if_false]
    by_cases c1 : v.toInt < 0
    · rw [if_pos c1, if_neg (by omega)]
    · rw [if_neg c1]
      by_cases c2 : 20 < v.toInt
      · rw [if_pos c2, if_neg (by omega)]
      · rw [if_neg c2, if_pos (by omega)]
  · simp (decide := true) only [if_true, if_false]
    by_cases c1 : v.toInt < 0
    · rw [if_pos c1, if_neg (by omega)]
    · rw [if_neg c1]
      by_cases c2 : 99 < v.toInt
      · rw [if_pos c2, if_neg (by omega)]
      · rw [if_neg c2, if_pos (by omega)]
theorem rowOf_ok {σ : HS} (h : Typ σ) {k : Nat} (hk : k < 3) : f_X2_rowOf 1 (nI k) σ = some (some (2 + k), σ) := by
  have h3 : k = 0 ∨ k = 1 ∨ k = 2 := by omega
  unfold f_X2_rowOf
  rcases h3 with z | z | z <;> subst z
  · simp (decide := true) only [chk_p, lt_p, bd_p, bc_p, oc_n, oc_s, and_self, and_true, true_and, if_true, if_false, isO_sA', isO_sB', isO_rA', hlen_sA, hlen_sB, hlen_rA, hR_sA, hR_sB, hR_rA, Typ_sA', Typ_sB', Typ_rA', O1, r1_0, r1_1, r1_2, r1_3, r1_5, r1_6, r1_7, h]
  · simp (decide := true) only [if_false, chk_p, lt_p, bd_p, bc_p, oc_n, oc_s, and_self, and_true, true_and, if_true, if_false, isO_sA', isO_sB', isO_rA', hlen_sA, hlen_sB, hlen_rA, hR_sA, hR_sB, hR_rA, Typ_sA', Typ_sB', Typ_rA', O1, r1_0, r1_1, r1_2, r1_3, r1_5, r1_6, r1_7, h]
  · simp (decide := true) only [if_false, chk_p, lt_p, bd_p, bc_p, oc_n, oc_s, and_self, and_true, true_and, if_true, if_false, isO_sA', isO_sB', isO_rA', hlen_sA, hlen_sB, hlen_rA, hR_sA, hR_sB, hR_rA, Typ_sA', Typ_sB', Typ_rA', O1, r1_0, r1_1, r1_2, r1_3, r1_5, r1_6, r1_7, h]
def up1 (V : Nat → Int32) (s : Nat) (v : Int32) (i : Nat) : Int32 := if i = s then v else V i
theorem set_inv {σ : HS} {V S C : Nat → Int32} {n : Nat} {FS : Nat → FM} (I : INV σ V S C n FS) {s k : Nat} (hs : s < 6) (hk : k < 3) {v : Int32} (hv : (if k = 0 then -99 else 0) ≤ v.toInt ∧ v.toInt ≤ (if k = 1 then 20 else 99)) :
    INV (sA (sA σ (2 + k) s v) 49 (3 * s + k) v) (if k = 0 then up1 V s v else V) (if k = 1 then up1 S s v else S) (if k = 2 then up1 C s v else C) n FS := by
  obtain ⟨t, h1, h2, ⟨t0, B, h3⟩, ⟨p, PS, PW, PV, h4⟩, h5, h6, h7⟩ := I
  have hk3 : k = 0 ∨ k = 1 ∨ k = 2 := by omega
  have q : KL [2, 3, 4, 49] [] [] σ (sA (sA σ (2 + k) s v) 49 (3 * s + k) v) := (KL_sA (by decide) (by decide) (by rcases hk3 with z | z | z <;> subst z <;> decide) (fun z => by omega)).seq (KL_sA (by decide) (by decide) (by decide) (fun z => by omega))
  refine ⟨Kq.typ q t, fun i hi => ?_, Kq.fm q t (by decide) (by decide) (by decide) (by decide) (Kq.A q (Nat.lt_of_lt_of_le (by decide) t.1) (by decide) 4) (by decide) (by decide) (by decide) (by decide) (by decide) h2, ⟨t0, B, Kq.tap q t (by decide) (by decide) (by decide) (by decide) h3⟩, ⟨p, PS, PW, PV, Kq.pl q t (by decide) (by decide) (by decide) (by decide) (Kq.A q (Nat.lt_of_lt_of_le (by decide) t.1) (by decide) 8) (by decide) (by decide) (by decide) (by decide) h4⟩, Kq.lst q t (by decide) (by decide) (by decide) (by decide) h5, Kq.way q t (Kq.A q (Nat.lt_of_lt_of_le (by decide) t.1) (by decide) 8) (by decide) (by decide) (by decide) h6, Kq.img q t (Kq.A q (Nat.lt_of_lt_of_le (by decide) t.1) (by decide) 2) (by decide) (by decide) (by decide) (by decide) (fun j hj => by
    have h16 : j = 9 ∨ j = 10 ∨ j = 11 ∨ j = 12 ∨ j = 13 ∨ j = 14 ∨ j = 15 ∨ j = 16 ∨ j = 50 ∨ j = 56 ∨ j = 57 ∨ j = 58 ∨ j = 59 ∨ j = 60 ∨ j = 72 := by omega
    rcases h16 with z | z | z | z | z | z | z | z | z | z | z | z | z | z | z <;> subst z <;> decide) h7⟩
  obtain ⟨⟨a1, a2, a3⟩, ⟨b1, b2, b3⟩, r1, r2, r3⟩ := h1 i hi
  have n1 : ∀ j, j < 3 → (3 * i + j = 3 * s + k) = (i = s ∧ j = k) := fun j hj => propext ⟨fun z => by omega, fun z => by omega⟩
  have n0 : (3 * i = 3 * s + k) = (i = s ∧ k = 0) := propext ⟨fun z => by omega, fun z => by omega⟩
  simp only [hA_sA, n1 1 (by omega), n1 2 (by omega), n0]
  rcases hk3 with z | z | z <;> subst z
  · by_cases e : i = s
    · subst e
      simp only [up1, and_self, and_true, true_and, if_true, show ¬ (2 = 49) by decide, show ¬ (2 + 1 = 49) by decide, show ¬ (2 + 2 = 49) by decide, show ¬ (1 = 0) by decide, show ¬ (2 = 0) by decide, show ¬ (2 + 1 = 2 + 0) by decide, show ¬ (2 + 2 = 2 + 0) by decide, show ¬ (0 = 1) by decide, show ¬ (0 = 2) by decide, show ¬ (49 = 2 + 0) by decide, show (2 = 2 + 0) = True from eq_true rfl, false_and, and_false, if_false, a2, a3, b2, b3]
      exact ⟨hv, r2, r3⟩
    · simp only [up1, e, and_self, and_true, true_and, if_true, show ¬ (2 = 49) by decide, show ¬ (2 + 1 = 49) by decide, show ¬ (2 + 2 = 49) by decide, show ¬ (0 = 1) by decide, show ¬ (0 = 2) by decide, show ¬ (49 = 2 + 0) by decide, false_and, and_false, if_false, a1, a2, a3, b1, b2, b3]
      exact ⟨r1, r2, r3⟩
  · by_cases e : i = s
    · subst e
      simp only [up1, and_self, and_true, true_and, if_true, show ¬ (2 = 49) by decide, show ¬ (2 + 1 = 49) by decide, show ¬ (2 + 2 = 49) by decide, show ¬ (1 = 0) by decide, show ¬ (2 = 1) by decide, show ¬ (2 = 2 + 1) by decide, show ¬ (2 + 2 = 2 + 1) by decide, show ¬ (0 = 1) by decide, show ¬ (1 = 2) by decide, show ¬ (49 = 2 + 1) by decide, false_and, and_false, if_false, a1, a3, b1, b3]
      exact ⟨r1, hv, r3⟩
    · simp only [up1, e, and_self, and_true, true_and, if_true, show ¬ (2 = 49) by decide, show ¬ (2 + 1 = 49) by decide, show ¬ (2 + 2 = 49) by decide, show ¬ (1 = 0) by decide, show ¬ (1 = 2) by decide, show ¬ (49 = 2 + 1) by decide, false_and, and_false, if_false, a1, a2, a3, b1, b2, b3]
      exact ⟨r1, r2, r3⟩
  · by_cases e : i = s
    · subst e
      simp only [up1, and_self, and_true, true_and, if_true, show ¬ (2 = 49) by decide, show ¬ (2 + 1 = 49) by decide, show ¬ (2 + 2 = 49) by decide, show ¬ (2 = 0) by decide, show ¬ (1 = 2) by decide, show ¬ (2 = 2 + 2) by decide, show ¬ (2 + 1 = 2 + 2) by decide, show ¬ (2 = 1) by decide, show ¬ (49 = 2 + 2) by decide, false_and, and_false, if_false, a1, a2, b1, b2]
      exact ⟨r1, r2, hv⟩
    · simp only [up1, e, and_self, and_true, true_and, if_true, show ¬ (2 = 49) by decide, show ¬ (2 + 1 = 49) by decide, show ¬ (2 + 2 = 49) by decide, show ¬ (2 = 0) by decide, show ¬ (2 = 1) by decide, show ¬ (49 = 2 + 2) by decide, false_and, and_false, if_false, a1, a2, a3, b1, b2, b3]
      exact ⟨r1, r2, r3⟩
