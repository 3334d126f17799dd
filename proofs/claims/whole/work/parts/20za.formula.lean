/-! formula -/
theorem cont_f {S S' : List Nat} (h : ∀ j, j ∈ S → j ∈ S') {j : Nat} (g : S'.contains j = false) : S.contains j = false := by
  cases hc : S.contains j with
  | false => rfl
  | true => exact absurd ((cont_t (h j (List.contains_iff_mem.mp hc))).symm.trans g) (by decide)
theorem PF.kl {m : Nat} {σ σ' : HS} (h : PF m σ σ') : KL [48, 51, 52, 53, 54, 55] [7, 16, 17, 18, 19] [] σ σ' := ⟨Nat.le_of_eq h.1.1.symm, fun j _ => ⟨h.1.ty j, h.1.len j⟩, fun j _ => h.1.Rr j, fun j _ hj => h.1.2.2.2.2 j (fun z => absurd ((cont_t z).symm.trans hj) (by decide)), fun k hk => h.2.1 k (by
  have : ¬ (k = 7 ∨ k = 16 ∨ k = 17 ∨ k = 18 ∨ k = 19) := fun z => by
    rcases z with z | z | z | z | z <;> subst z <;> exact absurd hk (by decide)
  omega), fun j hj => cont_76 (by decide) hj, fun j _ hj => tsok_e (by decide) hj⟩
/-- what the tape reads to -/
def rdR (t : Nat) (B : Nat → Nat) : RR := prs t B 21 0 0 0 emp
def okR (t : Nat) (res : RR) : Option FM := match res.2 with
  | none => none
  | some x => if t ≤ res.1 then some x.1 else none
theorem okR_n {t : Nat} {res : RR} (h : res.2 = none) : okR t res = none := by unfold okR; rw [h]
theorem okR_s {t : Nat} {res : RR} {x : FM × Nat} (h : res.2 = some x) (c : t ≤ res.1) : okR t res = some x.1 := by unfold okR; rw [h]; exact if_pos c
theorem okR_f {t : Nat} {res : RR} {x : FM × Nat} (h : res.2 = some x) (c : ¬ t ≤ res.1) : okR t res = none := by unfold okR; rw [h]; exact if_neg c
theorem rd_ok {t : Nat} {B : Nat → Nat} (hb : TB t B) : (rdR t B).1 ≤ t ∧ ∀ x, (rdR t B).2 = some x → x.2 + 1 = mN x.1 ∧ mN x.1 ≤ 60 ∧ Good x.1 := by
  have t60 := hb.1
  obtain ⟨f1, f2, f3⟩ := prs_ok (B := B) hb.1 21 0 0 0 emp (Nat.zero_le _)
  refine ⟨f2, fun x hx => ?_⟩
  obtain ⟨g1, g2, g3, g4, g5⟩ := f3 x hx
  have e0 : mN emp = 0 := rfl
  rw [e0] at g2 g3
  have f2' : (rdR t B).1 ≤ t := f2
  have g2' : mN x.1 + 0 ≤ 0 + (rdR t B).1 := g2
  exact ⟨g4, by omega, BLK_good g3 (by omega)⟩
theorem x_read {t : Nat} {B : Nat → Nat} {σ : HS} (ty : Typ σ) (hb : TB t B) (h1 : hA σ 17 1 = nI t) (h2 : ∀ k, k < t → hA σ 18 k = nI (B k)) : ∃ r8 σx, f_X3_readFormula 17 σ = some (r8, σx) ∧ KL [17, 19, 20, 21, 22, 23] [] [] σ σx ∧ hA σx 17 2 = nI (rdR t B).1 ∧ (okR t (rdR t B) = none → r8 = none) ∧ ∀ Φ, okR t (rdR t B) = some Φ → ∃ φ, r8 = some φ ∧ XF σx φ Φ ∧ XI σx φ Φ := by
  have t60 := hb.1
  obtain ⟨k1, k2⟩ := rd_ok hb
  have x0 : XS0 (sA (sA σ 17 2 0) 17 8 0) t B 0 := by
    refine ⟨ty, ?_, fun i hi => ?_, ?_⟩
    · rw [hA_sA, if_neg (by omega), hA_sA, if_neg (by omega)]; exact h1
    · rw [hA_sA, if_neg (by omega), hA_sA, if_neg (by omega)]; exact h2 i hi
    · rw [hA_sA, if_neg (by omega), hA_sA, if_pos ⟨rfl, rfl⟩]; rfl
  have T0 : TPr (sA (sA σ 17 2 0) 17 8 0) emp := ⟨by rw [hA_sA, if_pos ⟨rfl, rfl⟩]; rfl, fun i hi => absurd hi (Nat.not_lt_zero i)⟩
  obtain ⟨r, σ1, e1, f1, x1, y0, y1⟩ := x_prs hb 21 0 0 (by omega) (by omega) (by omega) 40 (by omega) _ 0 emp x0 T0 (Nat.zero_le _) (Nat.le_refl _)
  have e1' : f_X3_readSum 17 0 (sA (sA σ 17 2 0) 17 8 0) = some (r, σ1) := e1
  change XS0 σ1 t B (rdR t B).1 at x1
  change (rdR t B).2 = none → _ at y0
  change ∀ x, (rdR t B).2 = some x → _ at y1
  have q0 : KL [17, 19, 20, 21, 22, 23] [] [] σ σ1 := ((KL_sA (by decide) (by decide) (by decide) (fun z => by omega)).seq (KL_sA (by decide) (by decide) (by decide) (fun z => by omega))).seq (f1.kl (by decide) (by decide) (fun j hj => hj) (by decide))
  unfold f_X3_readFormula
  rw [chk_p (o17 ty), lt_p, lt_p, e1', bc_p, chk_p (Nat.le_of_eq f1.1.symm)]
  cases hr : (rdR t B).2 with
  | none =>
    rw [y0 hr, if_pos rfl, okR_n hr]
    exact ⟨none, σ1, rfl, q0, x1.2.2.2, fun _ => rfl, fun Φ h => by cases h⟩
  | some x =>
    obtain ⟨r1, r2⟩ := y1 x hr
    obtain ⟨w1, w2, w3⟩ := k2 x hr
    have le : (nI t ≤ nI (rdR t B).1) = (t ≤ (rdR t B).1) := propext (nI_leI (by omega) (by omega))
    rw [r1, if_neg (of_eq_false (nIm1 (a := x.2) (by omega))), chk_p (o17 x1.1), x1.2.2.2, lt_p, x1.2.1, lt_p]
    by_cases c : t ≤ (rdR t B).1
    · obtain ⟨σ2, e2, g1, g2, g3⟩ := x_init x1.1 r2 w3
      rw [if_pos (of_eq_true (le.trans (eq_true c))), okR_s hr c, lt_p, lt_p, e2, bc_p]
      have t76 := x1.1.1
      exact ⟨some (hN σ1), σ2, rfl, q0.seq (g1.kl x1.1 (by decide) (by decide)), (g1.A (by omega) 2).trans x1.2.2.2, fun h => (by cases h), fun Φ h => by cases h; exact ⟨hN σ1, rfl, g2, g3⟩⟩
    · rw [if_neg (of_eq_false (le.trans (eq_false c))), okR_f hr c]
      exact ⟨none, σ1, rfl, q0, x1.2.2.2, fun _ => rfl, fun Φ h => by cases h⟩
def ansF (t n : Nat) (B : Nat → Nat) : Int32 := if okR t (rdR t B) = none then -100 - nI (rdR t B).1 else if n = 6 then -4 else nI n
theorem m_read {t n : Nat} {B : Nat → Nat} {σ : HS} (ty : Typ σ) (hb : TB t B) (h1 : hA σ 48 16 = nI t) (h2 : ∀ k, k < t → hA σ 61 k = nI (B k)) (h7 : hA σ 48 7 = nI n) (hn : n ≤ 6) : ∃ σ', f_X6_formula 48 σ = some (ansF t n B, σ') ∧ KL [48, 51, 52, 53, 54, 55] [7, 16, 17, 18, 19] [] σ σ' ∧ hA σ' 48 16 = 0 ∧ hA σ' 48 7 = nI (if okR t (rdR t B) = none then n else if n = 6 then n else n + 1) ∧ (∀ j i, 51 ≤ j → j ≤ 54 → i < 60 * n → hA σ' j i = hA σ j i) ∧ (∀ i, i < n → hA σ' 55 i = hA σ 55 i) ∧ ∀ Φ, okR t (rdR t B) = some Φ → MF σ' n Φ := by
  have t60 := hb.1
  obtain ⟨k1, k2⟩ := rd_ok hb
  have ie := inbE (i := n) (n := 7) (by omega) (by omega)
  have ci := cl1000 (i := n) (by omega)
  have s1 : PF n σ (sA (sA (sA σ 48 17 0) 48 18 0) 48 19 1) := ((PF_s (by omega) (by omega)).seq (PF_s (by omega) (by omega))).seq (PF_s (by omega) (by omega))
  have s2 : PF n (sA (sA (sA σ 48 17 0) 48 18 0) 48 19 1) (sA (sA (sA (sA σ 48 17 0) 48 18 0) 48 19 1) 55 n 0) := ⟨Fr_sA (by simp), fun k hk => by rw [hA_sA, if_neg (by omega)], fun _ _ => rfl, fun j i a b c => by rw [hA_sA, if_neg (by omega)], fun i hi => by rw [hA_sA, if_neg (by omega)]⟩
  have s3 := s1.seq s2
  have x0 : MS0 (sA (sA (sA (sA σ 48 17 0) 48 18 0) 48 19 1) 55 n 0) t B 0 n := by
    refine ⟨ty, (s3.2.1 16 (by omega)).trans h1, fun i hi => (s3.1.A (by simp) i).trans (h2 i hi), ?_, (s3.2.1 7 (by omega)).trans h7, hn⟩
    simp (decide := true) only [hA_sA, false_and, and_false, and_self, if_true, if_false]
  have T0 : MTT (sA (sA (sA (sA σ 48 17 0) 48 18 0) 48 19 1) 55 n 0) 0 n emp := by
    refine ⟨?_, ?_, ?_, fun i hi => absurd hi (Nat.not_lt_zero i)⟩
    · simp (decide := true) only [hA_sA, false_and, and_false, and_self, if_true, if_false]
    · simp (decide := true) only [hA_sA, false_and, and_false, and_self, if_true, if_false]
    · simp (decide := true) only [hA_sA, and_self, if_true]
  obtain ⟨r, σ1, e1, f1, x1, y0, y1⟩ := m_prs hb 21 0 0 (by omega) (by omega) (by omega) 60 (by omega) _ 0 emp x0 T0 (Nat.zero_le _) (Nat.le_refl _)
  have e1' : f_X6_sums 48 (sA (sA (sA (sA σ 48 17 0) 48 18 0) 48 19 1) 55 n 0) = some (r, σ1) := e1
  change MS0 σ1 t B (rdR t B).1 n at x1
  change (rdR t B).2 = none → _ at y0
  change ∀ x, (rdR t B).2 = some x → _ at y1
  have f2 := s3.seq f1
  have v7 : hA (sA (sA (sA σ 48 17 0) 48 18 0) 48 19 1) 48 7 = nI n := (s1.2.1 7 (by omega)).trans h7
  have x7 := x1.2.2.2.2.1
  have x17 := x1.2.2.2.1
  have nq : hA (sA σ1 48 16 0) 48 17 = nI (rdR t B).1 := by rw [hA_sA, if_neg (by omega)]; exact x17
  have n7 : hA (sA σ1 48 16 0) 48 7 = nI n := by rw [hA_sA, if_neg (by omega)]; exact x7
  have K1 : KL [48, 51, 52, 53, 54, 55] [7, 16, 17, 18, 19] [] σ (sA σ1 48 16 0) := f2.kl.seq (KL_sA (by decide) (by decide) (by decide) (fun _ => by decide))
  have K2 : KL [48, 51, 52, 53, 54, 55] [7, 16, 17, 18, 19] [] σ (sA (sA σ1 48 16 0) 48 7 (nI (n + 1))) := K1.seq (KL_sA (by decide) (by decide) (by decide) (fun _ => by decide))
  have a16 : hA (sA σ1 48 16 0) 48 16 = 0 := by rw [hA_sA, if_pos ⟨rfl, rfl⟩]
  have R1 : ∀ v w j i, 51 ≤ j → j ≤ 54 → i < 60 * n → hA (sA (sA σ1 48 16 v) 48 7 w) j i = hA σ j i := fun v w j i a b c => by rw [hA_sA, if_neg (by omega), hA_sA, if_neg (by omega)]; exact f2.2.2.2.1 j i a b (Or.inl c)
  have R2 : ∀ v j i, 51 ≤ j → j ≤ 54 → i < 60 * n → hA (sA σ1 48 16 v) j i = hA σ j i := fun v j i a b c => by rw [hA_sA, if_neg (by omega)]; exact f2.2.2.2.1 j i a b (Or.inl c)
  have R3 : ∀ v w i, i < n → hA (sA (sA σ1 48 16 v) 48 7 w) 55 i = hA σ 55 i := fun v w i hi => by rw [hA_sA, if_neg (by omega), hA_sA, if_neg (by omega)]; exact f2.2.2.2.2 i (by omega)
  have R4 : ∀ v i, i < n → hA (sA σ1 48 16 v) 55 i = hA σ 55 i := fun v i hi => by rw [hA_sA, if_neg (by omega)]; exact f2.2.2.2.2 i (by omega)
  unfold f_X6_formula
  rw [chk_p (o48 ty), lt_p, lt_p, lt_p, r48_6 (show Typ (sA (sA (sA σ 48 17 0) 48 18 0) 48 19 1) from ty), bd_p, v7, lt_p, chk_p ⟨(o55 ty : _), by rw [show hlen (sA (sA (sA σ 48 17 0) 48 18 0) 48 19 1) 55 = 7 from l55 ty]; exact of_eq_true ie⟩, ci, lt_p, e1', bc_p, chk_p (o48 x1.1)]
  unfold ansF
  cases hr : (rdR t B).2 with
  | none =>
    have ho := okR_n (t := t) hr
    rw [y0 hr, lt_p, if_pos rfl, lt_p, lt_p, if_pos rfl, nq, lt_p, if_pos ho, if_pos ho, ho]
    exact ⟨_, rfl, K1, a16, n7, R2 0, R4 0, fun Φ h => by cases h⟩
  | some x =>
    obtain ⟨r1, r2⟩ := y1 x hr
    obtain ⟨w1, w2, w3⟩ := k2 x hr
    have ee : (nI (rdR t B).1 = nI t) = ((rdR t B).1 = t) := nE (by omega) (by omega)
    rw [r2.1, lt_p, if_neg (by decide), x17, lt_p, x1.2.1, lt_p]
    by_cases c : t ≤ (rdR t B).1
    · have c' : (rdR t B).1 = t := by omega
      have e6 : (nI n = 6) = (n = 6) := nEc (by omega) 6 (by decide)
      have hne : ¬ okR t (rdR t B) = none := fun z => by rw [okR_s hr c] at z; cases z
      rw [if_pos (of_eq_true (ee.trans (eq_true c'))), lt_p, lt_p, if_neg (by decide), n7, lt_p, if_neg hne, if_neg hne, okR_s hr c]
      by_cases c6 : n = 6
      · rw [if_pos (of_eq_true (e6.trans (eq_true c6))), if_pos c6, if_pos c6]
        exact ⟨_, rfl, K1, a16, n7, R2 0, R4 0, fun Φ h => by cases h; exact MF_s r2.2.2⟩
      · rw [if_neg (of_eq_false (e6.trans (eq_false c6))), if_neg c6, if_neg c6, lt_p, nI_s, lt_p, hA_sA, if_pos ⟨rfl, rfl⟩, lt_p, nI_pred]
        exact ⟨_, rfl, K2, by rw [hA_sA, if_neg (by omega)]; exact a16, by rw [hA_sA, if_pos ⟨rfl, rfl⟩], R1 0 _, R3 0 _, fun Φ h => by cases h; exact MF_s (MF_s r2.2.2)⟩
    · have ho := okR_f hr c
      rw [if_neg (of_eq_false (ee.trans (eq_false (by omega)))), lt_p, lt_p, if_pos rfl, nq, lt_p, if_pos ho, if_pos ho, ho]
      exact ⟨_, rfl, K1, a16, n7, R2 0, R4 0, fun Φ h => by cases h⟩
theorem okR_good {t : Nat} {B : Nat → Nat} (hb : TB t B) {Φ : FM} (h : okR t (rdR t B) = some Φ) : Good Φ := by
  obtain ⟨k1, k2⟩ := rd_ok hb
  cases hr : (rdR t B).2 with
  | none => rw [okR_n hr] at h; cases h
  | some x =>
    by_cases c : t ≤ (rdR t B).1
    · rw [okR_s hr c] at h; cases h; exact (k2 x hr).2.2
    · rw [okR_f hr c] at h; cases h
def upF (FS : Nat → FM) (n : Nat) (Φ : FM) (k : Nat) : FM := if k = n then Φ else FS k
theorem op_formula : OpOK (f_X5_formula 0) (f_X6_formula 48) := by
  intro σ V S C n FS I
  have t := I.1
  obtain ⟨-, h1, ⟨h6, hg, e1, e2, ex, em, er⟩, ⟨m, B, hm, t1, t2, t3⟩, ⟨p, PS, PW, PV, h4⟩, h5, h6', h7⟩ := I
  have hb : TB m B := ⟨hm, fun k hk => (t3 k hk).2.2⟩
  have t76 := t.1
  obtain ⟨r8, σx, u1, u2, u3, u4, u5⟩ := x_read t hb t1 (fun k hk => (t3 k hk).1)
  have tx : Typ σx := Kq.typ u2 t
  have ts : Typ (sA σx 17 1 0) := tx
  have q1 : KL [17, 19, 20, 21, 22, 23] [] [] σ (sA σx 17 1 0) := u2.seq (KL_sA (by decide) (by decide) (by decide) (fun z => by omega))
  have a17 : hA (sA σx 17 1 0) 17 2 = nI (rdR m B).1 := by rw [hA_sA, if_neg (by omega)]; exact u3
  have v4 : hA (sA σx 17 1 0) 1 4 = nI n := (Kq.A q1 (by omega) (by decide) 4).trans e1
  have z17 : hA (sA σx 17 1 0) 17 1 = 0 := by rw [hA_sA, if_pos ⟨rfl, rfl⟩]
  have cls : f_X5_formula 0 σ = (oc r8 (some (((-100 : Int32) - nI (rdR m B).1), sA σx 17 1 0)) (fun i26 => if nI n < (6 : Int32) then
      chk (isO (sA σx 17 1 0) 13 5 ∧ inb (nI n) (hlen (sA σx 17 1 0) 5)) (chk (okF (sA σx 17 1 0) (some i26) = true) (some (nI n, sA (sR (sA σx 17 1 0) 5 (nI n).toNatClampNeg (some i26)) 1 4 (nI (n + 1)))))
      else some (-4, sA σx 17 1 0))) := by
    have v4' : ∀ k v, hA (sR (sA σx 17 1 0) 5 k v) 1 4 = nI n := fun k v => v4
    have rr : ∀ k v, hR (sR (sA σx 17 1 0) 5 k v) 0 0 = some 1 := fun k v => by rw [hR_sR, if_neg (by omega)]; exact r0_0 ts
    have oo : ∀ k v, isO (sR (sA σx 17 1 0) 5 k v) 2 1 := fun k v => by rw [isO_sR']; exact o1 ts
    unfold f_X5_formula
    rw [chk_p (o0 t), r0_3 t, bd_p, chk_p (o17 t), u1, bc_p, chk_p (o0 tx), r0_3 tx, bd_p, chk_p (o17 tx), lt_p, r0_3 ts, bd_p, chk_p (o17 ts), a17, lt_p]
    congr 1
    funext i26
    rw [r0_0 ts, bd_p, chk_p (o1 ts), v4, lt_p]
    by_cases c : nI n < (6 : Int32)
    · rw [if_pos c, if_pos c, chk_p (o1 ts), lt_p, chk_p (o1 ts), r1_3 ts, bd_p]
      congr 1
      congr 1
      rw [lt_p, rr, bd_p, chk_p (oo _ _), v4', lt_p, nI_s, lt_p]
    · rw [if_neg c, if_neg c]
  have l6 : (nI n < 6) = (n < 6) := propext (nI_ltI (b := 6) (by omega) (by omega))
  by_cases c3 : okR m (rdR m B) = none ∨ n = 6
  · -- nothing comes of it
    obtain ⟨σ2, m1, m2, m3, m4, m5, m6, m7⟩ := m_read (σ := sA σx 17 1 0) ts hb ((q1.2.2.2.2.1 16 (by decide)).trans t2) (fun k hk => (Kq.A q1 (by omega) (by decide) k).trans (t3 k hk).2.1) ((q1.2.2.2.2.1 7 (by decide)).trans e2) h6
    have fx : f_X5_formula 0 σ = some (ansF m n B, sA σx 17 1 0) := by
      rw [cls]
      unfold ansF
      by_cases c : okR m (rdR m B) = none
      · rw [if_pos c, u4 c, oc_n]
      · have n6 := c3.resolve_left c
        obtain ⟨Φ, hΦ⟩ := Option.ne_none_iff_exists'.mp c
        obtain ⟨φ, p1, p2, p3⟩ := u5 Φ hΦ
        rw [if_neg c, if_pos n6, p1, oc_s, if_neg (of_eq_false (l6.trans (eq_false (by omega))))]
    have m4' : hA σ2 48 7 = nI n := by
      rw [m4]
      by_cases c : okR m (rdR m B) = none
      · rw [if_pos c]
      · rw [if_neg c, if_pos (c3.resolve_left c)]
    have q : KL [17, 19, 20, 21, 22, 23, 48, 51, 52, 53, 54, 55] [7, 16, 17, 18, 19] [] σ σ2 := (q1.mono (by decide) (by decide) (by decide) (by decide) (by decide)).seq (m2.mono (by decide) (by decide) (by decide) (by decide) (by decide))
    refine ⟨_, _, σ2, fx, ts, q1.1, m1, m2.1, V, S, C, n, FS, Kq.typ q t, Kq.src q t (by decide) (by decide) (by decide) (by decide) (by decide) (by decide) h1, ?_, ⟨0, B, Nat.zero_le _, (Kq.A m2 (by have := ts.1; omega) (by decide) 1).trans z17, m3, fun k hk => by omega⟩, ⟨p, PS, PW, PV, Kq.pl q t (by decide) (by decide) (by decide) (by decide) (Kq.A q (by omega) (by decide) 8) (by decide) (by decide) (by decide) (by decide) h4⟩, Kq.lst q t (by decide) (by decide) (lst4 (by decide)) (by decide) h5, Kq.way q t (Kq.A q (Nat.lt_of_lt_of_le (by decide) t.1) (by decide) 8) (by decide) (by decide) (by decide) h6', Kq.img q t (Kq.A q (Nat.lt_of_lt_of_le (by decide) t.1) (by decide) 2) (by decide) (by decide) (by decide) (by decide) (imgrows (by decide)) h7⟩
    refine ⟨h6, hg, (Kq.A q (by omega) (by decide) 4).trans e1, m4', fun i hi => ?_, fun f hf => ?_, fun i hi => ?_⟩
    · obtain ⟨φ, g1, g2, g3⟩ := ex i hi
      exact ⟨φ, (congrFun (q.2.2.1 5 (Or.inl ⟨by decide, by decide⟩)) i).trans g1, Kq.xf q g2, Kq.xi q g2 g3⟩
    · obtain ⟨w1, w2⟩ := em f hf
      refine ⟨(m6 f hf).trans ((Kq.A q1 (by omega) (by decide) f).trans w1), fun i hi => ?_⟩
      obtain ⟨g1, g2, g3, g4⟩ := w2 i hi
      have n60 := (hg f hf).1.2.1
      exact ⟨(m5 51 _ (by omega) (by omega) (by omega)).trans ((Kq.A q1 (by omega) (by decide) _).trans g1), (m5 52 _ (by omega) (by omega) (by omega)).trans ((Kq.A q1 (by omega) (by decide) _).trans g2), (m5 53 _ (by omega) (by omega) (by omega)).trans ((Kq.A q1 (by omega) (by decide) _).trans g3), (m5 54 _ (by omega) (by omega) (by omega)).trans ((Kq.A q1 (by omega) (by decide) _).trans g4)⟩
    · rw [congrFun (q.2.2.1 5 (Or.inl ⟨by decide, by decide⟩)) i]; exact Kq.okk q (er i hi)
  · have c : okR m (rdR m B) ≠ none := fun z => c3 (Or.inl z)
    have n6 : n < 6 := by
      have : n ≠ 6 := fun z => c3 (Or.inr z)
      omega
    obtain ⟨Φ, hΦ⟩ := Option.ne_none_iff_exists'.mp c
    obtain ⟨φ, p1, p2, p3⟩ := u5 Φ hΦ
    have ie := inbE (i := n) (n := 6) n6 (by omega)
    have ci := cl1000 (i := n) (by omega)
    have okφ : okF (sA σx 17 1 0) (some φ) = true := by
      simp only [okF, Bool.and_eq_true, decide_eq_true_eq]
      exact p2.1.2.1
    have tr : Typ (sR (sA σx 17 1 0) 5 n (some φ)) := of_eq_true (Typ_sR5 ts)
    have ts1 : Typ (sA (sR (sA σx 17 1 0) 5 n (some φ)) 1 4 (nI (n + 1))) := tr
    have qb : KL [1, 17, 19, 20, 21, 22, 23] [] [5] σx (sA (sR (sA σx 17 1 0) 5 n (some φ)) 1 4 (nI (n + 1))) := ((KL_sA (by decide) (by decide) (by decide) (fun z => by omega)).seq (KL_sR (by decide) (by decide) (by decide) (by rw [show hty (sA σx 17 1 0) 5 = hty σx 5 from rfl, (o5 tx).2]; decide))).seq (KL_sA (by decide) (by decide) (by decide) (fun z => by omega))
    have q1' : KL [1, 17, 19, 20, 21, 22, 23] [] [5] σ (sA (sR (sA σx 17 1 0) 5 n (some φ)) 1 4 (nI (n + 1))) := (u2.mono (by decide) (by decide) (by decide) (by decide) (by decide)).seq qb
    have fx : f_X5_formula 0 σ = some (ansF m n B, sA (sR (sA σx 17 1 0) 5 n (some φ)) 1 4 (nI (n + 1))) := by
      rw [cls]
      unfold ansF
      rw [if_neg c, if_neg (show ¬ n = 6 by omega), p1, oc_s, if_pos (of_eq_true (l6.trans (eq_true n6))), chk_p ⟨o5 ts, by rw [l5 ts]; exact of_eq_true ie⟩, chk_p okφ, ci]
    have w14 : hA (sA (sR (sA σx 17 1 0) 5 n (some φ)) 1 4 (nI (n + 1))) 1 4 = nI (n + 1) := by rw [hA_sA, if_pos ⟨rfl, rfl⟩]
    have w18 : hA (sA (sR (sA σx 17 1 0) 5 n (some φ)) 1 4 (nI (n + 1))) 1 8 = hA σ 1 8 := by
      rw [hA_sA, if_neg (by omega), hA_sR, hA_sA, if_neg (by omega)]
      exact Kq.A u2 (by omega) (by decide) 8
    have w17 : hA (sA (sR (sA σx 17 1 0) 5 n (some φ)) 1 4 (nI (n + 1))) 17 1 = 0 := by
      rw [hA_sA, if_neg (by omega), hA_sR]; exact z17
    have wR : ∀ k, hR (sA (sR (sA σx 17 1 0) 5 n (some φ)) 1 4 (nI (n + 1))) 5 k = if k = n then some φ else hR σ 5 k := fun k => by
      rw [hR_sA, hR_sR]
      by_cases z : k = n
      · rw [if_pos ⟨rfl, z⟩, if_pos z]
      · rw [if_neg (fun y => z y.2), if_neg z, hR_sA]
        exact congrFun (u2.2.2.1 5 (Or.inl ⟨by decide, by decide⟩)) k
    generalize sA (sR (sA σx 17 1 0) 5 n (some φ)) 1 4 (nI (n + 1)) = σ1 at *
    obtain ⟨σ2, m1, m2, m3, m4, m5, m6, m7⟩ := m_read (σ := σ1) ts1 hb ((q1'.2.2.2.2.1 16 (by decide)).trans t2) (fun k hk => (Kq.A q1' (by omega) (by decide) k).trans (t3 k hk).2.1) ((q1'.2.2.2.2.1 7 (by decide)).trans e2) h6
    have s76 := ts1.1
    have m4' : hA σ2 48 7 = nI (n + 1) := by rw [m4, if_neg c, if_neg (by omega)]
    have q : KL [1, 17, 19, 20, 21, 22, 23, 48, 51, 52, 53, 54, 55] [7, 16, 17, 18, 19] [5] σ σ2 := (q1'.mono (by decide) (by decide) (by decide) (by decide) (by decide)).seq (m2.mono (by decide) (by decide) (by decide) (by decide) (by decide))
    have qx : KL [1, 17, 19, 20, 21, 22, 23, 48, 51, 52, 53, 54, 55] [7, 16, 17, 18, 19] [5] σx σ2 := (qb.mono (by decide) (by decide) (by decide) (by decide) (by decide)).seq (m2.mono (by decide) (by decide) (by decide) (by decide) (by decide))
    have wR2 : ∀ k, hR σ2 5 k = if k = n then some φ else hR σ 5 k := fun k => (congrFun (m2.2.2.1 5 (Or.inl ⟨by decide, by decide⟩)) k).trans (wR k)
    refine ⟨_, σ1, σ2, fx, ts1, q1'.1, m1, m2.1, V, S, C, n + 1, upF FS n Φ, Kq.typ q t, Kq.src q t (by decide) (by decide) (by decide) (by decide) (by decide) (by decide) h1, ?_, ⟨0, B, Nat.zero_le _, (Kq.A m2 (by omega) (by decide) 1).trans w17, m3, fun k hk => by omega⟩, ⟨p, PS, PW, PV, Kq.pl q t (by decide) (by decide) (by decide) (by decide) ((Kq.A m2 (by omega) (by decide) 8).trans w18) (by decide) (by decide) (by decide) (by decide) h4⟩, Kq.lst q t (by decide) (by decide) (lst4 (by decide)) (by decide) h5, Kq.way q t (Kq.A q (Nat.lt_of_lt_of_le (by decide) t.1) (by decide) 8) (by decide) (by decide) (by decide) h6', Kq.img q t (Kq.A q (Nat.lt_of_lt_of_le (by decide) t.1) (by decide) 2) (by decide) (by decide) (by decide) (by decide) (imgrows (by decide)) h7⟩
    refine ⟨by omega, fun k hk => ?_, (Kq.A m2 (by omega) (by decide) 4).trans w14, m4', fun i hi => ?_, fun f hf => ?_, fun i hi => ?_⟩
    · unfold upF
      by_cases z : k = n
      · rw [if_pos z]; exact okR_good hb hΦ
      · rw [if_neg z]; exact hg k (by omega)
    · unfold upF
      rw [wR2]
      by_cases z : i = n
      · rw [if_pos z, if_pos z]; exact ⟨φ, rfl, Kq.xf qx p2, Kq.xi qx p2 p3⟩
      · rw [if_neg z, if_neg z]
        obtain ⟨ψ, g1, g2, g3⟩ := ex i (by omega)
        exact ⟨ψ, g1, Kq.xf q g2, Kq.xi q g2 g3⟩
    · unfold upF
      by_cases z : f = n
      · rw [if_pos z, z]; exact m7 Φ hΦ
      · rw [if_neg z]
        have hf' : f < n := by omega
        obtain ⟨w1, w2⟩ := em f hf'
        refine ⟨(m6 f hf').trans ((Kq.A q1' (by omega) (by decide) f).trans w1), fun i hi => ?_⟩
        obtain ⟨g1, g2, g3, g4⟩ := w2 i hi
        have n60 := (hg f hf').1.2.1
        exact ⟨(m5 51 _ (by omega) (by omega) (by omega)).trans ((Kq.A q1' (by omega) (by decide) _).trans g1), (m5 52 _ (by omega) (by omega) (by omega)).trans ((Kq.A q1' (by omega) (by decide) _).trans g2), (m5 53 _ (by omega) (by omega) (by omega)).trans ((Kq.A q1' (by omega) (by decide) _).trans g3), (m5 54 _ (by omega) (by omega) (by omega)).trans ((Kq.A q1' (by omega) (by decide) _).trans g4)⟩
    · rw [wR2]
      by_cases z : i = n
      · rw [if_pos z]; exact Kq.okk qx (by
          have := okφ
          exact this)
      · rw [if_neg z]; exact Kq.okk q (er i hi)
