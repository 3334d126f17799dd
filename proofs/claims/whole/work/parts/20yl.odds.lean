/-! odds -/
def zs (z : Int32) : Nat → Int32
  | 0 => z
  | i + 1 => zs z i * 1103515245 + 12345
def dr (V S : Nat → Int32) (z : Int32) (s : Nat) : Int32 := (V s - S s) + (((zs z (s + 1) &&& (2147483647 : Int32)) / (65536 : Int32)) - ((zs z (s + 1) &&& (2147483647 : Int32)) / (65536 : Int32)) / (((2 : Int32) * S s) + (1 : Int32)) * (((2 : Int32) * S s) + (1 : Int32)))
def drI (V S : Nat → Int32) (z : Int32) (s : Nat) : Int := (dr V S z s).toInt
theorem nI_of20 {x : Int32} (h : 0 ≤ x.toInt) (h2 : x.toInt ≤ 20) : ∃ T : Nat, T ≤ 20 ∧ x = nI T := by
  rcases argC x 21 (by decide) with ⟨k, hk, e⟩ | z
  · exact ⟨k, by omega, e⟩
  · omega
theorem two_one (T : Nat) : (2 : Int32) * nI T + 1 = nI (2 * T + 1) := by
  rw [show (2 : Int32) = nI 2 from rfl, pk_mul, nI_s]
theorem dr_in {σ : HS} {φ f : Nat} {Φ : FM} {V S C : Nat → Int32} (h : CS σ φ f Φ V S C) (z : Int32) : ∀ s, s < 6 → LO V S s ≤ drI V S z s ∧ drI V S z s ≤ HI V S s := fun s hs => by
  obtain ⟨-, -, -, -, -, -, r0, r1, -⟩ := cs_val h hs
  obtain ⟨T, hT, eT⟩ := nI_of20 r1.1 r1.2
  unfold drI dr LO HI
  rw [if_pos hs, if_pos hs, eT, two_one, pk_and _ 31 (by decide), show (65536 : Int32) = nI 65536 from rfl]
  have b1 : (zs z (s + 1)).toBitVec.toNat % 2 ^ 31 < 2 ^ 31 := Nat.mod_lt _ (by decide)
  rw [pk_div b1 (by decide) (by decide)]
  have b2 : (zs z (s + 1)).toBitVec.toNat % 2 ^ 31 / 65536 < 2 ^ 31 := Nat.lt_of_le_of_lt (Nat.div_le_self _ _) b1
  rw [pk_rem b2 (by omega) (by omega)]
  have b3 : (zs z (s + 1)).toBitVec.toNat % 2 ^ 31 / 65536 % (2 * T + 1) < 2 * T + 1 := Nat.mod_lt _ (by omega)
  generalize (zs z (s + 1)).toBitVec.toNat % 2 ^ 31 / 65536 % (2 * T + 1) = r at b3 ⊢
  have e1 : (V s - nI T).toInt = (V s).toInt - T := by rw [i_sub (by omega) (by omega) (by rw [nT (by omega)]; omega) (by rw [nT (by omega)]; omega), nT (by omega)]
  rw [i_add (by rw [e1]; omega) (by rw [e1]; omega) (by rw [nT (by omega)]; omega) (by rw [nT (by omega)]; omega), e1, nT (by omega), nT (by omega)]
  omega
theorem m21 {σ : HS} {φ f : Nat} {Φ : FM} {V S C : Nat → Int32} (h : CS σ φ f Φ V S C) {s : Nat} (hs : s < 6) : ¬ ((2 : Int32) * S s + 1 = 0) := by
  obtain ⟨-, -, -, -, -, -, r0, r1, -⟩ := cs_val h hs
  obtain ⟨T, hT, eT⟩ := nI_of20 r1.1 r1.2
  rw [eT, two_one]
  exact fun z => by have := (nE (a := 2 * T + 1) (b := 0) (by omega) (by omega)).mp z; omega
theorem x_draw {φ f : Nat} {Φ : FM} {V S C : Nat → Int32} (z : Int32) : ∀ d i (σ : HS), CS σ φ f Φ V S C → (∀ s, s < i → hA σ 27 s = dr V S z s) → i + d = 6 → ∀ nf, d < nf → ∃ σ', lp_X4_drawBy_5 nf 24 z 1 (zs z i) (nI i) σ = some ((), σ') ∧ Kp σ σ' ∧ CS σ' φ f Φ V S C ∧ ∀ s, s < 6 → hA σ' 27 s = dr V S z s := by
  intro d
  induction d with
  | zero =>
    intro i σ h hat hi nf hnf
    obtain ⟨nf, rfl⟩ : ∃ k, nf = k + 1 := ⟨nf - 1, by omega⟩
    have : i = 6 := by omega
    subst this
    refine ⟨σ, ?_, Kp.rf, h, hat⟩
    show lp_X4_drawBy_5_b (lp_X4_drawBy_5 nf) 24 z 1 _ (nI 6) σ = _
    unfold lp_X4_drawBy_5_b
    exact if_pos (by decide)
  | succ d ih =>
    intro i σ h hat hi nf hnf
    obtain ⟨nf, rfl⟩ : ∃ k, nf = k + 1 := ⟨nf - 1, by omega⟩
    have hi6 : i < 6 := by omega
    have t := h.1
    have fr : Fr [27] σ (sA σ 27 i (dr V S z i)) := Fr_sA (by simp)
    have k : Kp σ (sA σ 27 i (dr V S z i)) := fr.kp (by decide)
    obtain ⟨σ', e1, e2, e3⟩ := ih (i + 1) (sA σ 27 i (dr V S z i)) (h.kp k) (fun s hs => by
      rw [hA_sA]
      by_cases y : s = i
      · rw [if_pos ⟨rfl, y⟩, y]
      · rw [if_neg (fun w => y w.2)]; exact hat s (by omega)) (by omega) nf (by omega)
    refine ⟨σ', ?_, k.seq e2, e3⟩
    have le : (6 : Int32) ≤ nI i ↔ False := by rw [show (6 : Int32) = nI 6 from rfl, nle (a := 6) (b := i) (by omega) (by omega)]
    have le := eq_false (fun z => le.mp z)
    have ie := inbE (i := i) (n := 6) (by omega) (by omega)
    have ci := cl1000 (i := i) (by omega)
    obtain ⟨v1, v2, -⟩ := cs_val h hi6
    have n0 := m21 h hi6
    rw [← e1]
    show lp_X4_drawBy_5_b (lp_X4_drawBy_5 nf) 24 z 1 _ (nI i) σ = _
    unfold lp_X4_drawBy_5_b
    simp only [le, if_false, chk_p, lt_p, bd_p, bc_p, oc_n, oc_s, and_self, and_true, true_and, if_true, if_false, isO_sA', isO_sB', isO_rA', hlen_sA, hlen_sB, hlen_rA, hR_sA, hR_sB, hR_rA, Typ_sA', Typ_sB', Typ_rA', O1, r1_0, r1_1, r1_2, r1_3, r1_5, r1_6, r1_7, O3, l3, O24, r24_0, r24_1, r24_5, r24_6, r24_7, r24_8, r24_9, O27, l27, t, ie, ci, v2, c_low h hi6, n0, not_false_iff, nI_s]
    rfl
def wO (Φ : FM) (V S : Nat → Int32) (seed : Int32) (k : Nat) : Int64 := Int64.ofInt (pv Φ (pt (drI V S (seed + nI k))) (mN Φ - 1))
def inO (Φ : FM) (V S : Nat → Int32) (seed : Int32) (lo hi : Int64) (k : Nat) : Bool := decide (lo.toInt ≤ (wO Φ V S seed k).toInt) && decide ((wO Φ V S seed k).toInt ≤ hi.toInt)
theorem cntB_le (p : Nat → Bool) : ∀ n, cntB p n ≤ n := by
  intro n
  induction n with
  | zero => exact Nat.le_refl _
  | succ n ih =>
    show cntB p n + (if p n = true then 1 else 0) ≤ n + 1
    by_cases c : p n = true
    · rw [if_pos c]; omega
    · rw [if_neg c]; omega
theorem gcd_lp {N M : Nat} (hM : 1 ≤ M) (hM2 : M ≤ 100) (hN : N ≤ 100) : ∀ d (σ : HS), Nat.gcd N M ≤ d → 1 ≤ d → d ≤ 100 → ∀ nf, d < nf → lp_X5_greatestCommon_2 nf (nI N) (nI M) (nI d) σ = some (nI (Nat.gcd N M), σ) := by
  intro d
  induction d with
  | zero => intro σ h1 h2; omega
  | succ d ih =>
    intro σ h1 h2 h3 nf hnf
    obtain ⟨nf, rfl⟩ : ∃ k, nf = k + 1 := ⟨nf - 1, by omega⟩
    have gp : 0 < Nat.gcd N M := Nat.gcd_pos_of_pos_right _ (by omega)
    show lp_X5_greatestCommon_2_b (lp_X5_greatestCommon_2 nf) (nI N) (nI M) (nI (d + 1)) σ = _
    unfold lp_X5_greatestCommon_2_b
    by_cases d0 : d = 0
    · subst d0
      rw [if_pos (by decide), show Nat.gcd N M = 1 by omega]; rfl
    · have le : (nI (d + 1) ≤ 1) = False := nle (a := d + 1) (b := 1) (by omega) (by omega)
      have ne : ¬ (nI (d + 1) = 0) := fun z => by have := (nE (a := d + 1) (b := 0) (by omega) (by omega)).mp z; omega
      have r1 := pk_rem (a := N) (d := d + 1) (by omega) (by omega) (by omega)
      have r2 := pk_rem (a := M) (d := d + 1) (by omega) (by omega) (by omega)
      have m1 : (nI (N % (d + 1)) = 0) = (N % (d + 1) = 0) := nE (a := N % (d + 1)) (b := 0) (by have := Nat.mod_lt N (show 0 < d + 1 by omega); omega) (by omega)
      have m2 : (nI (M % (d + 1)) = 0) = (M % (d + 1) = 0) := nE (a := M % (d + 1)) (b := 0) (by have := Nat.mod_lt M (show 0 < d + 1 by omega); omega) (by omega)
      by_cases c : N % (d + 1) = 0 ∧ M % (d + 1) = 0
      · have dv : d + 1 ∣ Nat.gcd N M := Nat.dvd_gcd (Nat.dvd_of_mod_eq_zero c.1) (Nat.dvd_of_mod_eq_zero c.2)
        have := Nat.le_of_dvd gp dv
        simp only [le, if_false, ne, not_false_iff, chk_p, r1, r2, m1.trans (eq_true c.1), m2.trans (eq_true c.2), if_true]
        rw [show Nat.gcd N M = d + 1 by omega]
      · have ng : Nat.gcd N M ≤ d := by
          by_cases z : Nat.gcd N M = d + 1
          · exact absurd ⟨Nat.mod_eq_zero_of_dvd (by rw [← z]; exact Nat.gcd_dvd_left N M), Nat.mod_eq_zero_of_dvd (by rw [← z]; exact Nat.gcd_dvd_right N M)⟩ c
          · omega
        have e := ih σ ng (by omega) (by omega) nf (by omega)
        rw [← e]
        by_cases c1 : N % (d + 1) = 0
        · have c2 : ¬ (M % (d + 1) = 0) := fun z => c ⟨c1, z⟩
          simp only [le, if_false, ne, not_false_iff, chk_p, r1, r2, m1.trans (eq_true c1), m2.trans (eq_false c2), if_true, lt_p, nI_m]
        · simp only [le, if_false, ne, not_false_iff, chk_p, r1, m1.trans (eq_false c1), lt_p, nI_m]
theorem lN_div {a b : Nat} (ha : a < 1000) (hb : b < 1000) (h0 : 0 < b) : lN a / lN b = lN (a / b) := by
  apply Int64.toInt_inj.mp
  have e1 := lN_toInt (n := a) (by omega)
  have e2 := lN_toInt (n := b) (by omega)
  have e3 := lN_toInt (n := a / b) (by have := Nat.div_le_self a b; omega)
  rw [Int64.toInt_div_of_ne_right _ _ (fun z => by have := congrArg Int64.toInt z; rw [e2] at this; have : ((b : Int)) = -1 := this; omega), e1, e2, e3]
  exact (Int.ofNat_tdiv a b).symm
theorem lN_rem {a b : Nat} (ha : a < 1000) (hb : b < 1000) (h0 : 0 < b) : lN a - lN a / lN b * lN b = lN (a % b) := by
  rw [lN_div ha hb h0, lN_mul, lN_sub (Nat.div_mul_le_self a b)]
  congr 1
  have := Nat.div_add_mod a b
  rw [Nat.mul_comm] at this
  omega
theorem low_lp {N M : Nat} (hM : 1 ≤ M) (hM2 : M ≤ 100) (hN : N ≤ 100) {e : Nat} (he : e < 2) : ∀ B A (σ : HS), A ≤ 100 → B ≤ 100 → Nat.gcd A B = Nat.gcd N M → ∀ nf, B < nf → lp_X6_lowest_6 nf (lN N) (lN M) (nI e) (lN A) (lN B) σ = some (lN ((if e = 0 then N else M) / Nat.gcd N M), σ) := by
  intro B
  induction B using Nat.strongRecOn with
  | _ B ih =>
    intro A σ hA hB hg nf hnf
    obtain ⟨nf, rfl⟩ : ∃ k, nf = k + 1 := ⟨nf - 1, by omega⟩
    have gp : 0 < Nat.gcd N M := Nat.gcd_pos_of_pos_right _ (by omega)
    have gl : Nat.gcd N M ≤ M := Nat.le_of_dvd (by omega) (Nat.gcd_dvd_right N M)
    show lp_X6_lowest_6_b (lp_X6_lowest_6 nf) (lN N) (lN M) (nI e) (lN A) (lN B) σ = _
    unfold lp_X6_lowest_6_b
    have b0 : (lg_cmp (lN B) 0 = 0) = (B = 0) := by rw [z_eq]; exact propext (lN_eq (a := B) (b := 0) (by omega) (by omega))
    have e0 : (nI e = 0) = (e = 0) := nE (a := e) (b := 0) (by omega) (by omega)
    by_cases c : B = 0
    · subst c
      rw [Nat.gcd_zero_right] at hg
      have ne : ¬ (lN A = 0) := fun z => by have := (lN_eq (a := A) (b := 0) (by omega) (by omega)).mp z; omega
      rw [if_pos (by rw [b0])]
      simp only [e0]
      by_cases c1 : e = 0
      · rw [if_pos c1, if_pos c1, chk_p ne, hg, lN_div (by omega) (by omega) gp]
      · rw [if_neg c1, if_neg c1, chk_p ne, hg, lN_div (by omega) (by omega) gp]
    · have ne : ¬ (lN B = 0) := fun z => c ((lN_eq (a := B) (b := 0) (by omega) (by omega)).mp z)
      have ml := Nat.mod_lt A (show 0 < B by omega)
      rw [if_neg (by rw [b0]; exact c), chk_p ne, lt_p, lN_rem (by omega) (by omega) (by omega)]
      refine ih (A % B) ml B σ hB (by omega) ?_ nf (by omega)
      rw [← hg, Nat.gcd_comm B, Nat.gcd_comm A B, Nat.gcd_rec B A]
def resO (N M e : Nat) : Int64 := lN ((if e = 0 then N else M) / Nat.gcd N M)
theorem x_odds {φ f : Nat} {Φ : FM} {V S C : Nat → Int32} (hg : Good Φ) {p : Int × Int} (hx : RT Φ (LO V S) (HI V S) = some p) (a seed : Int32) {M : Nat} (hM : 1 ≤ M) (hM2 : M ≤ 30) (lo hi : Int64) {e : Nat} (he : e < 2) : ∀ d k (σ : HS), CS σ φ f Φ V S C → k + d = M → ∀ nf, d < nf → ∃ σ', lp_X5_odds_64 nf 0 a seed (nI M) lo hi (nI e) φ (nI (cntB (inO Φ V S seed lo hi) k)) (nI k) σ = some (resO (cntB (inO Φ V S seed lo hi) M) M e, σ') ∧ Kp σ σ' := by
  intro d
  induction d with
  | zero =>
    intro k σ h hd nf hnf
    obtain ⟨nf, rfl⟩ : ∃ k, nf = k + 1 := ⟨nf - 1, by omega⟩
    have : k = M := by omega
    subst this
    have hN := cntB_le (inO Φ V S seed lo hi) k
    refine ⟨σ, ?_, Kp.rf⟩
    show lp_X5_odds_64_b (lp_X5_odds_64 nf) 0 a seed (nI k) lo hi (nI e) φ _ (nI k) σ = _
    unfold lp_X5_odds_64_b
    generalize cntB (inO Φ V S seed lo hi) k = N at hN ⊢
    have gp : 0 < Nat.gcd N k := Nat.gcd_pos_of_pos_right _ (by omega)
    have gl : Nat.gcd N k ≤ k := Nat.le_of_dvd (by omega) (Nat.gcd_dvd_right N k)
    have gc : f_X5_greatestCommon (nI N) (nI k) σ = some (nI (Nat.gcd N k), σ) := gcd_lp hM (by omega) (by omega) k σ gl hM (by omega) 1000 (by omega)
    have e0 : (nI e = 0) = (e = 0) := nE (a := e) (b := 0) (by omega) (by omega)
    have ne : ¬ (nI (Nat.gcd N k) = 0) := fun z => by have := (nE (a := Nat.gcd N k) (b := 0) (by omega) (by omega)).mp z; omega
    rw [if_pos (Int32.le_refl _), gc, bc_p]
    simp only [e0]
    by_cases c1 : e = 0
    · rw [if_pos c1, chk_p ne, pk_div (by omega) gp (by omega), nI_l (by have := Nat.div_le_self N (Nat.gcd N k); omega)]
      unfold resO; rw [if_pos c1]
    · rw [if_neg c1, chk_p ne, pk_div (by omega) gp (by omega), nI_l (by have := Nat.div_le_self k (Nat.gcd N k); omega)]
      unfold resO; rw [if_neg c1]
  | succ d ih =>
    intro k σ h hd nf hnf
    obtain ⟨nf, rfl⟩ : ∃ k, nf = k + 1 := ⟨nf - 1, by omega⟩
    have t := h.1
    obtain ⟨σ1, y1, y2, y3, y4⟩ := x_draw (seed + nI k) 6 0 σ h (fun s hs => by omega) (by omega) 1000 (by omega)
    have y1' : f_X4_drawBy 24 (seed + nI k) 1 σ = some ((), σ1) := y1
    have t1 := y3.1
    obtain ⟨σ2, u1, u2, u3, -⟩ := c_worth hg.1 y3 (v := pt (drI V S (seed + nI k))) (fun s hs => by rw [y4 s hs]; unfold pt drI; rw [if_pos hs]) (pt_some hg (by rw [hx]; exact fun z => by cases z) (dr_in h (seed + nI k)))
    rw [show Int64.ofInt (pv Φ (pt (drI V S (seed + nI k))) (mN Φ - 1)) = wO Φ V S seed k from rfl] at u1
    obtain ⟨σ3, e1, e2⟩ := ih (k + 1) σ2 u3 (by omega) nf (by omega)
    refine ⟨σ3, ?_, (y2.seq u2).seq e2⟩
    have le := nle (a := M) (b := k) (by omega) (by omega)
    have q1 : (0 < lg_cmp lo (wO Φ V S seed k)) = ¬ (lo.toInt ≤ (wO Φ V S seed k).toInt) := by rw [zc_gt]; exact propext ⟨fun z => by omega, fun z => by omega⟩
    have q2 : (0 < lg_cmp (wO Φ V S seed k) hi) = ¬ ((wO Φ V S seed k).toInt ≤ hi.toInt) := by rw [zc_gt]; exact propext ⟨fun z => by omega, fun z => by omega⟩
    rw [show cntB (inO Φ V S seed lo hi) (k + 1) = cntB (inO Φ V S seed lo hi) k + (if inO Φ V S seed lo hi k = true then 1 else 0) from rfl] at e1
    rw [← e1]
    show lp_X5_odds_64_b (lp_X5_odds_64 nf) 0 a seed (nI M) lo hi (nI e) φ _ (nI k) σ = _
    unfold lp_X5_odds_64_b
    rw [if_neg (of_eq_false le), chk_p (o0 t), r0_4 t, bd_p, r0_0 t, bd_p, chk_p (o24 t), y1', bc_p, chk_p (o0 t1), r0_4 t1, bd_p, chk_p (o24 t1), u1, bc_p]
    simp only [q1, q2]
    by_cases z1 : lo.toInt ≤ (wO Φ V S seed k).toInt
    · by_cases z2 : (wO Φ V S seed k).toInt ≤ hi.toInt
      · rw [if_neg (fun z => z z1), if_neg (fun z => z z2), if_pos (show inO Φ V S seed lo hi k = true by unfold inO; rw [decide_eq_true z1, decide_eq_true z2]; rfl), lt_p, lt_p, nI_s, nI_s]
      · rw [if_neg (fun z => z z1), if_pos z2, if_neg (show ¬ inO Φ V S seed lo hi k = true by unfold inO; rw [decide_eq_false z2, Bool.and_false]; exact fun z => by cases z), lt_p, nI_s]; rfl
    · rw [if_pos z1, if_neg (show ¬ inO Φ V S seed lo hi k = true by unfold inO; rw [decide_eq_false z1, Bool.false_and]; exact fun z => by cases z), lt_p, nI_s]; rfl
theorem m_dr {φ f : Nat} {Φ : FM} {V S C : Nat → Int32} (hf : f < 7) (hw : WF Φ) (K : Nat → Int32 → Int32 → Int32 → Int64 → Int64 → Int32 → Int32 → Int32 → HS → Option (Int64 × HS)) (seed M : Int32) (lo hi : Int64) (e : Int32) (n : Nat) {k : Nat} (ha : ∀ i, i < mN Φ → SP Φ (pt (drI V S (seed + nI k))) (pt (drI V S (seed + nI k))) i ≠ none) {L0 H0 : Nat → Int} (z0 : ∀ s, 6 ≤ s → L0 s = 0) (z1 : ∀ s, 6 ≤ s → H0 s = 0) : ∀ d i (σ : HS), CS σ φ f Φ V S C → BxM σ (bmix i (drI V S (seed + nI k)) L0) (bmix i (drI V S (seed + nI k)) H0) → i + d = 6 → ∀ nf, d < nf → ∃ σ', lp_X6_odds_68 K nf 48 (nI f) seed M lo hi e (nI n) (nI k) (zs (seed + nI k) i) (nI i) σ = K 48 (nI f) seed M lo hi e (nI (n + (if inO Φ V S seed lo hi k = true then 1 else 0))) (nI (k + 1)) σ' ∧ Kp σ σ' ∧ CS σ' φ f Φ V S C ∧ BxM σ' (pt (drI V S (seed + nI k))) (pt (drI V S (seed + nI k))) := by
  intro d
  induction d with
  | zero =>
    intro i σ h hb hi' nf hnf
    obtain ⟨nf, rfl⟩ : ∃ k, nf = k + 1 := ⟨nf - 1, by omega⟩
    have : i = 6 := by omega
    subst this
    rw [bmix_6 z0, bmix_6 z1] at hb
    obtain ⟨r, σ', e1, e2, e3, e4, e5⟩ := m_pt hf hw h hb ha
    refine ⟨σ', ?_, e2, e3, e4⟩
    have t := h.1
    have t1 := e3.1
    rw [show Int64.ofInt (pv Φ (pt (drI V S (seed + nI k))) (mN Φ - 1)) = wO Φ V S seed k from rfl] at e5
    have q := isIn64_ok (wO Φ V S seed k) lo hi σ'
    show lp_X6_odds_68_b K (lp_X6_odds_68 K nf) 48 (nI f) seed M lo hi e (nI n) (nI k) _ (nI 6) σ = _
    unfold lp_X6_odds_68_b
    rw [if_pos (by decide), chk_p (o48 t), e1, bc_p, chk_p (o48 t1), e5, bc_p, q, bc_p]
    by_cases z : lo.toInt ≤ (wO Φ V S seed k).toInt ∧ (wO Φ V S seed k).toInt ≤ hi.toInt
    · rw [if_pos z, if_neg (by decide), if_pos (show inO Φ V S seed lo hi k = true by unfold inO; rw [decide_eq_true z.1, decide_eq_true z.2]; rfl), lt_p, lt_p, nI_s, nI_s]
    · rw [if_neg z, if_pos rfl, if_neg (show ¬ inO Φ V S seed lo hi k = true by
        unfold inO
        intro y
        rw [Bool.and_eq_true] at y
        exact z ⟨of_decide_eq_true y.1, of_decide_eq_true y.2⟩), lt_p, lt_p, Int32.add_zero, nI_s]; rfl
  | succ d ih =>
    intro i σ h hb hi' nf hnf
    obtain ⟨nf, rfl⟩ : ∃ k, nf = k + 1 := ⟨nf - 1, by omega⟩
    have hi6 : i < 6 := by omega
    have t := h.1
    obtain ⟨l1, l2, l3⟩ := m_laysPoint t hb hi6 (a := dr V S (seed + nI k) i)
    rw [show (dr V S (seed + nI k) i).toInt = drI V S (seed + nI k) i from rfl, bmix_up, bmix_up] at l2
    have k1 := l3.kp (by decide)
    obtain ⟨σ', e1, e2, e3, e4⟩ := ih (i + 1) _ (h.kp k1) l2 (by omega) nf (by omega)
    refine ⟨σ', ?_, k1.seq e2, e3, e4⟩
    have le : (6 : Int32) ≤ nI i ↔ False := by rw [show (6 : Int32) = nI 6 from rfl, nle (a := 6) (b := i) (by omega) (by omega)]
    have le := eq_false (fun z => le.mp z)
    have n0 := m21 h hi6
    rw [← e1]
    show lp_X6_odds_68_b K (lp_X6_odds_68 K nf) 48 (nI f) seed M lo hi e (nI n) (nI k) _ (nI i) σ = _
    unfold lp_X6_odds_68_b
    rw [if_neg (of_eq_false le), lt_p, chk_p (o48 t), m_val h hi6, bc_p, chk_p (o48 t), m_span h hi6, bc_p, chk_p (o48 t), m_span h hi6, bc_p, chk_p n0, chk_p (o48 t)]
    rw [show (V i - S i + ((zs (seed + nI k) i * 1103515245 + 12345 &&& 2147483647) / 65536 - (zs (seed + nI k) i * 1103515245 + 12345 &&& 2147483647) / 65536 / (2 * S i + 1) * (2 * S i + 1))) = dr V S (seed + nI k) i from rfl, l1, bc_p, lt_p, nI_s]
    rfl
theorem m_odds {φ f : Nat} {Φ : FM} {V S C : Nat → Int32} (hf : f < 7) (hg : Good Φ) {p : Int × Int} (hx : RT Φ (LO V S) (HI V S) = some p) (seed : Int32) {M : Nat} (hM : 1 ≤ M) (hM2 : M ≤ 30) (lo hi : Int64) {e : Nat} (he : e < 2) : ∀ d k (L0 H0 : Nat → Int) (σ : HS), CS σ φ f Φ V S C → BxM σ L0 H0 → (∀ s, 6 ≤ s → L0 s = 0) → (∀ s, 6 ≤ s → H0 s = 0) → k + d = M → ∀ nf, d < nf → ∃ σ', lp_X6_odds_53 nf 48 (nI f) seed (nI M) lo hi (nI e) (nI (cntB (inO Φ V S seed lo hi) k)) (nI k) σ = some (resO (cntB (inO Φ V S seed lo hi) M) M e, σ') ∧ Kp σ σ' := by
  intro d
  induction d with
  | zero =>
    intro k L0 H0 σ h hb z0 z1 hd nf hnf
    obtain ⟨nf, rfl⟩ : ∃ k, nf = k + 1 := ⟨nf - 1, by omega⟩
    have : k = M := by omega
    subst this
    have hN := cntB_le (inO Φ V S seed lo hi) k
    refine ⟨σ, ?_, Kp.rf⟩
    show lp_X6_odds_53_b (lp_X6_odds_53 nf) 48 (nI f) seed (nI k) lo hi (nI e) _ (nI k) σ = _
    unfold lp_X6_odds_53_b
    generalize cntB (inO Φ V S seed lo hi) k = N at hN ⊢
    rw [if_pos (Int32.le_refl _), nI_l (by omega), nI_l (by omega)]
    have lw : f_X6_lowest (lN N) (lN k) (nI e) σ = some (resO N k e, σ) := low_lp hM (by omega) (by omega) he k N σ (by omega) (by omega) rfl 1000 (by omega)
    rw [lw, bc_p]
  | succ d ih =>
    intro k L0 H0 σ h hb z0 z1 hd nf hnf
    obtain ⟨nf, rfl⟩ : ∃ k, nf = k + 1 := ⟨nf - 1, by omega⟩
    obtain ⟨σ1, y1, y2, y3, y4⟩ := m_dr hf hg.1 (lp_X6_odds_53 nf) seed (nI M) lo hi (nI e) (cntB (inO Φ V S seed lo hi) k) (k := k) (pt_some hg (by rw [hx]; exact fun z => by cases z) (dr_in h (seed + nI k))) z0 z1 6 0 σ h (by rw [bmix_0, bmix_0]; exact hb) (by omega) 1000 (by omega)
    obtain ⟨σ2, e1, e2⟩ := ih (k + 1) _ _ σ1 y3 y4 (fun s hs => by unfold pt; rw [if_neg (by omega)]) (fun s hs => by unfold pt; rw [if_neg (by omega)]) (by omega) nf (by omega)
    refine ⟨σ2, ?_, y2.seq e2⟩
    have le := nle (a := M) (b := k) (by omega) (by omega)
    rw [show cntB (inO Φ V S seed lo hi) (k + 1) = cntB (inO Φ V S seed lo hi) k + (if inO Φ V S seed lo hi k = true then 1 else 0) from rfl] at e1
    rw [← e1, ← y1]
    show lp_X6_odds_53_b (lp_X6_odds_53 nf) 48 (nI f) seed (nI M) lo hi (nI e) _ (nI k) σ = _
    unfold lp_X6_odds_53_b
    rw [if_neg (of_eq_false le), lt_p, lt_p]
    rfl
theorem op_odds (a seed m : Int32) (lo hi : Int64) (w : Int32) : OpOK (f_X5_odds 0 a seed m lo hi w) (f_X6_odds 48 a seed m lo hi w) := by
  intro σ V S C n FS I
  have t := I.1
  have z1 : (1 : Int32).toInt = 1 := rfl
  have z30 : (30 : Int32).toInt = 30 := rfl
  rcases start I a with ⟨k, φ, hk, rfl, ef, hg, hc, hxi, em⟩ | ⟨ef, em⟩
  · have im := fun τ => isIn_c m 1 30 1 30 rfl rfl τ
    by_cases hm : 1 ≤ m.toInt ∧ m.toInt ≤ 30
    · obtain ⟨M, hM, hM1, rfl⟩ : ∃ M : Nat, M ≤ 30 ∧ 1 ≤ M ∧ m = nI M := by
        rcases argC m 31 (by decide) with ⟨k, hk, e⟩ | z
        · refine ⟨k, by omega, ?_, e⟩
          rw [e, nT (by omega)] at hm; omega
        · omega
      have c1 : ¬ (nI M < 1) := by rw [i_lt, nT (by omega), z1]; omega
      have c2 : ¬ ((30 : Int32) < nI M) := by rw [i_lt, nT (by omega), z30]; omega
      have im' := fun τ => (im τ).trans (by rw [if_pos hm])
      rcases rng1 w with ⟨e, he, rfl, w0, w2, wm⟩ | ⟨wm, wc⟩
      · obtain ⟨σ1, x1, x2, x3, x4, x5, x6⟩ := c_now hg.1 hc
        have t1 := x3.1
        cases hx : RT (FS k) (LO V S) (HI V S) with
        | none =>
          obtain ⟨σ2, z1, z2, z3, z4, z5, z6⟩ := m_now hk hg.1 x3
          rw [hx] at x5 z1
          have xo' : ¬ (hA σ1 24 2 = 0) := by rw [show hA σ1 24 2 = 1 from x5]; decide
          refine opQ I ⟨-9223372036854775807, σ1, σ2, ?_, x2, ?_, z2⟩
          · unfold f_X5_odds
            rw [chk_p (o0 t), ef, bc_p, oc_s, if_neg c1, if_neg c2, if_neg (of_eq_false w0), if_pos (of_eq_true w2), chk_p (o0 t), x1, bc_p, chk_p (o0 t1), r0_4 t1, bd_p, chk_p (o24 t1), lt_p, if_neg xo']
          · unfold f_X6_odds
            rw [chk_p (o48 t1), em σ1 t1 x2.k7, bc_p, if_neg (by decide), im', bc_p, if_neg (by decide), wm, bc_p, if_neg (by decide), chk_p (o48 t1), z1, bc_p]
            exact if_pos rfl
        | some p =>
          rw [hx] at x5
          have xo' : hA σ1 24 2 = 0 := x5.1
          obtain ⟨σ2, y1, y2⟩ := x_odds hg hx (nI k) seed hM1 hM lo hi he M 0 σ1 x3 (by omega) 1000 (by omega)
          have c3 := x3.kp y2
          have t3 := c3.1
          obtain ⟨σ4, z1, z2, z3, z4, z5, z6⟩ := m_now hk hg.1 c3
          rw [hx] at z1
          have t4 := z3.1
          obtain ⟨σ5, v1, v2⟩ := m_odds hk hg hx seed hM1 hM lo hi he M 0 _ _ σ4 z3 z5 (LO6 V S) (HI6 V S) (by omega) 1000 (by omega)
          refine opQ I ⟨resO (cntB (inO (FS k) V S seed lo hi) M) M e, σ2, σ5, ?_, x2.seq y2, ?_, z2.seq v2⟩
          · unfold f_X5_odds
            rw [chk_p (o0 t), ef, bc_p, oc_s, if_neg c1, if_neg c2, if_neg (of_eq_false w0), if_pos (of_eq_true w2), chk_p (o0 t), x1, bc_p, chk_p (o0 t1), r0_4 t1, bd_p, chk_p (o24 t1), lt_p, if_pos xo', lt_p, lt_p]
            exact y1
          · unfold f_X6_odds
            rw [chk_p (o48 t3), em σ2 t3 (x2.seq y2).k7, bc_p, if_neg (by decide), im', bc_p, if_neg (by decide), wm, bc_p, if_neg (by decide), chk_p (o48 t3), z1, bc_p, if_neg (show ¬ rc (some p) = 0 from (by decide : ¬ (1 : Int32) = 0)), lt_p, lt_p]
            exact v1
      · refine opN I (-9223372036854775808) ?_ ?_
        · unfold f_X5_odds
          rcases wc with wc | ⟨wc, wc2⟩
          · rw [chk_p (o0 t), ef, bc_p, oc_s, if_neg c1, if_neg c2, if_pos (of_eq_true wc)]
          · rw [chk_p (o0 t), ef, bc_p, oc_s, if_neg c1, if_neg c2, if_neg (of_eq_false wc), if_neg (of_eq_false wc2)]
        · unfold f_X6_odds
          rw [chk_p (o48 t), em σ t rfl, bc_p, if_neg (by decide), im', bc_p, if_neg (by decide), wm, bc_p, if_pos rfl]
    · have im' := fun τ => (im τ).trans (by rw [if_neg hm])
      refine opN I (-9223372036854775808) ?_ ?_
      · unfold f_X5_odds
        by_cases c1 : m < 1
        · rw [chk_p (o0 t), ef, bc_p, oc_s, if_pos c1]
        · have c2 : (30 : Int32) < m := by rw [i_lt, z1] at c1; rw [i_lt, z30]; omega
          rw [chk_p (o0 t), ef, bc_p, oc_s, if_neg c1, if_pos c2]
      · unfold f_X6_odds
        rw [chk_p (o48 t), em σ t rfl, bc_p, if_neg (by decide), im', bc_p, if_pos rfl]
  · refine opN I (-9223372036854775808) ?_ ?_
    · unfold f_X5_odds
      rw [chk_p (o0 t), ef, bc_p, oc_n]
    · unfold f_X6_odds
      rw [chk_p (o48 t), em, bc_p, if_pos rfl]
