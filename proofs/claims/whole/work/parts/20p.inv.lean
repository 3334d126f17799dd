/-! what the two halves of the heap have in common -/
def scj (j : Nat) : Bool := (decide (19 ≤ j) && decide (j ≤ 40)) || [62, 63, 64, 65, 66, 68, 69, 70, 73].contains j
def scr (S : List Nat) : Bool := S.all scj
theorem scr_ne {S : List Nat} (h : scr S = true) {j : Nat} (hj : (scj j || j == 48) = false) : j ∉ 48 :: S := fun z => by
  rcases List.mem_cons.mp z with z | z
  · subst z; exact absurd hj (by decide)
  · have h1 := List.all_eq_true.mp h j z
    rw [h1, Bool.true_or] at hj; cases hj
theorem scr_75 {S : List Nat} (h : scr S = true) {j : Nat} (hj : 76 ≤ j) : j ∉ 48 :: S := scr_ne h (by
  have e1 : (decide (j ≤ 40)) = false := by simp; omega
  have e2 : ([62, 63, 64, 65, 66, 68, 69, 70, 73].contains j) = false := by simp; omega
  have e3 : (j == 48) = false := by simp; omega
  unfold scj; rw [e1, e2, e3]; simp)
/-- every part but the last is part of another -/
def RCH (Φ : FM) : Prop := ∀ i, i + 1 < mN Φ → ∃ j, i < j ∧ j < mN Φ ∧ ((2 ≤ mK Φ j ∧ mU Φ j = i) ∨ (3 ≤ mK Φ j ∧ mV Φ j = i))
/-- the sources up to a part, as bits -/
def srcs (Φ : FM) : Nat → Int32
  | 0 => 0
  | i + 1 => srcs Φ i ||| (if mK Φ i = 0 then (1 : Int32) <<< (nI (mU Φ i)) else 0)
/-- the depth of a part -/
def depI (Φ : FM) : Nat → Nat → Nat
  | 0, _ => 0
  | n + 1, i => if mK Φ i ≤ 1 then 0 else if mK Φ i = 2 then 1 + depI Φ n (mU Φ i) else 1 + max (depI Φ n (mU Φ i)) (depI Φ n (mV Φ i))
/-- alike: part i of the one, part j of the other -/
def alI (Φ Ψ : FM) : Nat → Nat → Nat → Bool
  | 0, _, _ => false
  | n + 1, i, j => if mK Φ i ≠ mK Ψ j then false else if mK Φ i ≤ 1 then mU Φ i == mU Ψ j else alI Φ Ψ n (mU Φ i) (mU Ψ j) && (mK Φ i == 2 || alI Φ Ψ n (mV Φ i) (mV Ψ j))
def alF (Φ : FM) (i j : Nat) : Bool := alI Φ Φ 61 i j
def cntB (p : Nat → Bool) : Nat → Nat
  | 0 => 0
  | n + 1 => cntB p n + (if p n then 1 else 0)
def allB (p : Nat → Bool) : Nat → Bool
  | 0 => true
  | n + 1 => allB p n && p n
def maxN (w : Nat → Nat) : Nat → Nat
  | 0 => 0
  | n + 1 => max (maxN w n) (w n)
def unlN (Φ : FM) : Nat := cntB (fun i => allB (fun j => !(alF Φ i j)) i) (mN Φ)
def malN (Φ : FM) : Nat := maxN (fun i => cntB (alF Φ i) (mN Φ)) (mN Φ)
/-- the order in which parts end tells how they are made -/
def PFX (Φ : FM) : Prop := ∃ st : Nat → Nat, ∀ i, i < mN Φ → (mK Φ i ≤ 1 → st i = i) ∧ (mK Φ i = 2 → mU Φ i + 1 = i ∧ st i = st (mU Φ i)) ∧ (3 ≤ mK Φ i → mV Φ i + 1 = i ∧ mU Φ i + 1 = st (mV Φ i) ∧ st i = st (mU Φ i))
def Good (Φ : FM) : Prop := WF Φ ∧ RCH Φ ∧ PFX Φ
def XI (σ : HS) (φ : Nat) (Φ : FM) : Prop := hA σ φ 6 = srcs Φ (mN Φ) ∧ hA σ φ 7 = nI (depI Φ 61 (mN Φ - 1)) ∧ hA σ φ 8 = nI (unlN Φ) ∧ hA σ φ 9 = nI (malN Φ)
def rgI (a : Int32) (l h : Int) : Prop := l ≤ a.toInt ∧ a.toInt ≤ h
def SrcI (σ : HS) (a q : Nat) (V S C : Nat → Int32) : Prop := ∀ s, s < 6 → (hA σ a s = V s ∧ hA σ (a + 1) s = S s ∧ hA σ (a + 2) s = C s) ∧ (hA σ q (3 * s) = V s ∧ hA σ q (3 * s + 1) = S s ∧ hA σ q (3 * s + 2) = C s) ∧ rgI (V s) (-99) 99 ∧ rgI (S s) 0 20 ∧ rgI (C s) 0 99
def MFb (σ : HS) (b f : Nat) (Φ : FM) : Prop := hA σ (b + 4) f = nI (mN Φ) ∧ ∀ i, i < mN Φ → hA σ b (60 * f + i) = nI (mK Φ i) ∧ hA σ (b + 1) (60 * f + i) = nI (mU Φ i) ∧ hA σ (b + 2) (60 * f + i) = nI (mV Φ i) ∧ hA σ (b + 3) (60 * f + i) = nI (mP Φ i)
def FmI (σ : HS) (o r c b n : Nat) (FS : Nat → FM) : Prop := n ≤ 6 ∧ (∀ k, k < n → Good (FS k)) ∧ hA σ o 4 = nI n ∧ hA σ 48 c = nI n ∧ (∀ k, k < n → ∃ φ, hR σ r k = some φ ∧ XF σ φ (FS k) ∧ XI σ φ (FS k)) ∧ (∀ f, f < n → MFb σ b f (FS f)) ∧ ∀ k, k < 6 → okF σ (hR σ r k) = true
def TapI (σ : HS) (t : Nat) (B : Nat → Nat) : Prop := t ≤ 60 ∧ hA σ 17 1 = nI t ∧ hA σ 48 16 = nI t ∧ ∀ k, k < t → hA σ 18 k = nI (B k) ∧ hA σ 61 k = nI (B k) ∧ 1 ≤ B k ∧ B k ≤ 127
def PlI (σ : HS) (o a q c p : Nat) (PS PW PV : Nat → Int32) : Prop := p ≤ 8 ∧ hA σ o 8 = nI p ∧ hA σ 48 c = nI p ∧ ∀ k, k < p → (hA σ a k = PS k ∧ hA σ (a + 1) k = PW k ∧ hA σ (a + 2) k = PV k) ∧ (hA σ q (3 * k) = PS k ∧ hA σ q (3 * k + 1) = PW k ∧ hA σ q (3 * k + 2) = PV k) ∧ rgI (PS k) 0 5 ∧ (PW k = 0 ∧ rgI (PV k) (-99) 99 ∨ PW k = 1 ∧ rgI (PV k) 0 20 ∨ PW k = 2 ∧ rgI (PV k) 0 4)
def LstI (σ : HS) : Prop := ∀ l, l < 4 → ((hA σ 46 l = -11 ∧ hA σ 74 l = -1) ∨ ∃ n, n ≤ 8 ∧ hA σ 46 l = nI n ∧ hA σ 74 l = nI n) ∧ ∀ k, k < 8 → hB σ (42 + l) k = hB σ 75 (8 * l + k)
def WayI (σ : HS) : Prop := ∃ n, n ≤ 60 ∧ hA σ 0 8 = nI n ∧ hA σ 48 29 = nI n ∧ ∀ k, k < n → hA σ 67 k = hA σ 47 (n - 1 - k)
def ImgI (σ : HS) : Prop := (hA σ 0 2 = 0 ∧ hA σ 48 14 = 0) ∨ ((hA σ 0 2 = 1 ∧ hA σ 48 14 = 1) ∧ (∃ V S C, SrcI σ 10 50 V S C) ∧ (∃ n FS, FmI σ 9 13 13 56 n FS) ∧ ∃ p PS PW PV, PlI σ 9 14 72 38 p PS PW PV)
def INV (σ : HS) (V S C : Nat → Int32) (n : Nat) (FS : Nat → FM) : Prop := Typ σ ∧ SrcI σ 2 49 V S C ∧ FmI σ 1 5 7 51 n FS ∧ (∃ t B, TapI σ t B) ∧ (∃ p PS PW PV, PlI σ 1 6 71 36 p PS PW PV) ∧ LstI σ ∧ WayI σ ∧ ImgI σ
/-- what is kept of the heap: rows but those of P, the reference's own ints but those of Q, references but those of T -/
def Kq (P Q T : Nat → Bool) (σ σ' : HS) : Prop := hN σ ≤ hN σ' ∧ (∀ j, j < hN σ → hty σ' j = hty σ j ∧ hlen σ' j = hlen σ j) ∧ (∀ j, (j < 76 ∧ T j = false) ∨ (j < hN σ ∧ hty σ j = 0) → hR σ' j = hR σ j) ∧ (∀ j, j < hN σ → P j = false → hA σ' j = hA σ j ∧ hB σ' j = hB σ j) ∧ (∀ k, Q k = false → hA σ' 48 k = hA σ 48 k) ∧ (∀ j, 76 ≤ j → P j = false) ∧ ∀ j, j < 76 → T j = true → j = 5 ∨ j = 13
theorem Kq.typ {P Q T : Nat → Bool} {σ σ' : HS} (h : Kq P Q T σ σ') (ht : Typ σ) : Typ σ' := ht.cong h.1 (fun j hj => ⟨(h.2.1 j (Nat.lt_of_lt_of_le hj ht.1)).1, (h.2.1 j (Nat.lt_of_lt_of_le hj ht.1)).2, fun e5 e13 => h.2.2.1 j (Or.inl ⟨hj, by
  cases ht : T j with
  | false => rfl
  | true => rcases h.2.2.2.2.2.2 j hj ht with z | z
            · exact absurd z e5
            · exact absurd z e13⟩)⟩)
theorem Kq.A {P Q T : Nat → Bool} {σ σ' : HS} (h : Kq P Q T σ σ') {j : Nat} (hj : j < hN σ) (hs : P j = false) (k : Nat) : hA σ' j k = hA σ j k := congrFun (h.2.2.2.1 j hj hs).1 k
theorem Kq.B {P Q T : Nat → Bool} {σ σ' : HS} (h : Kq P Q T σ σ') {j : Nat} (hj : j < hN σ) (hs : P j = false) (k : Nat) : hB σ' j k = hB σ j k := congrFun (h.2.2.2.1 j hj hs).2 k
theorem scj_76 {j : Nat} (hj : 76 ≤ j) : (scj j || j == 48) = false := by
  have e1 : (decide (j ≤ 40)) = false := by simp; omega
  have e2 : ([62, 63, 64, 65, 66, 68, 69, 70, 73].contains j) = false := by simp; omega
  have e3 : (j == 48) = false := by simp; omega
  unfold scj; rw [e1, e2, e3]; simp
/-- all but scratch is kept -/
def Kp (σ σ' : HS) : Prop := Kq (fun j => scj j || j == 48) (fun k => decide (17 ≤ k) && decide (k ≤ 20)) (fun _ => false) σ σ'
theorem Kp.hN {σ σ' : HS} (h : Kp σ σ') : hN σ ≤ hN σ' := h.1
theorem Kp.typ {σ σ' : HS} (h : Kp σ σ') (ht : Typ σ) : Typ σ' := Kq.typ h ht
theorem Mf.kp {S : List Nat} {σ σ' : HS} (h : Mf S σ σ') (hs : scr S = true) : Kp σ σ' := ⟨Nat.le_of_eq h.1.1.symm, fun j _ => ⟨h.1.ty j, h.1.len j⟩, fun j _ => h.1.Rr j, fun j _ hj => h.1.2.2.2.2 j (scr_ne hs hj), fun k hk => h.2.1 k (by simp at hk; omega), fun j hj => scj_76 hj, fun j _ hj => by cases hj⟩
theorem Fr.kp {S : List Nat} {σ σ' : HS} (h : Fr S σ σ') (hs : scr S = true) : Kp σ σ' := by
  have n48 : 48 ∉ S := fun z => by
    have h1 := List.all_eq_true.mp hs 48 z
    exact absurd h1 (by decide)
  exact Mf.kp (S := S) ⟨h.mono (fun j hj => List.mem_cons_of_mem _ hj), fun k _ => h.A n48 k, fun k _ => h.B n48 k⟩ hs
theorem Kp.rf {σ : HS} : Kp σ σ := ⟨Nat.le_refl _, fun _ _ => ⟨rfl, rfl⟩, fun _ _ => rfl, fun _ _ _ => ⟨rfl, rfl⟩, fun _ _ => rfl, fun j hj => scj_76 hj, fun j _ hj => by cases hj⟩
theorem Fr.kq {S : List Nat} {σ σ' : HS} (h : Fr S σ σ') (hs : lows S = true) (hn : S.contains 48 = false) : Kq (fun j => S.contains j) (fun _ => false) (fun _ => false) σ σ' := ⟨Nat.le_of_eq h.1.symm, fun j _ => ⟨h.ty j, h.len j⟩, fun j _ => h.Rr j, fun j _ hj => h.2.2.2.2 j (fun z => by
  have := List.contains_iff_mem.mpr z
  exact absurd (this.symm.trans hj) (by decide)), fun k _ => h.A (fun z => by
  have := List.contains_iff_mem.mpr z
  rw [this] at hn; cases hn) k, fun j hj => by
  cases hc : S.contains j with
  | false => exact hc
  | true => exact absurd (List.contains_iff_mem.mp hc) (lows_ne hs hj), fun j _ hj => by cases hj⟩
theorem Kq.isO {P Q T : Nat → Bool} {σ σ' : HS} (h : Kq P Q T σ σ') {t j : Nat} (hj : isO σ t j) : isO σ' t j := ⟨Nat.lt_of_lt_of_le hj.1 h.1, (h.2.1 j hj.1).1.trans hj.2⟩
theorem Kq.ft {P Q T : Nat → Bool} {σ σ' : HS} (hk : Kq P Q T σ σ') {φ n : Nat} (h : FT σ φ n) : FT σ' φ n := by
  obtain ⟨h0, h1, ⟨a1, a2, a3⟩, ⟨b1, b2, b3⟩, ⟨c1, c2, c3⟩, ⟨d1, d2, d3⟩, ⟨e1, e2, e3⟩⟩ := h
  have er : ∀ k, hR σ' φ k = hR σ φ k := fun k => congrFun (hk.2.2.1 φ (Or.inr ⟨h1.1, h1.2⟩)) k
  exact ⟨h0, hk.isO h1, ⟨(er _).trans a1, hk.isO a2, (hk.2.1 _ a2.1).2.trans a3⟩, ⟨(er _).trans b1, hk.isO b2, (hk.2.1 _ b2.1).2.trans b3⟩, ⟨(er _).trans c1, hk.isO c2, (hk.2.1 _ c2.1).2.trans c3⟩, ⟨(er _).trans d1, hk.isO d2, (hk.2.1 _ d2.1).2.trans d3⟩, ⟨(er _).trans e1, hk.isO e2, (hk.2.1 _ e2.1).2.trans e3⟩⟩
theorem Kq.xf {P Q T : Nat → Bool} {σ σ' : HS} (hk : Kq P Q T σ σ') {φ : Nat} {Φ : FM} (h : XF σ φ Φ) : XF σ' φ Φ := by
  obtain ⟨ft, hn, hc⟩ := h
  have f0 := ft.1
  have ft' := ft
  obtain ⟨h0, h1, ⟨a1, a2, a3⟩, ⟨b1, b2, b3⟩, ⟨c1, c2, c3⟩, ⟨d1, d2, d3⟩, ⟨e1, e2, e3⟩⟩ := ft'
  refine ⟨hk.ft ft, (hk.A h1.1 (hk.2.2.2.2.2.1 _ h0) 0).trans hn, fun i hi => ?_⟩
  obtain ⟨q1, q2, q3, q4, q5⟩ := hc i hi
  exact ⟨(hk.A a2.1 (hk.2.2.2.2.2.1 _ (by omega)) i).trans q1, (hk.A b2.1 (hk.2.2.2.2.2.1 _ (by omega)) i).trans q2, (hk.A c2.1 (hk.2.2.2.2.2.1 _ (by omega)) i).trans q3, (hk.A d2.1 (hk.2.2.2.2.2.1 _ (by omega)) i).trans q4, (hk.A e2.1 (hk.2.2.2.2.2.1 _ (by omega)) i).trans q5⟩
theorem Kq.xi {P Q T : Nat → Bool} {σ σ' : HS} (hk : Kq P Q T σ σ') {φ : Nat} {Φ : FM} (hx : XF σ φ Φ) (h : XI σ φ Φ) : XI σ' φ Φ := by
  have h1 := hx.1.2.1.1
  have e := fun k => hk.A h1 (hk.2.2.2.2.2.1 _ hx.1.1) k
  exact ⟨(e _).trans h.1, (e _).trans h.2.1, (e _).trans h.2.2.1, (e _).trans h.2.2.2⟩
theorem Kq.okk {P Q T : Nat → Bool} {σ σ' : HS} (hk : Kq P Q T σ σ') {o : Option Nat} (h : okF σ o = true) : okF σ' o = true := by
  cases o with
  | none => rfl
  | some v =>
    simp only [okF, Bool.and_eq_true, decide_eq_true_eq] at h ⊢
    exact hk.isO h
theorem Kq.src {P Q T : Nat → Bool} {σ σ' : HS} (hk : Kq P Q T σ σ') (ht : Typ σ) {a q : Nat} (hq : q < 76) (ha : a + 2 < 76) (s0 : P a = false) (s1 : P (a + 1) = false) (s2 : P (a + 2) = false) (s3 : P q = false) {V S C : Nat → Int32} (h : SrcI σ a q V S C) : SrcI σ' a q V S C := fun s hs => by
  have t := ht.1
  obtain ⟨⟨a1, a2, a3⟩, ⟨b1, b2, b3⟩, r⟩ := h s hs
  have e := fun j (h1 : j < 76) h2 k => hk.A (j := j) (Nat.lt_of_lt_of_le h1 t) h2 k
  exact ⟨⟨(e _ (by omega) s0 _).trans a1, (e _ (by omega) s1 _).trans a2, (e _ (by omega) s2 _).trans a3⟩, ⟨(e _ hq s3 _).trans b1, (e _ hq s3 _).trans b2, (e _ hq s3 _).trans b3⟩, r⟩
theorem Kq.fm {P Q T : Nat → Bool} {σ σ' : HS} (hk : Kq P Q T σ σ') (ht : Typ σ) {o r c b n : Nat} (ho : o < 76) (hr : r < 76 ∧ T r = false) (hb : b + 4 < 76) (hc : Q c = false) (so4 : hA σ' o 4 = hA σ o 4) (s0 : P b = false) (s1 : P (b + 1) = false) (s2 : P (b + 2) = false) (s3 : P (b + 3) = false) (s4 : P (b + 4) = false) {FS : Nat → FM} (h : FmI σ o r c b n FS) : FmI σ' o r c b n FS := by
  have t := ht.1
  have e := fun j (h1 : j < 76) h2 k => hk.A (j := j) (Nat.lt_of_lt_of_le h1 t) h2 k
  have er : ∀ k, hR σ' r k = hR σ r k := fun k => congrFun (hk.2.2.1 r (Or.inl hr)) k
  obtain ⟨h1, h2, h3, h4, h5, h6, h7⟩ := h
  refine ⟨h1, h2, so4.trans h3, (hk.2.2.2.2.1 c hc).trans h4, fun k hk' => ?_, fun f hf => ?_, fun k hk' => ?_⟩
  · obtain ⟨φ, p1, p2, p3⟩ := h5 k hk'
    exact ⟨φ, (er k).trans p1, hk.xf p2, hk.xi p2 p3⟩
  · obtain ⟨m1, m2⟩ := h6 f hf
    refine ⟨(e _ (by omega) s4 _).trans m1, fun i hi => ?_⟩
    obtain ⟨q1, q2, q3, q4⟩ := m2 i hi
    exact ⟨(e _ (by omega) s0 _).trans q1, (e _ (by omega) s1 _).trans q2, (e _ (by omega) s2 _).trans q3, (e _ (by omega) s3 _).trans q4⟩
  · rw [er k]; exact hk.okk (h7 k hk')
theorem Kq.tap {P Q T : Nat → Bool} {σ σ' : HS} (hk : Kq P Q T σ σ') (ht : Typ σ) (p17 : P 17 = false) (p18 : P 18 = false) (p61 : P 61 = false) (q16 : Q 16 = false) {t : Nat} {B : Nat → Nat} (h : TapI σ t B) : TapI σ' t B := by
  have t76 := ht.1
  have e := fun j (h1 : j < 76) h2 k => hk.A (j := j) (Nat.lt_of_lt_of_le h1 t76) h2 k
  obtain ⟨h1, h2, h3, h4⟩ := h
  refine ⟨h1, (e _ (by decide) p17 _).trans h2, (hk.2.2.2.2.1 16 q16).trans h3, fun k hk' => ?_⟩
  obtain ⟨q1, q2, q3⟩ := h4 k hk'
  exact ⟨(e _ (by decide) p18 _).trans q1, (e _ (by decide) p61 _).trans q2, q3⟩
theorem Kq.pl {P Q T : Nat → Bool} {σ σ' : HS} (hk : Kq P Q T σ σ') (ht : Typ σ) {o a q c p : Nat} (ho : o < 76) (ha : a + 2 < 76) (hq : q < 76) (hc : Q c = false) (so8 : hA σ' o 8 = hA σ o 8) (s0 : P a = false) (s1 : P (a + 1) = false) (s2 : P (a + 2) = false) (s3 : P q = false) {PS PW PV : Nat → Int32} (h : PlI σ o a q c p PS PW PV) : PlI σ' o a q c p PS PW PV := by
  have t76 := ht.1
  have e := fun j (h1 : j < 76) h2 k => hk.A (j := j) (Nat.lt_of_lt_of_le h1 t76) h2 k
  obtain ⟨h1, h2, h3, h4⟩ := h
  refine ⟨h1, so8.trans h2, (hk.2.2.2.2.1 c hc).trans h3, fun k hk' => ?_⟩
  obtain ⟨⟨q1, q2, q3⟩, ⟨r1, r2, r3⟩, r⟩ := h4 k hk'
  exact ⟨⟨(e _ (by omega) s0 _).trans q1, (e _ (by omega) s1 _).trans q2, (e _ (by omega) s2 _).trans q3⟩, ⟨(e _ hq s3 _).trans r1, (e _ hq s3 _).trans r2, (e _ hq s3 _).trans r3⟩, r⟩
theorem Kq.lst {P Q T : Nat → Bool} {σ σ' : HS} (hk : Kq P Q T σ σ') (ht : Typ σ) (p46 : P 46 = false) (p74 : P 74 = false) (p42 : ∀ l, l < 4 → P (42 + l) = false) (p75 : P 75 = false) (h : LstI σ) : LstI σ' := fun l hl => by
  have t76 := ht.1
  obtain ⟨h1, h2⟩ := h l hl
  have e1 := hk.A (j := 46) (by omega) p46 l
  have e2 := hk.A (j := 74) (by omega) p74 l
  rw [e1, e2]
  refine ⟨h1, fun k hk' => ?_⟩
  rw [hk.B (j := 42 + l) (by omega) (p42 l hl) k, hk.B (j := 75) (by omega) p75]
  exact h2 k hk'
theorem Kq.way {P Q T : Nat → Bool} {σ σ' : HS} (hk : Kq P Q T σ σ') (ht : Typ σ) (p0 : hA σ' 0 8 = hA σ 0 8) (p47 : P 47 = false) (p67 : P 67 = false) (q29 : Q 29 = false) (h : WayI σ) : WayI σ' := by
  have t76 := ht.1
  obtain ⟨n, h1, h2, h3, h4⟩ := h
  refine ⟨n, h1, p0.trans h2, (hk.2.2.2.2.1 29 q29).trans h3, fun k hk' => ?_⟩
  rw [hk.A (j := 67) (by omega) p67, hk.A (j := 47) (by omega) p47]
  exact h4 k hk'
theorem Kq.img {P Q T : Nat → Bool} {σ σ' : HS} (hk : Kq P Q T σ σ') (ht : Typ σ) (e1 : hA σ' 0 2 = hA σ 0 2) (q14 : Q 14 = false) (q13 : Q 13 = false) (q38 : Q 38 = false) (t13 : T 13 = false) (pr : ∀ j, (9 ≤ j ∧ j ≤ 16) ∨ j = 50 ∨ (56 ≤ j ∧ j ≤ 60) ∨ j = 72 → P j = false) (h : ImgI σ) : ImgI σ' := by
  have t76 := ht.1
  have e2 := hk.2.2.2.2.1 14 q14
  rcases h with h | ⟨h1, ⟨V, S, C, h2⟩, ⟨n, FS, h3⟩, ⟨p, PS, PW, PV, h4⟩⟩
  · exact Or.inl (by rw [e1, e2]; exact h)
  · exact Or.inr ⟨by rw [e1, e2]; exact h1, ⟨V, S, C, hk.src ht (by decide) (by decide) (pr _ (by decide)) (pr _ (by decide)) (pr _ (by decide)) (pr _ (by decide)) h2⟩, ⟨n, FS, hk.fm ht (by decide) ⟨by decide, t13⟩ (by decide) q13 (hk.A (by omega) (pr 9 (by decide)) _) (pr _ (by decide)) (pr _ (by decide)) (pr _ (by decide)) (pr _ (by decide)) (pr _ (by decide)) h3⟩, ⟨p, PS, PW, PV, hk.pl ht (by decide) (by decide) (by decide) q38 (hk.A (by omega) (pr 9 (by decide)) _) (pr _ (by decide)) (pr _ (by decide)) (pr _ (by decide)) (pr _ (by decide)) h4⟩⟩
theorem INV.kp {σ σ' : HS} {V S C : Nat → Int32} {n : Nat} {FS : Nat → FM} (h : INV σ V S C n FS) (hk : Kp σ σ') : INV σ' V S C n FS := by
  obtain ⟨t, h1, h2, ⟨t0, B, h3⟩, ⟨p, PS, PW, PV, h4⟩, h5, h6, h7⟩ := h
  exact ⟨hk.typ t, Kq.src hk t (by decide) (by decide) (by decide) (by decide) (by decide) (by decide) h1, Kq.fm hk t (by decide) (by decide) (by decide) (by decide) (Kq.A hk (Nat.lt_of_lt_of_le (by decide) t.1) (by decide) 4) (by decide) (by decide) (by decide) (by decide) (by decide) h2, ⟨t0, B, Kq.tap hk t (by decide) (by decide) (by decide) (by decide) h3⟩, ⟨p, PS, PW, PV, Kq.pl hk t (by decide) (by decide) (by decide) (by decide) (Kq.A hk (Nat.lt_of_lt_of_le (by decide) t.1) (by decide) 8) (by decide) (by decide) (by decide) (by decide) h4⟩, Kq.lst hk t (by decide) (by decide) (by decide) (by decide) h5, Kq.way hk t (Kq.A hk (Nat.lt_of_lt_of_le (by decide) t.1) (by decide) 8) (by decide) (by decide) (by decide) h6, Kq.img hk t (Kq.A hk (Nat.lt_of_lt_of_le (by decide) t.1) (by decide) 2) (by decide) (by decide) (by decide) (by decide) (fun j hj => by
    have h16 : j = 9 ∨ j = 10 ∨ j = 11 ∨ j = 12 ∨ j = 13 ∨ j = 14 ∨ j = 15 ∨ j = 16 ∨ j = 50 ∨ j = 56 ∨ j = 57 ∨ j = 58 ∨ j = 59 ∨ j = 60 ∨ j = 72 := by omega
    rcases h16 with z | z | z | z | z | z | z | z | z | z | z | z | z | z | z <;> subst z <;> decide) h7⟩
