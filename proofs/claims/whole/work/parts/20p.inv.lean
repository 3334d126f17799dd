/-! what the two halves of the heap have in common -/
def scj (j : Nat) : Bool := (decide (19 ≤ j) && decide (j ≤ 40)) || [62, 63, 64, 65, 66, 68, 69, 70, 73].contains j
def scr (S : List Nat) : Bool := S.all scj
theorem scr_ne {S : List Nat} (h : scr S = true) {j : Nat} (hj : (scj j || j == 48) = false) : j ∉ 48 :: S := fun z => by
  rcases List.mem_cons.mp z with z | z
  · subst z; exact absurd hj (by decide)
  · have h1 := List.all_eq_true.mp h j z
    rw [h1, Bool.true_or] at hj; cases hj
theorem scr_75 {S : List Nat} (h : scr S = true) {j : Nat} (hj : 76 ≤ j) : j ∉ 48 :: S := scr_ne h (by
  have e1 : (decide (j ≤ 40)) = false := by simp; omega
  have e2 : ([62, 63, 64, 65, 66, 68, 69, 70, 73].contains j) = false := by simp; omega
  have e3 : (j == 48) = false := by simp; omega
  unfold scj; rw [e1, e2, e3]; simp)
/-- every part but the last is part of another -/
def RCH (Φ : FM) : Prop := ∀ i, i + 1 < mN Φ → ∃ j, i < j ∧ j < mN Φ ∧ ((2 ≤ mK Φ j ∧ mU Φ j = i) ∨ (3 ≤ mK Φ j ∧ mV Φ j = i))
/-- the sources up to a part, as bits -/
def srcs (Φ : FM) : Nat → Int32
  | 0 => 0
  | i + 1 => srcs Φ i ||| (if mK Φ i = 0 then (1 : Int32) <<< (nI (mU Φ i)) else 0)
/-- the depth of a part -/
def depI (Φ : FM) : Nat → Nat → Nat
  | 0, _ => 0
  | n + 1, i => if mK Φ i ≤ 1 then 0 else if mK Φ i = 2 then 1 + depI Φ n (mU Φ i) else 1 + max (depI Φ n (mU Φ i)) (depI Φ n (mV Φ i))
/-- alike: part i of the one, part j of the other -/
def alI (Φ Ψ : FM) : Nat → Nat → Nat → Bool
  | 0, _, _ => false
  | n + 1, i, j => if mK Φ i ≠ mK Ψ j then false else if mK Φ i ≤ 1 then mU Φ i == mU Ψ j else alI Φ Ψ n (mU Φ i) (mU Ψ j) && (mK Φ i == 2 || alI Φ Ψ n (mV Φ i) (mV Ψ j))
def alF (Φ : FM) (i j : Nat) : Bool := alI Φ Φ 61 i j
def cntB (p : Nat → Bool) : Nat → Nat
  | 0 => 0
  | n + 1 => cntB p n + (if p n then 1 else 0)
def allB (p : Nat → Bool) : Nat → Bool
  | 0 => true
  | n + 1 => allB p n && p n
def maxN (w : Nat → Nat) : Nat → Nat
  | 0 => 0
  | n + 1 => max (maxN w n) (w n)
def unlN (Φ : FM) : Nat := cntB (fun i => allB (fun j => !(alF Φ i j)) i) (mN Φ)
def malN (Φ : FM) : Nat := maxN (fun i => cntB (alF Φ i) (mN Φ)) (mN Φ)
/-- the order in which parts end tells how they are made -/
def PFX (Φ : FM) : Prop := ∃ st : Nat → Nat, ∀ i, i < mN Φ → (mK Φ i ≤ 1 → st i = i) ∧ (mK Φ i = 2 → mU Φ i + 1 = i ∧ st i = st (mU Φ i)) ∧ (3 ≤ mK Φ i → mV Φ i + 1 = i ∧ mU Φ i + 1 = st (mV Φ i) ∧ st i = st (mU Φ i))
def Good (Φ : FM) : Prop := WF Φ ∧ RCH Φ ∧ PFX Φ
def XI (σ : HS) (φ : Nat) (Φ : FM) : Prop := hA σ φ 6 = srcs Φ (mN Φ) ∧ hA σ φ 7 = nI (depI Φ 61 (mN Φ - 1)) ∧ hA σ φ 8 = nI (unlN Φ) ∧ hA σ φ 9 = nI (malN Φ)
def rgI (a : Int32) (l h : Int) : Prop := l ≤ a.toInt ∧ a.toInt ≤ h
def SrcI (σ : HS) (a q : Nat) (V S C : Nat → Int32) : Prop := ∀ s, s < 6 → (hA σ a s = V s ∧ hA σ (a + 1) s = S s ∧ hA σ (a + 2) s = C s) ∧ (hA σ q (3 * s) = V s ∧ hA σ q (3 * s + 1) = S s ∧ hA σ q (3 * s + 2) = C s) ∧ rgI (V s) (-99) 99 ∧ rgI (S s) 0 20 ∧ rgI (C s) 0 99
def MFb (σ : HS) (b f : Nat) (Φ : FM) : Prop := hA σ (b + 4) f = nI (mN Φ) ∧ ∀ i, i < mN Φ → hA σ b (60 * f + i) = nI (mK Φ i) ∧ hA σ (b + 1) (60 * f + i) = nI (mU Φ i) ∧ hA σ (b + 2) (60 * f + i) = nI (mV Φ i) ∧ hA σ (b + 3) (60 * f + i) = nI (mP Φ i)
def FmI (σ : HS) (o r c b n : Nat) (FS : Nat → FM) : Prop := n ≤ 6 ∧ (∀ k, k < n → Good (FS k)) ∧ hA σ o 4 = nI n ∧ hA σ 48 c = nI n ∧ (∀ k, k < n → ∃ φ, hR σ r k = some φ ∧ XF σ φ (FS k) ∧ XI σ φ (FS k)) ∧ (∀ f, f < n → MFb σ b f (FS f)) ∧ ∀ k, k < 6 → okF σ (hR σ r k) = true
def TapI (σ : HS) (t : Nat) (B : Nat → Nat) : Prop := t ≤ 60 ∧ hA σ 17 1 = nI t ∧ hA σ 48 16 = nI t ∧ ∀ k, k < t → hA σ 18 k = nI (B k) ∧ hA σ 61 k = nI (B k) ∧ 1 ≤ B k ∧ B k ≤ 127
def PlI (σ : HS) (o a q c p : Nat) (PS PW PV : Nat → Int32) : Prop := p ≤ 8 ∧ hA σ o 8 = nI p ∧ hA σ 48 c = nI p ∧ ∀ k, k < p → (hA σ a k = PS k ∧ hA σ (a + 1) k = PW k ∧ hA σ (a + 2) k = PV k) ∧ (hA σ q (3 * k) = PS k ∧ hA σ q (3 * k + 1) = PW k ∧ hA σ q (3 * k + 2) = PV k) ∧ rgI (PS k) 0 5 ∧ (PW k = 0 ∧ rgI (PV k) (-99) 99 ∨ PW k = 1 ∧ rgI (PV k) 0 20 ∨ PW k = 2 ∧ rgI (PV k) 0 4)
def LstI (σ : HS) : Prop := ∀ l, l < 4 → ((hA σ 46 l = -11 ∧ hA σ 74 l = -1) ∨ ∃ n, n ≤ 8 ∧ hA σ 46 l = nI n ∧ hA σ 74 l = nI n) ∧ ∀ k, k < 8 → hB σ (42 + l) k = hB σ 75 (8 * l + k)
def WayI (σ : HS) : Prop := ∃ n, n ≤ 60 ∧ hA σ 0 8 = nI n ∧ hA σ 48 29 = nI n ∧ ∀ k, k < n → hA σ 67 k = hA σ 47 (n - 1 - k)
def ImgI (σ : HS) : Prop := (hA σ 0 2 = 0 ∧ hA σ 48 14 = 0) ∨ ((hA σ 0 2 = 1 ∧ hA σ 48 14 = 1) ∧ (∃ V S C, SrcI σ 10 50 V S C) ∧ (∃ n FS, FmI σ 9 13 13 56 n FS) ∧ ∃ p PS PW PV, PlI σ 9 14 72 38 p PS PW PV)
def INV (σ : HS) (V S C : Nat → Int32) (n : Nat) (FS : Nat → FM) : Prop := Typ σ ∧ SrcI σ 2 49 V S C ∧ FmI σ 1 5 7 51 n FS ∧ (∃ t B, TapI σ t B) ∧ (∃ p PS PW PV, PlI σ 1 6 71 36 p PS PW PV) ∧ LstI σ ∧ WayI σ ∧ ImgI σ
/-- what is kept of the heap: all but scratch -/
def Kp (σ σ' : HS) : Prop := hN σ ≤ hN σ' ∧ (∀ j, j < hN σ → hty σ' j = hty σ j ∧ hlen σ' j = hlen σ j) ∧ (∀ j, j < 76 ∨ (j < hN σ ∧ hty σ j = 0) → hR σ' j = hR σ j) ∧ (∀ j, j < hN σ → (scj j || j == 48) = false → hA σ' j = hA σ j ∧ hB σ' j = hB σ j) ∧ ∀ k, (k < 17 ∨ 20 < k) → hA σ' 48 k = hA σ 48 k
theorem Mf.kp {S : List Nat} {σ σ' : HS} (h : Mf S σ σ') (hs : scr S = true) : Kp σ σ' := ⟨Nat.le_of_eq h.1.1.symm, fun j _ => ⟨h.1.ty j, h.1.len j⟩, fun j _ => h.1.Rr j, fun j _ hj => h.1.2.2.2.2 j (scr_ne hs hj), h.2⟩
theorem Fr.kp {S : List Nat} {σ σ' : HS} (h : Fr S σ σ') (hs : scr S = true) : Kp σ σ' := Mf.kp (S := S) ⟨h.mono (fun j hj => List.mem_cons_of_mem _ hj), fun k _ => h.A (fun z => by
  have h1 := List.all_eq_true.mp hs 48 z
  exact absurd h1 (by decide)) k⟩ hs
theorem Kp.rf {σ : HS} : Kp σ σ := ⟨Nat.le_refl _, fun _ _ => ⟨rfl, rfl⟩, fun _ _ => rfl, fun _ _ _ => ⟨rfl, rfl⟩, fun _ _ => rfl⟩
theorem Kp.typ {σ σ' : HS} (h : Kp σ σ') (ht : Typ σ) : Typ σ' := ht.cong h.1 (fun j hj => ⟨(h.2.1 j (Nat.lt_of_lt_of_le hj ht.1)).1, (h.2.1 j (Nat.lt_of_lt_of_le hj ht.1)).2, fun _ _ => h.2.2.1 j (Or.inl hj)⟩)
theorem Kp.A {σ σ' : HS} (h : Kp σ σ') {j : Nat} (hj : j < hN σ) (hs : (scj j || j == 48) = false) (k : Nat) : hA σ' j k = hA σ j k := congrFun (h.2.2.2.1 j hj hs).1 k
theorem Kp.B {σ σ' : HS} (h : Kp σ σ') {j : Nat} (hj : j < hN σ) (hs : (scj j || j == 48) = false) (k : Nat) : hB σ' j k = hB σ j k := congrFun (h.2.2.2.1 j hj hs).2 k
theorem scj_76 {j : Nat} (hj : 76 ≤ j) : (scj j || j == 48) = false := by
  have e1 : (decide (j ≤ 40)) = false := by simp; omega
  have e2 : ([62, 63, 64, 65, 66, 68, 69, 70, 73].contains j) = false := by simp; omega
  have e3 : (j == 48) = false := by simp; omega
  unfold scj; rw [e1, e2, e3]; simp
theorem Kp.isO {σ σ' : HS} (h : Kp σ σ') {t j : Nat} (hj : isO σ t j) : isO σ' t j := ⟨Nat.lt_of_lt_of_le hj.1 h.1, (h.2.1 j hj.1).1.trans hj.2⟩
theorem Kp.ft {σ σ' : HS} (hk : Kp σ σ') {φ n : Nat} (h : FT σ φ n) : FT σ' φ n := by
  obtain ⟨h0, h1, ⟨a1, a2, a3⟩, ⟨b1, b2, b3⟩, ⟨c1, c2, c3⟩, ⟨d1, d2, d3⟩, ⟨e1, e2, e3⟩⟩ := h
  have er : ∀ k, hR σ' φ k = hR σ φ k := fun k => congrFun (hk.2.2.1 φ (Or.inr ⟨h1.1, h1.2⟩)) k
  exact ⟨h0, hk.isO h1, ⟨(er _).trans a1, hk.isO a2, (hk.2.1 _ a2.1).2.trans a3⟩, ⟨(er _).trans b1, hk.isO b2, (hk.2.1 _ b2.1).2.trans b3⟩, ⟨(er _).trans c1, hk.isO c2, (hk.2.1 _ c2.1).2.trans c3⟩, ⟨(er _).trans d1, hk.isO d2, (hk.2.1 _ d2.1).2.trans d3⟩, ⟨(er _).trans e1, hk.isO e2, (hk.2.1 _ e2.1).2.trans e3⟩⟩
theorem Kp.xf {σ σ' : HS} (hk : Kp σ σ') {φ : Nat} {Φ : FM} (h : XF σ φ Φ) : XF σ' φ Φ := by
  obtain ⟨ft, hn, hc⟩ := h
  have f0 := ft.1
  have ft' := ft
  obtain ⟨h0, h1, ⟨a1, a2, a3⟩, ⟨b1, b2, b3⟩, ⟨c1, c2, c3⟩, ⟨d1, d2, d3⟩, ⟨e1, e2, e3⟩⟩ := ft'
  refine ⟨hk.ft ft, (hk.A h1.1 (scj_76 h0) 0).trans hn, fun i hi => ?_⟩
  obtain ⟨q1, q2, q3, q4, q5⟩ := hc i hi
  exact ⟨(hk.A a2.1 (scj_76 (by omega)) i).trans q1, (hk.A b2.1 (scj_76 (by omega)) i).trans q2, (hk.A c2.1 (scj_76 (by omega)) i).trans q3, (hk.A d2.1 (scj_76 (by omega)) i).trans q4, (hk.A e2.1 (scj_76 (by omega)) i).trans q5⟩
theorem Kp.xi {σ σ' : HS} (hk : Kp σ σ') {φ : Nat} {Φ : FM} (hx : XF σ φ Φ) (h : XI σ φ Φ) : XI σ' φ Φ := by
  have h1 := hx.1.2.1.1
  have e := fun k => hk.A h1 (scj_76 hx.1.1) k
  exact ⟨(e _).trans h.1, (e _).trans h.2.1, (e _).trans h.2.2.1, (e _).trans h.2.2.2⟩
theorem Kp.okk {σ σ' : HS} (hk : Kp σ σ') {o : Option Nat} (h : okF σ o = true) : okF σ' o = true := by
  cases o with
  | none => rfl
  | some v =>
    simp only [okF, Bool.and_eq_true, decide_eq_true_eq] at h ⊢
    exact hk.isO h
theorem Kp.src {σ σ' : HS} (hk : Kp σ σ') (ht : Typ σ) {a q : Nat} (hq : q < 76) (ha : a + 2 < 76) (s0 : (scj a || a == 48) = false) (s1 : (scj (a + 1) || (a + 1) == 48) = false) (s2 : (scj (a + 2) || (a + 2) == 48) = false) (s3 : (scj q || q == 48) = false) {V S C : Nat → Int32} (h : SrcI σ a q V S C) : SrcI σ' a q V S C := fun s hs => by
  have t := ht.1
  obtain ⟨⟨a1, a2, a3⟩, ⟨b1, b2, b3⟩, r⟩ := h s hs
  have e := fun j (h1 : j < 76) h2 k => hk.A (j := j) (Nat.lt_of_lt_of_le h1 t) h2 k
  exact ⟨⟨(e _ (by omega) s0 _).trans a1, (e _ (by omega) s1 _).trans a2, (e _ (by omega) s2 _).trans a3⟩, ⟨(e _ hq s3 _).trans b1, (e _ hq s3 _).trans b2, (e _ hq s3 _).trans b3⟩, r⟩
theorem Kp.fm {σ σ' : HS} (hk : Kp σ σ') (ht : Typ σ) {o r c b n : Nat} (ho : o < 76) (hr : r < 76) (hb : b + 4 < 76) (hc : c < 17 ∨ 20 < c) (so : (scj o || o == 48) = false) (s0 : (scj b || b == 48) = false) (s1 : (scj (b + 1) || (b + 1) == 48) = false) (s2 : (scj (b + 2) || (b + 2) == 48) = false) (s3 : (scj (b + 3) || (b + 3) == 48) = false) (s4 : (scj (b + 4) || (b + 4) == 48) = false) {FS : Nat → FM} (h : FmI σ o r c b n FS) : FmI σ' o r c b n FS := by
  have t := ht.1
  have e := fun j (h1 : j < 76) h2 k => hk.A (j := j) (Nat.lt_of_lt_of_le h1 t) h2 k
  have er : ∀ k, hR σ' r k = hR σ r k := fun k => congrFun (hk.2.2.1 r (Or.inl hr)) k
  obtain ⟨h1, h2, h3, h4, h5, h6, h7⟩ := h
  refine ⟨h1, h2, (e _ ho so _).trans h3, (hk.2.2.2.2 c hc).trans h4, fun k hk' => ?_, fun f hf => ?_, fun k hk' => ?_⟩
  · obtain ⟨φ, p1, p2, p3⟩ := h5 k hk'
    exact ⟨φ, (er k).trans p1, hk.xf p2, hk.xi p2 p3⟩
  · obtain ⟨m1, m2⟩ := h6 f hf
    refine ⟨(e _ (by omega) s4 _).trans m1, fun i hi => ?_⟩
    obtain ⟨q1, q2, q3, q4⟩ := m2 i hi
    exact ⟨(e _ (by omega) s0 _).trans q1, (e _ (by omega) s1 _).trans q2, (e _ (by omega) s2 _).trans q3, (e _ (by omega) s3 _).trans q4⟩
  · rw [er k]; exact hk.okk (h7 k hk')
theorem Kp.tap {σ σ' : HS} (hk : Kp σ σ') (ht : Typ σ) {t : Nat} {B : Nat → Nat} (h : TapI σ t B) : TapI σ' t B := by
  have t76 := ht.1
  have e := fun j (h1 : j < 76) h2 k => hk.A (j := j) (Nat.lt_of_lt_of_le h1 t76) h2 k
  obtain ⟨h1, h2, h3, h4⟩ := h
  refine ⟨h1, (e _ (by decide) (by decide) _).trans h2, (hk.2.2.2.2 16 (by decide)).trans h3, fun k hk' => ?_⟩
  obtain ⟨q1, q2, q3⟩ := h4 k hk'
  exact ⟨(e _ (by decide) (by decide) _).trans q1, (e _ (by decide) (by decide) _).trans q2, q3⟩
theorem Kp.pl {σ σ' : HS} (hk : Kp σ σ') (ht : Typ σ) {o a q c p : Nat} (ho : o < 76) (ha : a + 2 < 76) (hq : q < 76) (hc : c < 17 ∨ 20 < c) (so : (scj o || o == 48) = false) (s0 : (scj a || a == 48) = false) (s1 : (scj (a + 1) || (a + 1) == 48) = false) (s2 : (scj (a + 2) || (a + 2) == 48) = false) (s3 : (scj q || q == 48) = false) {PS PW PV : Nat → Int32} (h : PlI σ o a q c p PS PW PV) : PlI σ' o a q c p PS PW PV := by
  have t76 := ht.1
  have e := fun j (h1 : j < 76) h2 k => hk.A (j := j) (Nat.lt_of_lt_of_le h1 t76) h2 k
  obtain ⟨h1, h2, h3, h4⟩ := h
  refine ⟨h1, (e _ ho so _).trans h2, (hk.2.2.2.2 c hc).trans h3, fun k hk' => ?_⟩
  obtain ⟨⟨q1, q2, q3⟩, ⟨r1, r2, r3⟩, r⟩ := h4 k hk'
  exact ⟨⟨(e _ (by omega) s0 _).trans q1, (e _ (by omega) s1 _).trans q2, (e _ (by omega) s2 _).trans q3⟩, ⟨(e _ hq s3 _).trans r1, (e _ hq s3 _).trans r2, (e _ hq s3 _).trans r3⟩, r⟩
theorem Kp.lst {σ σ' : HS} (hk : Kp σ σ') (ht : Typ σ) (h : LstI σ) : LstI σ' := fun l hl => by
  have t76 := ht.1
  obtain ⟨h1, h2⟩ := h l hl
  have e1 := hk.A (j := 46) (by omega) (by decide) l
  have e2 := hk.A (j := 74) (by omega) (by decide) l
  rw [e1, e2]
  refine ⟨h1, fun k hk' => ?_⟩
  have sl : (scj (42 + l) || (42 + l) == 48) = false := by
    have : l = 0 ∨ l = 1 ∨ l = 2 ∨ l = 3 := by omega
    rcases this with z | z | z | z <;> subst z <;> decide
  rw [hk.B (j := 42 + l) (by omega) sl k, hk.B (j := 75) (by omega) (by decide)]
  exact h2 k hk'
theorem Kp.way {σ σ' : HS} (hk : Kp σ σ') (ht : Typ σ) (h : WayI σ) : WayI σ' := by
  have t76 := ht.1
  obtain ⟨n, h1, h2, h3, h4⟩ := h
  refine ⟨n, h1, (hk.A (by omega) (by decide) _).trans h2, (hk.2.2.2.2 29 (by decide)).trans h3, fun k hk' => ?_⟩
  rw [hk.A (j := 67) (by omega) (by decide), hk.A (j := 47) (by omega) (by decide)]
  exact h4 k hk'
theorem Kp.img {σ σ' : HS} (hk : Kp σ σ') (ht : Typ σ) (h : ImgI σ) : ImgI σ' := by
  have t76 := ht.1
  have e1 := hk.A (j := 0) (by omega) (by decide) 2
  have e2 := hk.2.2.2.2 14 (by decide)
  rcases h with h | ⟨h1, ⟨V, S, C, h2⟩, ⟨n, FS, h3⟩, ⟨p, PS, PW, PV, h4⟩⟩
  · exact Or.inl (by rw [e1, e2]; exact h)
  · exact Or.inr ⟨by rw [e1, e2]; exact h1, ⟨V, S, C, hk.src ht (by decide) (by decide) (by decide) (by decide) (by decide) (by decide) h2⟩, ⟨n, FS, hk.fm ht (by decide) (by decide) (by decide) (by decide) (by decide) (by decide) (by decide) (by decide) (by decide) (by decide) h3⟩, ⟨p, PS, PW, PV, hk.pl ht (by decide) (by decide) (by decide) (by decide) (by decide) (by decide) (by decide) (by decide) (by decide) h4⟩⟩
theorem INV.kp {σ σ' : HS} {V S C : Nat → Int32} {n : Nat} {FS : Nat → FM} (h : INV σ V S C n FS) (hk : Kp σ σ') : INV σ' V S C n FS := by
  obtain ⟨t, h1, h2, ⟨t0, B, h3⟩, ⟨p, PS, PW, PV, h4⟩, h5, h6, h7⟩ := h
  exact ⟨hk.typ t, hk.src t (by decide) (by decide) (by decide) (by decide) (by decide) (by decide) h1, hk.fm t (by decide) (by decide) (by decide) (by decide) (by decide) (by decide) (by decide) (by decide) (by decide) (by decide) h2, ⟨t0, B, hk.tap t h3⟩, ⟨p, PS, PW, PV, hk.pl t (by decide) (by decide) (by decide) (by decide) (by decide) (by decide) (by decide) (by decide) (by decide) h4⟩, hk.lst t h5, hk.way t h6, hk.img t h7⟩
