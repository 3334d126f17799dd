/-! alike, and how deep: what is so of them -/
theorem alS (Φ Ψ : FM) (n i j : Nat) : alI Φ Ψ (n + 1) i j = true ↔ mK Φ i = mK Ψ j ∧ (mK Φ i ≤ 1 → mU Φ i = mU Ψ j) ∧ (2 ≤ mK Φ i → alI Φ Ψ n (mU Φ i) (mU Ψ j) = true) ∧ (3 ≤ mK Φ i → alI Φ Ψ n (mV Φ i) (mV Ψ j) = true) := by
  rw [show alI Φ Ψ (n + 1) i j = (if mK Φ i ≠ mK Ψ j then false else if mK Φ i ≤ 1 then mU Φ i == mU Ψ j else alI Φ Ψ n (mU Φ i) (mU Ψ j) && (mK Φ i == 2 || alI Φ Ψ n (mV Φ i) (mV Ψ j))) from rfl]
  by_cases c : mK Φ i = mK Ψ j
  · rw [if_neg (fun z => z c)]
    by_cases c1 : mK Φ i ≤ 1
    · rw [if_pos c1, beq_iff_eq]
      exact ⟨fun z => ⟨c, fun _ => z, fun z => by omega, fun z => by omega⟩, fun z => z.2.1 c1⟩
    · rw [if_neg c1, Bool.and_eq_true, Bool.or_eq_true, beq_iff_eq]
      exact ⟨fun z => ⟨c, fun z => by omega, fun _ => z.1, fun y => z.2.resolve_left (by omega)⟩, fun z => ⟨z.2.2.1 (by omega), by
        by_cases c2 : mK Φ i = 2
        · exact Or.inl c2
        · exact Or.inr (z.2.2.2 (by omega))⟩⟩
  · rw [if_pos c]
    exact ⟨fun z => (by cases z), fun z => absurd z.1 c⟩
theorem alI_rf {Φ : FM} (hw : wfR Φ) : ∀ n i, i < n → i < mN Φ → alI Φ Φ n i i = true := by
  intro n
  induction n with
  | zero => intro i h; omega
  | succ n ih =>
    intro i h hi
    obtain ⟨k5, ku0, ku1, ku, kv, kv0, kp⟩ := hw i hi
    exact (alS Φ Φ n i i).mpr ⟨rfl, fun _ => rfl, fun z => ih _ (by have := ku z; omega) (by have := ku z; omega), fun z => ih _ (by have := kv z; omega) (by have := kv z; omega)⟩
theorem alI_sy {Φ : FM} : ∀ n i j, alI Φ Φ n i j = true → alI Φ Φ n j i = true := by
  intro n
  induction n with
  | zero => intro i j h; cases h
  | succ n ih =>
    intro i j h
    obtain ⟨h1, h2, h3, h4⟩ := (alS Φ Φ n i j).mp h
    exact (alS Φ Φ n j i).mpr ⟨h1.symm, fun z => (h2 (by omega)).symm, fun z => ih _ _ (h3 (by omega)), fun z => ih _ _ (h4 (by omega))⟩
theorem alI_tr {Φ : FM} : ∀ n i j k, alI Φ Φ n i j = true → alI Φ Φ n j k = true → alI Φ Φ n i k = true := by
  intro n
  induction n with
  | zero => intro i j k h; cases h
  | succ n ih =>
    intro i j k h g
    obtain ⟨h1, h2, h3, h4⟩ := (alS Φ Φ n i j).mp h
    obtain ⟨g1, g2, g3, g4⟩ := (alS Φ Φ n j k).mp g
    exact (alS Φ Φ n i k).mpr ⟨h1.trans g1, fun z => (h2 z).trans (g2 (by omega)), fun z => ih _ _ _ (h3 z) (g3 (by omega)), fun z => ih _ _ _ (h4 z) (g4 (by omega))⟩
theorem alI_fu {Φ : FM} (hw : wfR Φ) : ∀ n m i j, i < n → i < m → i < mN Φ → alI Φ Φ n i j = true → alI Φ Φ m i j = true := by
  intro n
  induction n with
  | zero => intro m i j h; omega
  | succ n ih =>
    intro m i j h hm hi h0
    obtain ⟨m, rfl⟩ : ∃ k, m = k + 1 := ⟨m - 1, by omega⟩
    obtain ⟨k5, ku0, ku1, ku, kv, kv0, kp⟩ := hw i hi
    obtain ⟨h1, h2, h3, h4⟩ := (alS Φ Φ n i j).mp h0
    exact (alS Φ Φ m i j).mpr ⟨h1, h2, fun z => ih m _ _ (by have := ku z; omega) (by have := ku z; omega) (by have := ku z; omega) (h3 z), fun z => ih m _ _ (by have := kv z; omega) (by have := kv z; omega) (by have := kv z; omega) (h4 z)⟩
theorem alF_s {Φ : FM} (hw : WF Φ) {i j : Nat} (hi : i < mN Φ) : alF Φ i j = true ↔ mK Φ i = mK Φ j ∧ (mK Φ i ≤ 1 → mU Φ i = mU Φ j) ∧ (2 ≤ mK Φ i → alF Φ (mU Φ i) (mU Φ j) = true) ∧ (3 ≤ mK Φ i → alF Φ (mV Φ i) (mV Φ j) = true) := by
  have n60 := hw.2.1
  obtain ⟨k5, ku0, ku1, ku, kv, kv0, kp⟩ := hw.2.2 i hi
  refine (alS Φ Φ 60 i j).trans ⟨fun h => ⟨h.1, h.2.1, fun z => ?_, fun z => ?_⟩, fun h => ⟨h.1, h.2.1, fun z => ?_, fun z => ?_⟩⟩
  · have := ku z
    exact alI_fu hw.2.2 60 61 _ _ (by omega) (by omega) (by omega) (h.2.2.1 z)
  · have := kv z
    exact alI_fu hw.2.2 60 61 _ _ (by omega) (by omega) (by omega) (h.2.2.2 z)
  · have := ku z
    exact alI_fu hw.2.2 61 60 _ _ (by omega) (by omega) (by omega) (h.2.2.1 z)
  · have := kv z
    exact alI_fu hw.2.2 61 60 _ _ (by omega) (by omega) (by omega) (h.2.2.2 z)
theorem alF_rf {Φ : FM} (hw : WF Φ) {i : Nat} (hi : i < mN Φ) : alF Φ i i = true := alI_rf hw.2.2 61 i (by have := hw.2.1; omega) hi
/-- the first alike -/
def lkF (Φ : FM) (i : Nat) : Nat → Nat → Nat
  | 0, j => j
  | d + 1, j => if alF Φ i j = true then j else lkF Φ i d (j + 1)
def lik (Φ : FM) (i : Nat) : Nat := lkF Φ i i 0
theorem lkF_ok {Φ : FM} (hw : WF Φ) {i : Nat} (hi : i < mN Φ) : ∀ d j, j + d = i → (∀ k, k < j → alF Φ i k ≠ true) → lkF Φ i d j ≤ i ∧ alF Φ i (lkF Φ i d j) = true ∧ ∀ k, k < lkF Φ i d j → alF Φ i k ≠ true := by
  intro d
  induction d with
  | zero =>
    intro j hj h
    have : j = i := by omega
    subst this
    exact ⟨Nat.le_refl _, alF_rf hw hi, h⟩
  | succ d ih =>
    intro j hj h
    rw [show lkF Φ i (d + 1) j = (if alF Φ i j = true then j else lkF Φ i d (j + 1)) from rfl]
    by_cases c : alF Φ i j = true
    · rw [if_pos c]; exact ⟨by omega, c, h⟩
    · rw [if_neg c]
      exact ih (j + 1) (by omega) (fun k hk => by
        by_cases e : k = j
        · subst e; exact c
        · exact h k (by omega))
theorem lik_ok {Φ : FM} (hw : WF Φ) {i : Nat} (hi : i < mN Φ) : lik Φ i ≤ i ∧ alF Φ i (lik Φ i) = true ∧ ∀ k, k < lik Φ i → alF Φ i k ≠ true := lkF_ok hw hi i 0 (by omega) (fun k hk => by omega)
theorem lik_iff {Φ : FM} (hw : WF Φ) {i j : Nat} (hi : i < mN Φ) (hj : j < mN Φ) : lik Φ i = lik Φ j ↔ alF Φ i j = true := by
  obtain ⟨a1, a2, a3⟩ := lik_ok hw hi
  obtain ⟨b1, b2, b3⟩ := lik_ok hw hj
  constructor
  · intro e
    rw [← e] at b2
    exact alI_tr 61 _ _ _ a2 (alI_sy 61 _ _ b2)
  · intro e
    have c1 : alF Φ j (lik Φ i) = true := alI_tr 61 _ _ _ (alI_sy 61 _ _ e) a2
    have c2 : alF Φ i (lik Φ j) = true := alI_tr 61 _ _ _ e b2
    by_cases l1 : lik Φ i < lik Φ j
    · exact absurd c1 (b3 _ l1)
    · by_cases l2 : lik Φ j < lik Φ i
      · exact absurd c2 (a3 _ l2)
      · omega
theorem allB_iff (p : Nat → Bool) : ∀ n, allB p n = true ↔ ∀ k, k < n → p k = true := by
  intro n
  induction n with
  | zero => exact ⟨fun _ k hk => by omega, fun _ => rfl⟩
  | succ n ih =>
    rw [show allB p (n + 1) = (allB p n && p n) from rfl, Bool.and_eq_true, ih]
    exact ⟨fun h k hk => by
      by_cases e : k = n
      · subst e; exact h.2
      · exact h.1 k (by omega), fun h => ⟨fun k hk => h k (by omega), h n (by omega)⟩⟩
theorem lik_self {Φ : FM} (hw : WF Φ) {i : Nat} (hi : i < mN Φ) : lik Φ i = i ↔ allB (fun j => !(alF Φ i j)) i = true := by
  obtain ⟨a1, a2, a3⟩ := lik_ok hw hi
  rw [allB_iff]
  constructor
  · intro e k hk
    have := a3 k (by omega)
    simp only [Bool.not_eq_true'] 
    exact Bool.eq_false_iff.mpr this
  · intro h
    by_cases l : lik Φ i < i
    · have := h _ l
      rw [a2] at this; cases this
    · omega
theorem maxN_ub {w : Nat → Nat} {b : Nat} : ∀ n, (∀ i, i < n → w i ≤ b) → maxN w n ≤ b := by
  intro n
  induction n with
  | zero => intro _; exact Nat.zero_le _
  | succ n ih =>
    intro h
    exact Nat.max_le.mpr ⟨ih (fun i hi => h i (by omega)), h n (by omega)⟩
theorem le_maxN {w : Nat → Nat} : ∀ n i, i < n → w i ≤ maxN w n := by
  intro n
  induction n with
  | zero => intro i h; omega
  | succ n ih =>
    intro i h
    rw [show maxN w (n + 1) = max (maxN w n) (w n) from rfl]
    by_cases e : i = n
    · subst e; exact Nat.le_max_right _ _
    · exact Nat.le_trans (ih i (by omega)) (Nat.le_max_left _ _)
theorem cntB_cg {p q : Nat → Bool} : ∀ n, (∀ i, i < n → p i = q i) → cntB p n = cntB q n := by
  intro n
  induction n with
  | zero => intro _; rfl
  | succ n ih =>
    intro h
    show cntB p n + _ = cntB q n + _
    rw [ih (fun i hi => h i (by omega)), h n (by omega)]
theorem cntB_lt (p : Nat → Bool) : ∀ n, cntB p n ≤ n := by
  intro n
  induction n with
  | zero => exact Nat.le_refl _
  | succ n ih =>
    show cntB p n + (if p n = true then 1 else 0) ≤ n + 1
    by_cases c : p n = true
    · rw [if_pos c]; omega
    · rw [if_neg c]; omega
theorem cntB_0 {p : Nat → Bool} : ∀ n, (∀ i, i < n → p i = false) → cntB p n = 0 := by
  intro n
  induction n with
  | zero => intro _; rfl
  | succ n ih =>
    intro h
    show cntB p n + (if p n = true then 1 else 0) = 0
    rw [ih (fun i hi => h i (by omega)), h n (by omega)]; rfl
/-- how many are like to x, of the first i -/
def clk (Φ : FM) (i x : Nat) : Nat := cntB (fun y => decide (lik Φ y = x)) i
theorem mal_cl {Φ : FM} (hw : WF Φ) : maxN (clk Φ (mN Φ)) (mN Φ) = malN Φ := by
  have key : ∀ i, i < mN Φ → clk Φ (mN Φ) (lik Φ i) = cntB (alF Φ i) (mN Φ) := fun i hi => cntB_cg _ (fun y hy => by
    have := lik_iff hw hi hy
    by_cases c : alF Φ i y = true
    · rw [c]; exact decide_eq_true (this.mpr c).symm
    · rw [Bool.eq_false_iff.mpr c]; exact decide_eq_false (fun z => c (this.mp z.symm)))
  apply Nat.le_antisymm
  · refine maxN_ub _ (fun x hx => ?_)
    by_cases c : lik Φ x = x
    · have := key x hx
      rw [c] at this
      rw [this]
      exact le_maxN (w := fun i => cntB (alF Φ i) (mN Φ)) _ x hx
    · have : clk Φ (mN Φ) x = 0 := cntB_0 _ (fun y hy => decide_eq_false (fun z => c (by
        obtain ⟨a1, a2, a3⟩ := lik_ok hw hy
        rw [z] at a2
        have := (lik_iff hw hy hx).mpr a2
        omega)))
      omega
  · refine maxN_ub _ (fun i hi => ?_)
    rw [← key i hi]
    have := (lik_ok hw hi).1
    exact le_maxN _ _ (by omega)
theorem cl_s (Φ : FM) (i x : Nat) : clk Φ (i + 1) x = if x = lik Φ i then clk Φ i x + 1 else clk Φ i x := by
  show cntB _ i + (if decide (lik Φ i = x) = true then 1 else 0) = _
  by_cases c : x = lik Φ i
  · rw [if_pos c, if_pos (decide_eq_true c.symm)]; rfl
  · rw [if_neg c, if_neg (by rw [decide_eq_true_eq]; exact fun z => c z.symm)]; rfl
theorem max_up {w v : Nat → Nat} {j : Nat} (h : ∀ x, x ≠ j → v x = w x) (hj : w j ≤ v j) : ∀ n, j < n → maxN v n = max (maxN w n) (v j) := by
  intro n hn
  apply Nat.le_antisymm
  · refine maxN_ub _ (fun i hi => ?_)
    by_cases e : i = j
    · subst e; exact Nat.le_max_right _ _
    · rw [h i e]; exact Nat.le_trans (le_maxN n i hi) (Nat.le_max_left _ _)
  · refine Nat.max_le.mpr ⟨maxN_ub _ (fun i hi => ?_), le_maxN n j hn⟩
    by_cases e : i = j
    · subst e; exact Nat.le_trans hj (le_maxN n i hi)
    · rw [← h i e]; exact le_maxN n i hi
/-! depth -/
theorem depI_fu {Φ : FM} (hw : wfR Φ) : ∀ n m i, i < n → i < m → i < mN Φ → depI Φ n i = depI Φ m i := by
  intro n
  induction n with
  | zero => intro m i h; omega
  | succ n ih =>
    intro m i h hm hi
    obtain ⟨m, rfl⟩ : ∃ k, m = k + 1 := ⟨m - 1, by omega⟩
    obtain ⟨k5, ku0, ku1, ku, kv, kv0, kp⟩ := hw i hi
    show (if mK Φ i ≤ 1 then 0 else if mK Φ i = 2 then 1 + depI Φ n (mU Φ i) else 1 + max (depI Φ n (mU Φ i)) (depI Φ n (mV Φ i))) = (if mK Φ i ≤ 1 then 0 else if mK Φ i = 2 then 1 + depI Φ m (mU Φ i) else 1 + max (depI Φ m (mU Φ i)) (depI Φ m (mV Φ i)))
    by_cases c1 : mK Φ i ≤ 1
    · rw [if_pos c1, if_pos c1]
    rw [if_neg c1, if_neg c1]
    have u := ku (by omega)
    have eu := ih m (mU Φ i) (by omega) (by omega) (by omega)
    by_cases c2 : mK Φ i = 2
    · rw [if_pos c2, if_pos c2, eu]
    rw [if_neg c2, if_neg c2]
    have v := kv (by omega)
    rw [eu, ih m (mV Φ i) (by omega) (by omega) (by omega)]
def dp (Φ : FM) (i : Nat) : Nat := depI Φ 61 i
theorem dp_s {Φ : FM} (hw : WF Φ) {i : Nat} (hi : i < mN Φ) : dp Φ i = if mK Φ i ≤ 1 then 0 else if mK Φ i = 2 then 1 + dp Φ (mU Φ i) else 1 + max (dp Φ (mU Φ i)) (dp Φ (mV Φ i)) := by
  have n60 := hw.2.1
  obtain ⟨k5, ku0, ku1, ku, kv, kv0, kp⟩ := hw.2.2 i hi
  show (if mK Φ i ≤ 1 then 0 else if mK Φ i = 2 then 1 + depI Φ 60 (mU Φ i) else 1 + max (depI Φ 60 (mU Φ i)) (depI Φ 60 (mV Φ i))) = _
  by_cases c1 : mK Φ i ≤ 1
  · rw [if_pos c1, if_pos c1]
  rw [if_neg c1, if_neg c1]
  have u := ku (by omega)
  have eu := depI_fu hw.2.2 60 61 (mU Φ i) (by omega) (by omega) (by omega)
  by_cases c2 : mK Φ i = 2
  · rw [if_pos c2, if_pos c2, eu]; rfl
  rw [if_neg c2, if_neg c2]
  have v := kv (by omega)
  rw [eu, depI_fu hw.2.2 60 61 (mV Φ i) (by omega) (by omega) (by omega)]; rfl
theorem dp_le {Φ : FM} (hw : WF Φ) {i : Nat} (hi : i < mN Φ) : dp Φ i ≤ i := depI_le Φ hw.2.2 61 i hi
theorem dp_top {Φ : FM} (hw : WF Φ) (hr : RCH Φ) : ∀ d i, i + d + 1 = mN Φ → dp Φ i ≤ dp Φ (mN Φ - 1) := by
  intro d
  induction d using Nat.strongRecOn with
  | _ d ih =>
    intro i hd
    by_cases z : d = 0
    · have : i = mN Φ - 1 := by omega
      rw [this]; exact Nat.le_refl _
    · obtain ⟨j, j1, j2, j3⟩ := hr i (by omega)
      have g := ih (mN Φ - 1 - j) (by omega) j (by omega)
      have e := dp_s hw j2
      refine Nat.le_trans ?_ g
      rw [e]
      rcases j3 with ⟨k, u⟩ | ⟨k, u⟩
      · rw [if_neg (by omega), u]
        by_cases c2 : mK Φ j = 2
        · rw [if_pos c2]; omega
        · rw [if_neg c2]; have := Nat.le_max_left (dp Φ i) (dp Φ (mV Φ j)); omega
      · rw [if_neg (by omega), if_neg (by omega), u]; have := Nat.le_max_right (dp Φ (mU Φ j)) (dp Φ i); omega
theorem dp_max {Φ : FM} (hw : WF Φ) (hr : RCH Φ) : maxN (dp Φ) (mN Φ) = dp Φ (mN Φ - 1) := by
  have n1 := hw.1
  apply Nat.le_antisymm
  · exact maxN_ub _ (fun i hi => dp_top hw hr (mN Φ - 1 - i) i (by omega))
  · exact le_maxN _ _ (by omega)
