/-! as it begins -/
/-- the empty heap -/
def hE0 : HS := (0, fun _ => 0, fun _ => 0, fun _ _ => 0, fun _ _ => 0, fun _ _ => none)
def ini : Option HS := match f_X5_init 0 (nw hE0 5 0) with
  | none => none
  | some a => if hN a.2 = 48 then (match f_X6_init 48 (nw a.2 6 0) with
    | none => none
    | some b => some b.2) else none
def inB1 (σ : HS) : Bool := decide (76 ≤ hN σ) && allB (fun j => decide (hty σ j = tyT j) && (decide (hlen σ j = lnT j) && allB (fun k => match (refT j)[k]? with
  | some (some i) => decide (hR σ j k = some i)
  | _ => true) 42)) 76
def inB2 (σ : HS) : Bool := allB (fun s => decide (hA σ 2 s = 0) && (decide (hA σ 3 s = 0) && (decide (hA σ 4 s = 1) && (decide (hA σ 49 (3 * s) = 0) && (decide (hA σ 49 (3 * s + 1) = 0) && decide (hA σ 49 (3 * s + 2) = 1)))))) 6
def inB3 (σ : HS) : Bool := allB (fun k => okF σ (hR σ 5 k)) 6 && allB (fun l => decide (hA σ 46 l = -11) && (decide (hA σ 74 l = -1) && allB (fun k => decide (hB σ (42 + l) k = hB σ 75 (8 * l + k))) 8)) 4
def inB4 (σ : HS) : Bool := decide (hA σ 1 4 = 0) && (decide (hA σ 48 7 = 0) && (decide (hA σ 17 1 = 0) && (decide (hA σ 48 16 = 0) && (decide (hA σ 1 8 = 0) && (decide (hA σ 48 36 = 0) && (decide (hA σ 0 8 = 0) && (decide (hA σ 48 29 = 0) && (decide (hA σ 0 2 = 0) && decide (hA σ 48 14 = 0)))))))))
def onB (p : HS → Bool) (o : Option HS) : Bool := match o with
  | none => false
  | some σ => p σ
set_option maxRecDepth 100000 in
theorem ini4 : onB inB4 ini = true := by decide +kernel
set_option maxRecDepth 100000 in
theorem ini1 : onB inB1 ini = true := by decide +kernel
set_option maxRecDepth 100000 in
theorem ini2 : onB inB2 ini = true := by decide +kernel
set_option maxRecDepth 100000 in
theorem ini3 : onB inB3 ini = true := by decide +kernel
theorem ini_inv : ∃ σ, ini = some σ ∧ ∃ V S C n FS, INV σ V S C n FS := by
  have i1 := ini1
  have i2 := ini2
  have i3 := ini3
  have i4 := ini4
  cases hi : ini with
  | none => rw [hi] at i1; cases i1
  | some σ =>
    rw [hi] at i1 i2 i3 i4
    change inB1 σ = true at i1
    change inB2 σ = true at i2
    change inB3 σ = true at i3
    change inB4 σ = true at i4
    unfold inB1 at i1
    unfold inB2 at i2
    unfold inB3 at i3
    unfold inB4 at i4
    simp only [Bool.and_eq_true, allB_iff, decide_eq_true_eq] at i1 i2 i3 i4
    obtain ⟨h76, hT⟩ := i1
    obtain ⟨h5, hl⟩ := i3
    obtain ⟨a1, a2, a3, a4, a5, a6, a7, a8, a9, a10⟩ := i4
    have z0 : rgI 0 (-99) 99 := by unfold rgI; decide
    have z1 : rgI 0 0 20 := by unfold rgI; decide
    have z2 : rgI 1 0 99 := by unfold rgI; decide
    refine ⟨σ, rfl, fun _ => 0, fun _ => 0, fun _ => 1, 0, fun _ => emp, ⟨h76, fun j hj => ?_⟩, fun s hs => ?_, ⟨Nat.zero_le _, fun k hk => by omega, a1, a2, fun k hk => by omega, fun f hf => by omega, h5⟩, ⟨0, fun _ => 0, Nat.zero_le _, a3, a4, fun k hk => by omega⟩, ⟨0, fun _ => 0, fun _ => 0, fun _ => 0, Nat.zero_le _, a5, a6, fun k hk => by omega⟩, fun l hl' => ?_, ⟨0, Nat.zero_le _, a7, a8, fun k hk => by omega⟩, Or.inl ⟨a9, a10⟩⟩
    · obtain ⟨x1, x2, x3⟩ := hT j hj
      refine ⟨x1, x2, fun k hk i he => ?_⟩
      have := x3 k hk
      rw [he] at this
      simpa using this
    · obtain ⟨x1, x2, x3, x4, x5, x6⟩ := i2 s hs
      exact ⟨⟨x1, x2, x3⟩, ⟨x4, x5, x6⟩, z0, z1, z2⟩
    · obtain ⟨x1, x2, x3⟩ := hl l hl'
      exact ⟨Or.inl ⟨x1, x2⟩, x3⟩
/-- what the law comes to once both are made -/
theorem law_ini (L : Nat) (xs : Nat → Int32) {σ : HS} (h : ini = some σ) : f_L_law L xs hE0 = lp_L_law_18 L xs 1000 0 48 0 σ := by
  unfold ini at h
  unfold f_L_law
  cases e1 : f_X5_init 0 (nw hE0 5 0) with
  | none => rw [e1] at h; cases h
  | some a =>
    rw [e1] at h
    dsimp only at h
    by_cases c : hN a.2 = 48
    · rw [if_pos c] at h
      cases e2 : f_X6_init 48 (nw a.2 6 0) with
      | none => rw [e2] at h; cases h
      | some b =>
        rw [e2] at h
        cases h
        rw [show hN hE0 = 0 from rfl, lt_p, lt_p, e1]
        show chk (0 < hN a.2) _ = _
        rw [chk_p (by omega), c, lt_p, lt_p, chk_p (show 0 < hN (nw a.2 6 0) from Nat.zero_lt_succ _), e2]
        rfl
    · rw [if_neg c] at h; cases h
