/-! the layout, as rows to rewrite with -/
theorem O0 {σ : HS} (h : Typ σ) : isO σ 5 0 = True := eq_true (o0 h)
theorem O1 {σ : HS} (h : Typ σ) : isO σ 2 1 = True := eq_true (o1 h)
theorem O2 {σ : HS} (h : Typ σ) : isO σ 10 2 = True := eq_true (o2 h)
theorem O3 {σ : HS} (h : Typ σ) : isO σ 10 3 = True := eq_true (o3 h)
theorem O4 {σ : HS} (h : Typ σ) : isO σ 10 4 = True := eq_true (o4 h)
theorem O5 {σ : HS} (h : Typ σ) : isO σ 13 5 = True := eq_true (o5 h)
theorem O6 {σ : HS} (h : Typ σ) : isO σ 10 6 = True := eq_true (o6 h)
theorem O7 {σ : HS} (h : Typ σ) : isO σ 10 7 = True := eq_true (o7 h)
theorem O8 {σ : HS} (h : Typ σ) : isO σ 10 8 = True := eq_true (o8 h)
theorem O9 {σ : HS} (h : Typ σ) : isO σ 2 9 = True := eq_true (o9 h)
theorem O10 {σ : HS} (h : Typ σ) : isO σ 10 10 = True := eq_true (o10 h)
theorem O11 {σ : HS} (h : Typ σ) : isO σ 10 11 = True := eq_true (o11 h)
theorem O12 {σ : HS} (h : Typ σ) : isO σ 10 12 = True := eq_true (o12 h)
theorem O13 {σ : HS} (h : Typ σ) : isO σ 13 13 = True := eq_true (o13 h)
theorem O14 {σ : HS} (h : Typ σ) : isO σ 10 14 = True := eq_true (o14 h)
theorem O15 {σ : HS} (h : Typ σ) : isO σ 10 15 = True := eq_true (o15 h)
theorem O16 {σ : HS} (h : Typ σ) : isO σ 10 16 = True := eq_true (o16 h)
theorem O17 {σ : HS} (h : Typ σ) : isO σ 3 17 = True := eq_true (o17 h)
theorem O18 {σ : HS} (h : Typ σ) : isO σ 10 18 = True := eq_true (o18 h)
theorem O19 {σ : HS} (h : Typ σ) : isO σ 10 19 = True := eq_true (o19 h)
theorem O20 {σ : HS} (h : Typ σ) : isO σ 10 20 = True := eq_true (o20 h)
theorem O21 {σ : HS} (h : Typ σ) : isO σ 10 21 = True := eq_true (o21 h)
theorem O22 {σ : HS} (h : Typ σ) : isO σ 10 22 = True := eq_true (o22 h)
theorem O23 {σ : HS} (h : Typ σ) : isO σ 10 23 = True := eq_true (o23 h)
theorem O24 {σ : HS} (h : Typ σ) : isO σ 4 24 = True := eq_true (o24 h)
theorem O25 {σ : HS} (h : Typ σ) : isO σ 10 25 = True := eq_true (o25 h)
theorem O26 {σ : HS} (h : Typ σ) : isO σ 10 26 = True := eq_true (o26 h)
theorem O27 {σ : HS} (h : Typ σ) : isO σ 10 27 = True := eq_true (o27 h)
theorem O28 {σ : HS} (h : Typ σ) : isO σ 1 28 = True := eq_true (o28 h)
theorem O29 {σ : HS} (h : Typ σ) : isO σ 12 29 = True := eq_true (o29 h)
theorem O30 {σ : HS} (h : Typ σ) : isO σ 12 30 = True := eq_true (o30 h)
theorem O31 {σ : HS} (h : Typ σ) : isO σ 11 31 = True := eq_true (o31 h)
theorem O32 {σ : HS} (h : Typ σ) : isO σ 1 32 = True := eq_true (o32 h)
theorem O33 {σ : HS} (h : Typ σ) : isO σ 12 33 = True := eq_true (o33 h)
theorem O34 {σ : HS} (h : Typ σ) : isO σ 12 34 = True := eq_true (o34 h)
theorem O35 {σ : HS} (h : Typ σ) : isO σ 11 35 = True := eq_true (o35 h)
theorem O36 {σ : HS} (h : Typ σ) : isO σ 1 36 = True := eq_true (o36 h)
theorem O37 {σ : HS} (h : Typ σ) : isO σ 12 37 = True := eq_true (o37 h)
theorem O38 {σ : HS} (h : Typ σ) : isO σ 12 38 = True := eq_true (o38 h)
theorem O39 {σ : HS} (h : Typ σ) : isO σ 11 39 = True := eq_true (o39 h)
theorem O40 {σ : HS} (h : Typ σ) : isO σ 12 40 = True := eq_true (o40 h)
theorem O41 {σ : HS} (h : Typ σ) : isO σ 14 41 = True := eq_true (o41 h)
theorem O42 {σ : HS} (h : Typ σ) : isO σ 12 42 = True := eq_true (o42 h)
theorem O43 {σ : HS} (h : Typ σ) : isO σ 12 43 = True := eq_true (o43 h)
theorem O44 {σ : HS} (h : Typ σ) : isO σ 12 44 = True := eq_true (o44 h)
theorem O45 {σ : HS} (h : Typ σ) : isO σ 12 45 = True := eq_true (o45 h)
theorem O46 {σ : HS} (h : Typ σ) : isO σ 10 46 = True := eq_true (o46 h)
theorem O47 {σ : HS} (h : Typ σ) : isO σ 10 47 = True := eq_true (o47 h)
theorem O48 {σ : HS} (h : Typ σ) : isO σ 6 48 = True := eq_true (o48 h)
theorem O49 {σ : HS} (h : Typ σ) : isO σ 10 49 = True := eq_true (o49 h)
theorem O50 {σ : HS} (h : Typ σ) : isO σ 10 50 = True := eq_true (o50 h)
theorem O51 {σ : HS} (h : Typ σ) : isO σ 10 51 = True := eq_true (o51 h)
theorem O52 {σ : HS} (h : Typ σ) : isO σ 10 52 = True := eq_true (o52 h)
theorem O53 {σ : HS} (h : Typ σ) : isO σ 10 53 = True := eq_true (o53 h)
theorem O54 {σ : HS} (h : Typ σ) : isO σ 10 54 = True := eq_true (o54 h)
theorem O55 {σ : HS} (h : Typ σ) : isO σ 10 55 = True := eq_true (o55 h)
theorem O56 {σ : HS} (h : Typ σ) : isO σ 10 56 = True := eq_true (o56 h)
theorem O57 {σ : HS} (h : Typ σ) : isO σ 10 57 = True := eq_true (o57 h)
theorem O58 {σ : HS} (h : Typ σ) : isO σ 10 58 = True := eq_true (o58 h)
theorem O59 {σ : HS} (h : Typ σ) : isO σ 10 59 = True := eq_true (o59 h)
theorem O60 {σ : HS} (h : Typ σ) : isO σ 10 60 = True := eq_true (o60 h)
theorem O61 {σ : HS} (h : Typ σ) : isO σ 10 61 = True := eq_true (o61 h)
theorem O62 {σ : HS} (h : Typ σ) : isO σ 10 62 = True := eq_true (o62 h)
theorem O63 {σ : HS} (h : Typ σ) : isO σ 10 63 = True := eq_true (o63 h)
theorem O64 {σ : HS} (h : Typ σ) : isO σ 12 64 = True := eq_true (o64 h)
theorem O65 {σ : HS} (h : Typ σ) : isO σ 12 65 = True := eq_true (o65 h)
theorem O66 {σ : HS} (h : Typ σ) : isO σ 11 66 = True := eq_true (o66 h)
theorem O67 {σ : HS} (h : Typ σ) : isO σ 10 67 = True := eq_true (o67 h)
theorem O68 {σ : HS} (h : Typ σ) : isO σ 12 68 = True := eq_true (o68 h)
theorem O69 {σ : HS} (h : Typ σ) : isO σ 12 69 = True := eq_true (o69 h)
theorem O70 {σ : HS} (h : Typ σ) : isO σ 10 70 = True := eq_true (o70 h)
theorem O71 {σ : HS} (h : Typ σ) : isO σ 10 71 = True := eq_true (o71 h)
theorem O72 {σ : HS} (h : Typ σ) : isO σ 10 72 = True := eq_true (o72 h)
theorem O73 {σ : HS} (h : Typ σ) : isO σ 10 73 = True := eq_true (o73 h)
theorem O74 {σ : HS} (h : Typ σ) : isO σ 10 74 = True := eq_true (o74 h)
theorem O75 {σ : HS} (h : Typ σ) : isO σ 12 75 = True := eq_true (o75 h)
theorem Typ_sA' (σ : HS) (j k : Nat) (v : Int32) : Typ (sA σ j k v) = Typ σ := rfl
theorem Typ_sB' (σ : HS) (j k : Nat) (v : Int64) : Typ (sB σ j k v) = Typ σ := rfl
theorem Typ_rA' (σ : HS) (j : Nat) (g : Nat → Int32) : Typ (rA σ j g) = Typ σ := rfl
theorem isO_rA' (σ : HS) (j : Nat) (g : Nat → Int32) (t a : Nat) : isO (rA σ j g) t a = isO σ t a := rfl
theorem up2_up2 {α : Type} (f : Nat → Nat → α) (j k : Nat) (v w : α) : up2 (up2 f j k v) j k w = up2 f j k w := by
  funext a b; unfold up2; by_cases h : a = j ∧ b = k
  · rw [if_pos h, if_pos h]
  · rw [if_neg h, if_neg h, if_neg h]
theorem sA_sA (σ : HS) (j k : Nat) (v w : Int32) : sA (sA σ j k v) j k w = sA σ j k w := by unfold sA; dsimp only; rw [up2_up2]
theorem inbE {i n : Nat} (h : i < n) (hn : i < 1000) : inb (nI i) n = True := eq_true (inb1000 h hn)
theorem beq0 : ((0 : Int32) = 1) = False := eq_false (by decide)
theorem beq1 : ((1 : Int32) = 0) = False := eq_false (by decide)
/-- a row of the reference's object kept, but for what it scribbles -/
def Mf (S : List Nat) (σ σ' : HS) : Prop := Fr (48 :: S) σ σ' ∧ (∀ k, (k < 17 ∨ 20 < k) → hA σ' 48 k = hA σ 48 k) ∧ ∀ k, 28 ≤ k → hB σ' 48 k = hB σ 48 k
theorem Mf.rf {S : List Nat} {σ : HS} : Mf S σ σ := ⟨Fr.rf, fun _ _ => rfl, fun _ _ => rfl⟩
theorem Mf.seq {S : List Nat} {σ σ' σ'' : HS} (h : Mf S σ σ') (h2 : Mf S σ' σ'') : Mf S σ σ'' := ⟨h.1.seq h2.1, fun k hk => (h2.2.1 k hk).trans (h.2.1 k hk), fun k hk => (h2.2.2 k hk).trans (h.2.2 k hk)⟩
theorem Mf.mono {S T : List Nat} {σ σ' : HS} (h : Mf S σ σ') (hs : ∀ j, j ∈ S → j ∈ T) : Mf T σ σ' := ⟨h.1.mono (fun j hj => by
  rcases List.mem_cons.mp hj with z | z
  · rw [z]; exact List.mem_cons_self
  · exact List.mem_cons_of_mem _ (hs j z)), h.2⟩
theorem Mf.typ {S : List Nat} {σ σ' : HS} (h : Mf S σ σ') (ht : Typ σ) : Typ σ' := h.1.typ ht
theorem Mf_sA {S : List Nat} {σ : HS} {j k : Nat} {v : Int32} (h : j ∈ S) (h2 : j ≠ 48) : Mf S σ (sA σ j k v) := ⟨Fr_sA (List.mem_cons_of_mem _ h), fun i _ => by rw [hA_sA, if_neg (fun z => h2 z.1.symm)], fun i _ => rfl⟩
theorem Mf_sB {S : List Nat} {σ : HS} {j k : Nat} {v : Int64} (h : j ∈ S) (h2 : j ≠ 48) : Mf S σ (sB σ j k v) := ⟨Fr_sB (List.mem_cons_of_mem _ h), fun i _ => rfl, fun i _ => by rw [hB_sB, if_neg (fun z => h2 z.1.symm)]⟩
theorem Mf_s {S : List Nat} {σ : HS} {k : Nat} {v : Int32} (h : 17 ≤ k) (h2 : k ≤ 20) : Mf S σ (sA σ 48 k v) := ⟨Fr_sA List.mem_cons_self, fun i hi => by rw [hA_sA, if_neg (by omega)], fun i _ => rfl⟩
theorem Mf_l {S : List Nat} {σ : HS} {k : Nat} {v : Int64} (h : k < 28) : Mf S σ (sB σ 48 k v) := ⟨Fr_sB List.mem_cons_self, fun i hi => rfl, fun i hi => by rw [hB_sB, if_neg (by omega)]⟩
theorem Mf.A {S : List Nat} {σ σ' : HS} (h : Mf S σ σ') {j : Nat} (hj : j ∉ 48 :: S) (k : Nat) : hA σ' j k = hA σ j k := h.1.A hj k
theorem Mf.B {S : List Nat} {σ σ' : HS} (h : Mf S σ σ') {j : Nat} (hj : j ∉ 48 :: S) (k : Nat) : hB σ' j k = hB σ j k := h.1.B hj k
