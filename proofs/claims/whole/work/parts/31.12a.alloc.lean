def dfs (t : Nat) : List Value := (fk t).map (fun f => if f = 0 then .int 0 else if f = 1 then .long 0 else .null)
/-- a class, as 'new' wants it -/
def NF (own : String) (index t N : Nat) : Prop := ∃ (C : String) (T : u_T) (ty0 : Nat → FieldType), classes[t]? = some (C, T, N) ∧ t < 10 ∧ (∀ w ∈ u_ws C T N, w ∈ lw_g) ∧ (∀ k, k < N → parseFieldDescriptor (T k).2.2.1 = some (ty0 k)) ∧ Cond.classLink own index C ∈ lw_g ∧ Cond.instantiable C N ∈ lw_g ∧ Cond.initialized C ∈ lw_g ∧ ∀ j, j < N → defaultValue (ty0 j) = vp_V (dfs t) j
theorem hE_new {cs : Nat → ClassId} {q : Nat → Nat} {σ : HS} {t n : Nat} (h10 : t < 10) : hE cs q (nw σ t n) (hN σ) = .inr (t, dfs t) := by
  rw [hE_o (nw_ty σ t n) h10]
  refine congrArg (fun z => (Sum.inr (t, z) : va_E)) (List.ext_getElem? fun i => ?_)
  unfold hF dfs
  rw [List.getElem?_mapIdx, List.getElem?_map]
  cases (fk t)[i]? with
  | none => rfl
  | some f =>
    simp only [nw_A, nw_B, nw_R]
    rfl
theorem isO_nw {σ σ' : HS} {t n a b : Nat} (e : σ' = nw σ t n) (h : isO σ a b) : isO σ' a b := by
  subst e; exact ⟨Nat.lt_succ_of_lt h.1, (vau_o h.1).trans h.2⟩
theorem isO_nw0 {σ σ' : HS} {t n b : Nat} (e : σ' = nw σ t n) (eb : b = hN σ) : isO σ' t b := by
  subst e; subst eb; exact ⟨Nat.lt_succ_self _, nw_ty σ t n⟩
theorem isO_nwc {σ σ' : HS} {t n a b : Nat} {g : Nat → Int32} (e : σ' = nwc σ t n g) (h : isO σ a b) : isO σ' a b := by
  subst e; exact ⟨Nat.lt_succ_of_lt h.1, (vau_o h.1).trans h.2⟩
theorem isO_nwc0 {σ σ' : HS} {t n b : Nat} {g : Nat → Int32} (e : σ' = nwc σ t n g) (eb : b = hN σ) : isO σ' t b := by
  subst e; subst eb; exact ⟨Nat.lt_succ_self _, nw_ty σ t n⟩
theorem va_RA_one {U : State} {c1 c2 : ClassId} {ty : FieldType} (h1 : va_RA U c1 ty) (h2 : va_RA U c2 ty) : c1 = c2 := by
  cases ty with
  | object C =>
    obtain ⟨k1, p1, -, -, -, a1⟩ := h1
    obtain ⟨k2, p2, -, -, -, a2⟩ := h2
    exact Option.some.inj (a1.symm.trans a2)
  | _ => exact Option.some.inj (Eq.trans (Eq.symm h1) h2)
section HA
variable {p : Program} {l : Launch} {e : Env} {R : Room} {s : State} {m : MethodId} {args : Array Value} {below : List Frame} {meth : Method} {c : Code} {nL : Nat} {D : va_G} {cs : Nat → ClassId} {A : Nat → Prop} {H0 : Heap} {cells slots : Nat} {Q : State → Prop} {q : Nat → Nat} {σ : HS} {lv : List (Nat × Value)} {pc : Nat} {st : List Value} {cc : ByteArray} {own : String}
theorem j_new (X : Cx p s m args c cc nL own D cs A H0) {index t N : Nat} (F : NF own index t N) (hcs : cells + 1 ≤ R.cells ∧ slots + N ≤ R.slots) (hd : decode cc pc = .ok (.new index, 3)) (kk : ∀ (q' : Nat → Nat) (σ' : HS) (n' : Nat), (∀ j, j < hN σ → q' j = q j) → σ' = nw σ t 0 → n' = hN σ → J p l e R s m args below meth c nL D cs A H0 (cells + 1) (slots + N) Q q' σ' lv (pc + 3) (.ref (q' n') :: st)) : J p l e R s m args below meth c nL D cs A H0 cells slots Q q σ lv pc st := fun H locs ls hO hP hD hS hl => by
  obtain ⟨C, T, ty0, hc, h10, hin, hty, hcl, hinst, hini, hdf⟩ := F
  refine va_new X.1 X.2.1 X.2.2.2.2.1 hin ty0 hty X.2.2.2.1 (X.2.2.2.2.1 _ hcl) (X.2.2.2.2.1 _ hinst) (X.2.2.2.2.1 _ hini) X.2.2.2.2.2.1 hP hD hS X.2.2.2.2.2.2.1 hc hdf hcs.1 hcs.2 hd (fun a H1 hP1 hD1 hS1 => ?_)
  have e0 : hWl cs q σ ++ [(a, .inr (t, dfs t))] = hWl cs (va_up q (hN σ) a) (nw σ t 0) := hW_push hO rfl (fun i hi => hE_nw hi) (hE_new h10)
  rw [e0] at hP1 hD1
  have k1 := kk (va_up q (hN σ) a) _ _ (fun j hj => vau_o hj) rfl rfl
  rw [show va_up q (hN σ) a (hN σ) = a from if_pos rfl] at k1
  exact k1 H1 locs ls (hOK_nw hO) hP1 hD1 hS1 hl
theorem w_aci : Cond.arrayClass .int ∈ lw_g := gw 120 (by decide +kernel) rfl
theorem j_newai (X : Cx p s m args c cc nL own D cs A H0) {n : Int32} {b : Nat} (h : ¬ n < 0 ∧ n.toNatClampNeg ≤ b) (hb : b ≤ 1000) (hcs : cells + 1 ≤ R.cells ∧ slots + b ≤ R.slots) (hd : decode cc pc = .ok (.newarray .int, 2)) (kk : ∀ (q' : Nat → Nat) (σ' : HS) (n' : Nat), (∀ j, j < hN σ → q' j = q j) → σ' = nw σ 10 n.toNatClampNeg → n' = hN σ → J p l e R s m args below meth c nL D cs A H0 (cells + 1) (slots + b) Q q' σ' lv (pc + 2) (.ref (q' n') :: st)) : J p l e R s m args below meth c nL D cs A H0 cells slots Q q σ lv pc (.int n :: st) := fun H locs ls hO hP hD hS hl => by
  have hbytes : n.toNatClampNeg * componentBytes .int ≤ 536870912 := by
    have h8 : componentBytes .int ≤ 8 := by decide
    have h3 := Nat.mul_le_mul (Nat.le_trans h.2 hb) h8
    omega
  refine va_newa (atype := .int) (ty := .int) (a0 := (n.toNatClampNeg, .inl (fun _ => 0))) X.1 X.2.1 (X.2.2.2.2.1 _ w_aci) rfl X.2.2.2.2.2.1 hP hD hS X.2.2.2.2.2.2.1 (fun _ => rfl) h.1 rfl hbytes hcs.1 (Nat.le_trans (Nat.add_le_add_left h.2 _) hcs.2) hd (fun a cA H1 hK1 hP1 hD1 hS1 => ?_)
  have ec : cA = cs 0 := va_RA_one (hK1.2 5 (cA, .int) rfl).2 (X.2.2.2.2.2.1.2 0 (cs 0, .int) rfl).2
  subst ec
  have e0 : hWl cs q σ ++ [(a, .inl (cs 0, n.toNatClampNeg, .inl (fun _ => 0)))] = hWl cs (va_up q (hN σ) a) (nw σ 10 n.toNatClampNeg) := hW_push hO rfl (fun i hi => hE_nw hi) (by rw [hE_i (nw_ty σ 10 n.toNatClampNeg), nw_len, nw_A])
  rw [e0] at hP1 hD1
  have k1 := kk (va_up q (hN σ) a) _ _ (fun j hj => vau_o hj) rfl rfl
  rw [show va_up q (hN σ) a (hN σ) = a from if_pos rfl] at k1
  refine W.widen (Nat.le_refl _) (show slots + n.toNatClampNeg ≤ slots + b by have := h.2; omega) ?_
  exact k1 H1 locs ls (hOK_nw hO) hP1 hD1 hS1 hl
theorem w_acz : Cond.arrayClass .boolean ∈ lw_g := gw 189 (by decide +kernel) rfl
theorem j_newaz (X : Cx p s m args c cc nL own D cs A H0) {n : Int32} {b : Nat} (h : ¬ n < 0 ∧ n.toNatClampNeg ≤ b) (hb : b ≤ 1000) (hcs : cells + 1 ≤ R.cells ∧ slots + b ≤ R.slots) (hd : decode cc pc = .ok (.newarray .boolean, 2)) (kk : ∀ (q' : Nat → Nat) (σ' : HS) (n' : Nat), (∀ j, j < hN σ → q' j = q j) → σ' = nw σ 11 n.toNatClampNeg → n' = hN σ → J p l e R s m args below meth c nL D cs A H0 (cells + 1) (slots + b) Q q' σ' lv (pc + 2) (.ref (q' n') :: st)) : J p l e R s m args below meth c nL D cs A H0 cells slots Q q σ lv pc (.int n :: st) := fun H locs ls hO hP hD hS hl => by
  have hbytes : n.toNatClampNeg * componentBytes .boolean ≤ 536870912 := by
    have h8 : componentBytes .boolean ≤ 8 := by decide
    have h3 := Nat.mul_le_mul (Nat.le_trans h.2 hb) h8
    omega
  refine va_newa (atype := .boolean) (ty := .boolean) (a0 := (n.toNatClampNeg, .inl (fun _ => 0))) X.1 X.2.1 (X.2.2.2.2.1 _ w_acz) rfl X.2.2.2.2.2.1 hP hD hS X.2.2.2.2.2.2.1 (fun _ => rfl) h.1 rfl hbytes hcs.1 (Nat.le_trans (Nat.add_le_add_left h.2 _) hcs.2) hd (fun a cA H1 hK1 hP1 hD1 hS1 => ?_)
  have ec : cA = cs 1 := va_RA_one (hK1.2 5 (cA, .boolean) rfl).2 (X.2.2.2.2.2.1.2 1 (cs 1, .boolean) rfl).2
  subst ec
  have e0 : hWl cs q σ ++ [(a, .inl (cs 1, n.toNatClampNeg, .inl (fun _ => 0)))] = hWl cs (va_up q (hN σ) a) (nw σ 11 n.toNatClampNeg) := hW_push hO rfl (fun i hi => hE_nw hi) (by rw [hE_z (nw_ty σ 11 n.toNatClampNeg), nw_len, nw_A])
  rw [e0] at hP1 hD1
  have k1 := kk (va_up q (hN σ) a) _ _ (fun j hj => vau_o hj) rfl rfl
  rw [show va_up q (hN σ) a (hN σ) = a from if_pos rfl] at k1
  refine W.widen (Nat.le_refl _) (show slots + n.toNatClampNeg ≤ slots + b by have := h.2; omega) ?_
  exact k1 H1 locs ls (hOK_nw hO) hP1 hD1 hS1 hl
theorem w_acl : Cond.arrayClass .long ∈ lw_g := gw 188 (by decide +kernel) rfl
theorem j_newal (X : Cx p s m args c cc nL own D cs A H0) {n : Int32} {b : Nat} (h : ¬ n < 0 ∧ n.toNatClampNeg ≤ b) (hb : b ≤ 1000) (hcs : cells + 1 ≤ R.cells ∧ slots + b ≤ R.slots) (hd : decode cc pc = .ok (.newarray .long, 2)) (kk : ∀ (q' : Nat → Nat) (σ' : HS) (n' : Nat), (∀ j, j < hN σ → q' j = q j) → σ' = nw σ 12 n.toNatClampNeg → n' = hN σ → J p l e R s m args below meth c nL D cs A H0 (cells + 1) (slots + b) Q q' σ' lv (pc + 2) (.ref (q' n') :: st)) : J p l e R s m args below meth c nL D cs A H0 cells slots Q q σ lv pc (.int n :: st) := fun H locs ls hO hP hD hS hl => by
  have hbytes : n.toNatClampNeg * componentBytes .long ≤ 536870912 := by
    have h8 : componentBytes .long ≤ 8 := by decide
    have h3 := Nat.mul_le_mul (Nat.le_trans h.2 hb) h8
    omega
  refine va_newa (atype := .long) (ty := .long) (a0 := (n.toNatClampNeg, .inr (.inl (fun _ => 0)))) X.1 X.2.1 (X.2.2.2.2.1 _ w_acl) rfl X.2.2.2.2.2.1 hP hD hS X.2.2.2.2.2.2.1 (fun _ => rfl) h.1 rfl hbytes hcs.1 (Nat.le_trans (Nat.add_le_add_left h.2 _) hcs.2) hd (fun a cA H1 hK1 hP1 hD1 hS1 => ?_)
  have ec : cA = cs 2 := va_RA_one (hK1.2 5 (cA, .long) rfl).2 (X.2.2.2.2.2.1.2 2 (cs 2, .long) rfl).2
  subst ec
  have e0 : hWl cs q σ ++ [(a, .inl (cs 2, n.toNatClampNeg, .inr (.inl (fun _ => 0))))] = hWl cs (va_up q (hN σ) a) (nw σ 12 n.toNatClampNeg) := hW_push hO rfl (fun i hi => hE_nw hi) (by rw [hE_l (nw_ty σ 12 n.toNatClampNeg), nw_len, nw_B])
  rw [e0] at hP1 hD1
  have k1 := kk (va_up q (hN σ) a) _ _ (fun j hj => vau_o hj) rfl rfl
  rw [show va_up q (hN σ) a (hN σ) = a from if_pos rfl] at k1
  refine W.widen (Nat.le_refl _) (show slots + n.toNatClampNeg ≤ slots + b by have := h.2; omega) ?_
  exact k1 H1 locs ls (hOK_nw hO) hP1 hD1 hS1 hl
theorem j_newq (X : Cx p s m args c cc nL own D cs A H0) {index : Nat} {n : Int32} {b : Nat} (hlk : Cond.classLink own index RX0 ∈ lw_g) (h : ¬ n < 0 ∧ n.toNatClampNeg ≤ b) (hb : b ≤ 1000) (hcs : cells + 1 ≤ R.cells ∧ slots + b ≤ R.slots) (hd : decode cc pc = .ok (.anewarray index, 3)) (kk : ∀ (q' : Nat → Nat) (σ' : HS) (n' : Nat), (∀ j, j < hN σ → q' j = q j) → σ' = nw σ 13 n.toNatClampNeg → n' = hN σ → J p l e R s m args below meth c nL D cs A H0 (cells + 1) (slots + b) Q q' σ' lv (pc + 3) (.ref (q' n') :: st)) : J p l e R s m args below meth c nL D cs A H0 cells slots Q q σ lv pc (.int n :: st) := fun H locs ls hO hP hD hS hl => by
  have hao : va_AO RX0 s := X.2.2.2.2.2.2.2 (.arrayOver (.object "SpanKeeper$Formula")) (by simp [lw_bad])
  refine va_newq X.1 X.2.1 X.2.2.2.1 (X.2.2.2.2.1 _ hlk) hao X.2.2.2.2.2.1 hP hD hS X.2.2.2.2.2.2.1 h.1 rfl (by have := h.2; omega) hcs.1 (by have := h.2; omega) hd (fun a cA H1 hK1 hP1 hD1 hS1 => ?_)
  have ec : cA = cs 3 := va_RA_one (hK1.2 5 (cA, .object RX0) rfl).2 (X.2.2.2.2.2.1.2 3 (cs 3, .object RX0) rfl).2
  subst ec
  have e0 : hWl cs q σ ++ [(a, .inl (cs 3, n.toNatClampNeg, .inr (.inr (.inr (.inr (fun _ => none))))))] = hWl cs (va_up q (hN σ) a) (nw σ 13 n.toNatClampNeg) := hW_push hO rfl (fun i hi => hE_nw hi) (by rw [hE_q (nw_ty σ 13 n.toNatClampNeg), nw_len, nw_R]; rfl)
  rw [e0] at hP1 hD1
  have k1 := kk (va_up q (hN σ) a) _ _ (fun j hj => vau_o hj) rfl rfl
  rw [show va_up q (hN σ) a (hN σ) = a from if_pos rfl] at k1
  refine W.widen (Nat.le_refl _) (show slots + n.toNatClampNeg ≤ slots + b by have := h.2; omega) ?_
  exact k1 H1 locs ls (hOK_nw hO) hP1 hD1 hS1 hl
theorem w_cl1 : Cond.methodLink "java/util/Arrays" 316 ⟨"[I", "clone", "()Ljava/lang/Object;"⟩ ∈ lw_g := gw 338 (by decide +kernel) rfl
theorem w_cl2 : Cond.sameMethod "[I" "java/lang/Object" "clone" "()Ljava/lang/Object;" ∈ lw_g := gw 339 (by decide +kernel) rfl
theorem w_cl3 : Cond.native ⟨"java/lang/Object", "clone", "()Ljava/lang/Object;"⟩ ∈ lw_g := gw 340 (by decide +kernel) rfl
theorem w_cl4 : Cond.instanceMethod ⟨"java/lang/Object", "clone", "()Ljava/lang/Object;"⟩ ∈ lw_g := gw 341 (by decide +kernel) rfl
theorem w_cl5 : Cond.selects "[I" ⟨"[I", "clone", "()Ljava/lang/Object;"⟩ ⟨"java/lang/Object", "clone", "()Ljava/lang/Object;"⟩ ∈ lw_g := gw 342 (by decide +kernel) rfl
theorem w_cl6 : Cond.classLink "java/util/Arrays" 317 "[I" ∈ lw_g := gw 344 (by decide +kernel) rfl
theorem hnmI (X : Cx p s m args c cc nL own D cs A H0) : s.vm.findClass "[I" = some (cs 0) := (X.2.2.2.2.2.1.2 0 (cs 0, .int) rfl).2
theorem j_clone (X : Cx p s m args c cc nL "java/util/Arrays" D cs A H0) {j b : Nat} (h : isO σ 10 j ∧ hlen σ j ≤ b) (hfr : 1 ≤ R.frames) (hlo : (st.map fun v => v.category).sum + 14 ≤ R.locals) (hcs : cells + 1 ≤ R.cells ∧ slots + b ≤ R.slots) (hd : decode cc pc = .ok (.invokevirtual 316, 3)) (kk : ∀ (q' : Nat → Nat) (σ' : HS) (n' : Nat), (∀ j, j < hN σ → q' j = q j) → σ' = nwc σ 10 (hlen σ j) (hA σ j) → n' = hN σ → J p l e R s m args below meth c nL D cs A H0 (cells + 1) (slots + b) Q q' σ' lv (pc + 3) (.ref (q' n') :: st)) : J p l e R s m args below meth c nL D cs A H0 cells slots Q q σ lv pc (.ref (q j) :: st) := fun H locs ls hO hP hD hS hl => by
  have hnm := hnmI X
  refine va_clone X.1 X.2.1 (X.2.2.1.trans hl.1.symm) X.2.2.2.1 (X.2.2.2.2.1 _ w_cl1) (X.2.2.2.2.1 _ w_cl2) (X.2.2.2.2.1 _ w_cl3) (X.2.2.2.2.1 _ w_cl4) (X.2.2.2.2.1 _ w_cl5) (X.2.2.2.2.2.2.2 (.castable "[I" "java/lang/Cloneable") (by simp [lw_bad])) X.2.2.2.2.2.1 hP hD hS X.2.2.2.2.2.2.1 j 0 (x := (hlen σ j, .inl (hA σ j))) (by rw [hW_get h.1.1, hE_i h.1.2]) rfl hnm (fun i v hv => ?_) hfr hlo hcs.1 (Nat.le_trans (Nat.add_le_add_left h.2 _) hcs.2) hd (fun a H1 hK1 hP1 hD1 hS1 => ?_)
  · have hv' : (arrV (cs 0) (hlen σ j) (fun z => Value.int (hA σ j z))).slots[i]? = some v := hv
    by_cases hi : i < hlen σ j
    · rw [arrV_read _ _ hi] at hv'; cases hv'; rfl
    · have hsz := arrV_size (cs 0) (hlen σ j) (fun z => Value.int (hA σ j z))
      have := (Array.getElem?_eq_some_iff.mp hv').1
      omega
  have e0 : hWl cs q σ ++ [(a, .inl (cs 0, hlen σ j, .inl (hA σ j)))] = hWl cs (va_up q (hN σ) a) (nwc σ 10 (hlen σ j) (hA σ j)) := hW_push hO rfl (fun i hi => hE_nwc hi) (by rw [hE_i (nwc_ty σ 10 (hlen σ j) (hA σ j)), nwc_len, nwc_A])
  rw [e0] at hP1 hD1
  have k1 := kk (va_up q (hN σ) a) _ _ (fun j hj => vau_o hj) rfl rfl
  rw [show va_up q (hN σ) a (hN σ) = a from if_pos rfl] at k1
  refine W.widen (Nat.le_refl _) (show slots + hlen σ j ≤ slots + b from Nat.add_le_add_left h.2 _) ?_
  exact k1 H1 locs ls (hOK_nwc hO) hP1 hD1 hS1 hl
theorem j_castI (X : Cx p s m args c cc nL "java/util/Arrays" D cs A H0) {j : Nat} (h : isO σ 10 j) (hd : decode cc pc = .ok (.checkcast 317, 3)) (k : J p l e R s m args below meth c nL D cs A H0 cells slots Q q σ lv (pc + 3) (.ref (q j) :: st)) : J p l e R s m args below meth c nL D cs A H0 cells slots Q q σ lv pc (.ref (q j) :: st) := fun H locs ls hO hP hD hS hl =>
  va_castA X.1 X.2.1 X.2.2.2.1 (X.2.2.2.2.1 _ w_cl6) hP j (by rw [hW_get h.1, hE_i h.2]) (hnmI X) hd (k H locs ls hO hP hD hS hl)
end HA
