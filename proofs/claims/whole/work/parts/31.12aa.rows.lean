def va_AOA (t : FieldType) (U : State) : Prop := (Cond.arrayOver (.array t)).before #[] U = true
theorem va_AOA.use {t : FieldType} {A : Array Value} {U : State} (h : va_AOA t U) : (Cond.arrayOver (.array t)).before A U = true := h
/-! ===== BEGIN new T[n][m]: the outer array a place, the inner ones among the pooled ===== -/
/-- f, but v at every address of l -/
def vr_up {α : Type} (f : Nat → α) (l : List Nat) (v : α) : Nat → α := fun a => if a ∈ l then v else f a
theorem vr_up_in {α : Type} {f : Nat → α} {l : List Nat} {v : α} {a : Nat} (h : a ∈ l) : vr_up f l v a = v := if_pos h
theorem vr_up_ne {α : Type} {f : Nat → α} {l : List Nat} {v : α} {a : Nat} (h : a ∉ l) : vr_up f l v a = f a := if_neg h
theorem vr_rows {L l : List Nat} {f : Nat → va_E} {e : va_E} (h : ∀ a, a ∈ l → a ∉ L) : va_pl L f ++ l.map (fun a => (a, e)) = va_pl (L ++ l) (vr_up f l e) := by
  unfold va_pl
  rw [List.map_append]
  congr 1
  · apply List.map_congr_left
    intro a ha
    rw [vr_up_ne (fun q => h a q ha)]
  · apply List.map_congr_left
    intro a ha
    rw [vr_up_in ha]
theorem vr_lay {X rows : va_W} {x : Nat × va_E} {pl : va_W} {D : va_G} {cl : List vw_C} {H : Heap} (hP : va_P D cl (((X ++ pl) ++ [x]) ++ rows) H) : va_P D cl ((X ++ [x]) ++ (pl ++ rows)) H := by
  rw [List.append_assoc (X ++ pl)] at hP
  have h := va_P.swap hP
  rw [← List.append_assoc X] at h
  have h2 := va_P.swap h
  rw [List.append_assoc (X ++ [x])] at h2
  exact h2
theorem vr_layD {X rows : va_W} {x : Nat × va_E} {pl : va_W} {A : Nat → Prop} (hD : va_D A (((X ++ pl) ++ [x]) ++ rows)) : va_D A ((X ++ [x]) ++ (pl ++ rows)) := by
  rw [List.append_assoc (X ++ pl)] at hD
  have h := va_D.swap hD
  rw [← List.append_assoc X] at h
  have h2 := va_D.swap h
  rw [List.append_assoc (X ++ [x])] at h2
  exact h2
theorem vr_outer (c : ClassId) (N h0 : Nat) : ∀ i : Nat, Jvm.Free.Multi.outerC c N h0 i = arrV c N (fun j => va_rf (if j < i then some (h0 + 1 + j) else none))
  | 0 => by
    show ({ cls := c, slots := Array.replicate N .null, vm := .none } : Cell) = _
    rw [arrV_new]
    refine congrArg (arrV c N) (funext fun j => ?_)
    simp [va_rf]
  | i + 1 => by
    show (Jvm.Free.Multi.outerC c N h0 i).setSlot i (.ref (h0 + 1 + i)) = _
    rw [vr_outer c N h0 i, arrV_store]
    refine congrArg (arrV c N) (funext fun j => ?_)
    by_cases e : j = i
    · subst e
      simp [updV, va_rf]
    · by_cases h : j < i
      · simp [updV, e, h, Nat.lt_succ_of_lt h]
      · simp [updV, e, h, show ¬ j < i + 1 by omega]
section VGM
variable {p : Program} {l : Launch} {e : Env} {R : Room} {s : State} {m : MethodId} {args : Array Value} {below : List Frame} {meth : Method} {c : Code} {H : Heap} {locs : List Loc} {cells slots : Nat} {Q : State → Prop}
variable {cc : ByteArray} {pc : Nat} {ls : Array Slot} {rest : List Value} {D : va_G} {cl : List vw_C} {A : Nat → Prop} {a : Nat} {tys : List (ClassId × FieldType)} {ws : va_W} {H0 : Heap}
theorem va_mna {X : va_W} {L : List Nat} {f : Nat → va_E} {cc : ByteArray} (hexec : p.tables.exec = Jvm.exec) (hb : c.code = cc) {own : String} {index : Nat} {ty : FieldType} {cy : ClassId} (hown : s.vm.findClass own = some m.cls) (hclink : (Cond.classLink own index ("[" ++ (FieldType.array ty).toString)).before args s = true) (hover : va_AOA ty s) (harr : (Cond.arrayClass ty).before args s = true) (hcy : s.vm.findClass (FieldType.array ty).toString = some cy)
    (hK : va_K D cl tys s) (hP : va_P D cl (X ++ va_pl L f) H) (hD : va_D A (X ++ va_pl L f)) (hS : va_S A H0 H locs) (hA : ∀ q, H0.size ≤ q → A q) {n k : Int32} {N' K' : Nat} {z : vp_A} (hn : ¬ n < 0) (hk : ¬ k < 0) (hN : n.toNatClampNeg = N') (hM : k.toNatClampNeg = K')
    (hb1 : N' * 4 ≤ 536870912) (hb2 : K' * componentBytes ty ≤ 536870912) (hb3 : K' ≤ 536870912) (hdf : fits ty (defaultValue ty) = true) (hdd : (defaultValue ty).isDefault = true) (hcells : cells + (1 + N') ≤ R.cells) (hslots : slots + (N' + N' * K') ≤ R.slots) (hz : ∀ c : ClassId, Jvm.Free.Multi.innerC c K' (defaultValue ty) = vp_cell c z) (hdg : decode cc pc = .ok (.multianewarray index 2, 4))
    (kk : ∀ (q : Nat) (r : Nat → Nat) (cA : ClassId) (H1 : Heap), (∀ i j : Nat, i < N' → j < N' → r i = r j → i = j) → (∀ i : Nat, i < N' → r i ∉ L) → va_K D cl (tys ++ [(cA, .array ty)]) s →
      va_P D cl ((X ++ [(q, .inl (cA, N', .inr (.inr (.inr (.inr (fun i => if i < N' then some (r i) else none))))))]) ++ va_pl (L ++ (List.range N').map r) (vr_up f ((List.range N').map r) (.inl (cy, z)))) H1 → va_D A ((X ++ [(q, .inl (cA, N', .inr (.inr (.inr (.inr (fun i => if i < N' then some (r i) else none))))))]) ++ va_pl (L ++ (List.range N').map r) (vr_up f ((List.range N').map r) (.inl (cy, z)))) → va_S A H0 H1 locs →
      W p l e R s m args below meth c H1 locs (cells + 1 + N') (slots + N' + N' * K') Q (F0 m (pc + 4) ls (.ref q :: rest))) : W p l e R s m args below meth c H locs cells slots Q (F0 m pc ls (.int k :: .int n :: rest)) := by
  subst hN
  subst hM
  intro T hT Xs
  obtain ⟨vm₁, cA, comp, -, fA, fC, hO, -, X', step⟩ := Xs.multianewarray2F hexec hown hclink (va_AOA.use hover) harr (g := F0 m pc ls (.int k :: .int n :: rest)) rfl (by rw [hb]; exact hdg) rfl hn hk hb1 hb2 hb3 hdf hdd hcells hslots
  have ec : some cy = some comp := hcy.symm.trans fC
  cases ec
  generalize hF : Jvm.Free.Multi.fill (T.setVm vm₁) cA cy n.toNatClampNeg k.toNatClampNeg (defaultValue ty) n.toNatClampNeg = F at X' step
  have hTh : (T.setVm vm₁).heap = H := hT
  obtain ⟨f1, f2, -, -⟩ := Jvm.Free.Multi.fill_facts (T.setVm vm₁) cA cy n.toNatClampNeg k.toNatClampNeg (defaultValue ty) n.toNatClampNeg
  rw [hF, hTh] at f1 f2
  have hold : ∀ x : Nat, x < H.size → F.heap[x]? = H[x]? := fun x hx => by
    have := Jvm.Free.Multi.fill_old (T.setVm vm₁) cA cy n.toNatClampNeg k.toNatClampNeg (defaultValue ty) (a := x) (by rw [hTh]; exact hx) n.toNatClampNeg
    rw [hF, hTh] at this
    exact this
  have hrow : ∀ j : Nat, j < n.toNatClampNeg → F.heap[H.size + 1 + j]? = some (vp_cell cy z) := fun j hj => by
    have := Jvm.Free.Multi.fill_inner (T.setVm vm₁) cA cy n.toNatClampNeg k.toNatClampNeg (defaultValue ty) n.toNatClampNeg j hj
    rw [hF, hTh, hz] at this
    exact this
  have hout : Jvm.Free.Multi.outerC cA n.toNatClampNeg H.size n.toNatClampNeg = vp_cell cA (n.toNatClampNeg, .inr (.inr (.inr (.inr (fun i => if i < n.toNatClampNeg then some (H.size + 1 + i) else none))))) := by
    rw [vp_cell_q]
    exact vr_outer cA n.toNatClampNeg H.size n.toNatClampNeg
  rw [hout] at f2
  have hlt : ∀ a, a ∈ L → a < H.size := fun a ha => by
    obtain ⟨k9, hk9⟩ := va_pl_get (X := X) (f := f) ha
    exact (hP k9 _ hk9).lt
  have hnl : ∀ i : Nat, i < n.toNatClampNeg → H.size + 1 + i ∉ L := fun i _ h => by
    have := hlt _ h
    omega
  have hnm : ∀ a, a ∈ (List.range n.toNatClampNeg).map (fun i => H.size + 1 + i) → a ∉ L := fun a ha h => by
    obtain ⟨i, -, rfl⟩ := List.mem_map.mp ha
    have := hlt _ h
    omega
  have hP0 : va_P D cl (X ++ va_pl L f) F.heap := hP.kept (fun k9 x hx => hold x.1 ((hP k9 x hx).lt))
  have hP1 : va_P D cl ((X ++ va_pl L f) ++ [(H.size, .inl (cA, n.toNatClampNeg, .inr (.inr (.inr (.inr (fun i => if i < n.toNatClampNeg then some (H.size + 1 + i) else none))))))]) F.heap := hP0.app (fun k9 x hx => by
    have h0 : k9 < 1 := (List.getElem?_eq_some_iff.mp hx).1
    rw [show k9 = 0 by omega] at hx
    cases hx
    exact f2)
  have hP2 : va_P D cl (((X ++ va_pl L f) ++ [(H.size, .inl (cA, n.toNatClampNeg, .inr (.inr (.inr (.inr (fun i => if i < n.toNatClampNeg then some (H.size + 1 + i) else none))))))]) ++ ((List.range n.toNatClampNeg).map (fun i => H.size + 1 + i)).map (fun a => (a, .inl (cy, z)))) F.heap := hP1.app (fun k9 x hx => by
    obtain ⟨a, ha, rfl⟩ := List.mem_map.mp (List.mem_of_getElem? hx)
    obtain ⟨i, hi, rfl⟩ := List.mem_map.mp ha
    exact hrow i (List.mem_range.mp hi))
  have hD2 : va_D A (((X ++ va_pl L f) ++ [(H.size, .inl (cA, n.toNatClampNeg, .inr (.inr (.inr (.inr (fun i => if i < n.toNatClampNeg then some (H.size + 1 + i) else none))))))]) ++ ((List.range n.toNatClampNeg).map (fun i => H.size + 1 + i)).map (fun a => (a, .inl (cy, z)))) := by
    have hD1 := hD.push (e := .inl (cA, n.toNatClampNeg, .inr (.inr (.inr (.inr (fun i => if i < n.toNatClampNeg then some (H.size + 1 + i) else none)))))) hP rfl (hA _ hS.1)
    generalize hW1 : (X ++ va_pl L f) ++ [(H.size, .inl (cA, n.toNatClampNeg, .inr (.inr (.inr (.inr (fun i => if i < n.toNatClampNeg then some (H.size + 1 + i) else none))))))] = W1 at hD1 hP1 ⊢
    have hle : ∀ (k9 : Nat) (x : Nat × va_E), W1[k9]? = some x → x.1 ≤ H.size := fun k9 x hx => by
      rw [← hW1] at hx
      by_cases hl : k9 < (X ++ va_pl L f).length
      · rw [List.getElem?_append_left hl] at hx
        exact Nat.le_of_lt ((hP k9 x hx).lt)
      · rw [List.getElem?_append_right (by omega)] at hx
        have h0 : k9 - (X ++ va_pl L f).length < 1 := (List.getElem?_eq_some_iff.mp hx).1
        rw [show k9 - (X ++ va_pl L f).length = 0 by omega] at hx
        cases hx
        exact Nat.le_refl _
    have hr : ∀ (k9 : Nat) (x : Nat × va_E), (((List.range n.toNatClampNeg).map (fun i => H.size + 1 + i)).map (fun a => ((a, .inl (cy, z)) : Nat × va_E)))[k9]? = some x → x.1 = H.size + 1 + k9 := fun k9 x hx => by
      rw [List.getElem?_map, List.getElem?_map] at hx
      by_cases h9 : k9 < n.toNatClampNeg
      · rw [List.getElem?_range h9] at hx
        cases hx
        rfl
      · have hn0 : (List.range n.toNatClampNeg)[k9]? = none := List.getElem?_eq_none (by rw [List.length_range]; omega)
        rw [hn0] at hx
        cases hx
    refine ⟨fun i j x y hi hj hxy => ?_, fun k9 x hx => ?_⟩
    · by_cases h1 : i < W1.length <;> by_cases h2 : j < W1.length
      · rw [List.getElem?_append_left h1] at hi
        rw [List.getElem?_append_left h2] at hj
        exact hD1.1 i j x y hi hj hxy
      · rw [List.getElem?_append_left h1] at hi
        rw [List.getElem?_append_right (by omega)] at hj
        have := hle _ _ hi
        have := hr _ _ hj
        omega
      · rw [List.getElem?_append_right (by omega)] at hi
        rw [List.getElem?_append_left h2] at hj
        have := hle _ _ hj
        have := hr _ _ hi
        omega
      · rw [List.getElem?_append_right (by omega)] at hi hj
        have := hr _ _ hi
        have := hr _ _ hj
        omega
    · by_cases h1 : k9 < W1.length
      · rw [List.getElem?_append_left h1] at hx
        exact hD1.2 k9 x hx
      · rw [List.getElem?_append_right (by omega)] at hx
        have := hr _ _ hx
        exact hA _ (by have := hS.1; omega)
  have hAr : ArrOfT s cA (.array ty) := fun N9 z9 => by
    obtain ⟨-, k9, hk9, cm9, hkk9⟩ := (hO 0 0 0).1
    exact ⟨(fun q hq => by cases hq), k9, hk9, cm9, hkk9⟩
  have hK2 : va_K D cl (tys ++ [(cA, .array ty)]) s := ⟨hK.1, fun k9 x hx => by
    by_cases hl : k9 < tys.length
    · rw [List.getElem?_append_left hl] at hx
      exact hK.2 k9 x hx
    · rw [List.getElem?_append_right (by omega)] at hx
      have h0 : k9 - tys.length < 1 := (List.getElem?_eq_some_iff.mp hx).1
      rw [show k9 - tys.length = 0 by omega] at hx
      cases hx
      exact ⟨hAr, fA⟩⟩
  obtain ⟨t, a1, b1⟩ := kk H.size (fun i => H.size + 1 + i) cA F.heap (fun i j _ _ h => by have h9 : H.size + 1 + i = H.size + 1 + j := h; omega) hnl hK2 (by rw [← vr_rows hnm]; exact vr_lay hP2) (by rw [← vr_rows hnm]; exact vr_layD hD2) ⟨by rw [f1]; have := hS.1; omega, fun x h1 h2 => (hold x (Nat.lt_of_lt_of_le h1 hS.1)).trans (hS.2.1 x h1 h2), hS.2.2⟩ F rfl X'
  refine ⟨t, step t ?_, b1⟩
  have e : T.heap.size = H.size := by rw [hT]
  rw [e]
  exact a1
end VGM
/-! ===== END ===== -/
theorem nwM_N (σ : HS) : hN (nwM σ) = hN σ + 5 := rfl
theorem nwM_ty (σ : HS) (i : Nat) : hty (nwM σ) i = if i = hN σ then 14 else if hN σ < i ∧ i < hN σ + 5 then 12 else hty σ i := by
  unfold nwM nw sR hty va_up hN
  dsimp only
  repeat' split
  all_goals first | rfl | omega
theorem nwM_len (σ : HS) (i : Nat) : hlen (nwM σ) i = if i = hN σ then 4 else if hN σ < i ∧ i < hN σ + 5 then 8 else hlen σ i := by
  unfold nwM nw sR hlen va_up hN
  dsimp only
  repeat' split
  all_goals first | rfl | omega
theorem nwM_A (σ : HS) (i : Nat) : hA (nwM σ) i = if hN σ ≤ i ∧ i < hN σ + 5 then fun _ => 0 else hA σ i := by
  funext k
  unfold nwM nw sR hA upr hN
  dsimp only
  repeat' split
  all_goals first | rfl | omega
theorem nwM_B (σ : HS) (i : Nat) : hB (nwM σ) i = if hN σ ≤ i ∧ i < hN σ + 5 then fun _ => 0 else hB σ i := by
  funext k
  unfold nwM nw sR hB upr hN
  dsimp only
  repeat' split
  all_goals first | rfl | omega
theorem nwM_R (σ : HS) (i k : Nat) : hR (nwM σ) i k = if i = hN σ then (if k < 4 then some (hN σ + 1 + k) else none) else if hN σ < i ∧ i < hN σ + 5 then none else hR σ i k := by
  unfold nwM nw sR hR up2 upr hN
  dsimp only
  repeat' split
  all_goals first | rfl | omega | (congr 1; omega)
theorem hOK_nwM {σ : HS} (h : hOK σ) : hOK (nwM σ) := by
  intro a b i hi
  rw [nwM_R] at hi
  rw [nwM_N]
  split at hi
  · split at hi
    · have := Option.some.inj hi; omega
    · cases hi
  · split at hi
    · cases hi
    · have := h a b i hi; omega
theorem range5 (n : Nat) : List.range (n + 5) = List.range n ++ [n, n + 1, n + 2, n + 3, n + 4] := by simp [List.range_succ]
def qM (q r : Nat → Nat) (N a : Nat) : Nat → Nat := fun j => if j < N then q j else if j = N then a else r (j - (N + 1))
theorem qM_o {q r : Nat → Nat} {N a j : Nat} (h : j < N) : qM q r N a j = q j := if_pos h
theorem qM_n {q r : Nat → Nat} {N a : Nat} : qM q r N a N = a := by unfold qM; rw [if_neg (Nat.lt_irrefl _), if_pos rfl]
theorem qM_r {q r : Nat → Nat} {N a k : Nat} : qM q r N a (N + 1 + k) = r k := by
  unfold qM; rw [if_neg (by omega), if_neg (by omega)]; congr 1; omega
theorem hW_M {cs : Nat → ClassId} {q r : Nat → Nat} {σ : HS} {a : Nat} {f : Nat → va_E} (hO : hOK σ) (hf : ∀ i, i < 4 → f (r i) = .inl (cs 2, 8, .inr (.inl (fun _ => 0)))) :
    (hWl cs q σ ++ [(a, .inl (cs 4, 4, .inr (.inr (.inr (.inr (fun i => if i < 4 then some (r i) else none))))))]) ++ va_pl ([] ++ (List.range 4).map r) f = hWl cs (qM q r (hN σ) a) (nwM σ) := by
  unfold hWl
  rw [nwM_N, range5, List.map_append, List.append_assoc]
  congr 1
  · apply List.map_congr_left
    intro i hi
    have hi := List.mem_range.mp hi
    have e1 : hE cs (qM q r (hN σ) a) (nwM σ) i = hE cs (qM q r (hN σ) a) σ i := hE_cong (by rw [nwM_ty, if_neg (by omega), if_neg (by omega)]) (by rw [nwM_len, if_neg (by omega), if_neg (by omega)]) (by rw [nwM_A, if_neg (by omega)]) (by rw [nwM_B, if_neg (by omega)]) (by funext k; rw [nwM_R, if_neg (by omega), if_neg (by omega)])
    rw [e1, hE_obj_cs (q := q) (q' := qM q r (hN σ) a) (fun k z hz => qM_o (hO i k z hz)), qM_o hi]
  · have e0 : hE cs (qM q r (hN σ) a) (nwM σ) (hN σ) = .inl (cs 4, 4, .inr (.inr (.inr (.inr (fun i => if i < 4 then some (r i) else none))))) := by
      rw [hE_r (by rw [nwM_ty, if_pos rfl]), nwM_len, if_pos rfl]
      refine congrArg (fun z => (Sum.inl (cs 4, 4, .inr (.inr (.inr (.inr z)))) : va_E)) (funext fun k => ?_)
      rw [nwM_R, if_pos rfl]
      by_cases hk : k < 4
      · rw [if_pos hk, if_pos hk]; exact congrArg some qM_r
      · rw [if_neg hk, if_neg hk]; rfl
    have e1 : ∀ k, k < 4 → hE cs (qM q r (hN σ) a) (nwM σ) (hN σ + 1 + k) = .inl (cs 2, 8, .inr (.inl (fun _ => 0))) := fun k hk => by
      rw [hE_l (by rw [nwM_ty, if_neg (by omega), if_pos (by omega)]), nwM_len, if_neg (by omega), if_pos (by omega), nwM_B, if_pos (by omega)]
    have l4 : List.range 4 = [0, 1, 2, 3] := rfl
    unfold va_pl
    simp only [l4, List.map_cons, List.map_nil, List.nil_append, List.cons_append]
    rw [e0, qM_n, hf 0 (by omega), hf 1 (by omega), hf 2 (by omega), hf 3 (by omega)]
    rw [show hN σ + 1 = hN σ + 1 + 0 from rfl, show hN σ + 2 = hN σ + 1 + 1 from rfl, show hN σ + 3 = hN σ + 1 + 2 from rfl, show hN σ + 4 = hN σ + 1 + 3 from rfl, e1 0 (by omega), e1 1 (by omega), e1 2 (by omega), e1 3 (by omega), qM_r, qM_r, qM_r, qM_r]
theorem isO_nwM {σ σ' : HS} {a b : Nat} (e : σ' = nwM σ) (h : isO σ a b) : isO σ' a b := by
  subst e
  have h1 := h.1
  exact ⟨by rw [nwM_N]; omega, by rw [nwM_ty, if_neg (by omega), if_neg (by omega)]; exact h.2⟩
theorem isO_nwM0 {σ σ' : HS} {b : Nat} (e : σ' = nwM σ) (eb : b = hN σ) : isO σ' 14 b := by
  subst e; subst eb; exact ⟨by rw [nwM_N]; omega, by rw [nwM_ty, if_pos rfl]⟩
section HMN
variable {p : Program} {l : Launch} {e : Env} {R : Room} {s : State} {m : MethodId} {args : Array Value} {below : List Frame} {meth : Method} {c : Code} {nL : Nat} {D : va_G} {cs : Nat → ClassId} {A : Nat → Prop} {H0 : Heap} {cells slots : Nat} {Q : State → Prop} {q : Nat → Nat} {σ : HS} {lv : List (Nat × Value)} {pc : Nat} {st : List Value} {cc : ByteArray} {own : String}
theorem j_mna (X : Cx p s m args c cc nL own D cs A H0) {index : Nat} (hlk : Cond.classLink own index "[[J" ∈ lw_g) (hcs : cells + 5 ≤ R.cells ∧ slots + 36 ≤ R.slots) (hd : decode cc pc = .ok (.multianewarray index 2, 4)) (kk : ∀ (q' : Nat → Nat) (σ' : HS) (n' : Nat), (∀ j, j < hN σ → q' j = q j) → σ' = nwM σ → n' = hN σ → J p l e R s m args below meth c nL D cs A H0 (cells + 5) (slots + 36) Q q' σ' lv (pc + 4) (.ref (q' n') :: st)) : J p l e R s m args below meth c nL D cs A H0 cells slots Q q σ lv pc (.int 8 :: .int 4 :: st) := fun H locs ls hO hP hD hS hl => by
  have hao : va_AOA .long s := X.2.2.2.2.2.2.2 (.arrayOver (.array .long)) (by simp [lw_bad])
  have hnil : hWl cs q σ ++ va_pl [] (fun _ => (.inl (cs 2, 0, .inr (.inl (fun _ => 0))) : va_E)) = hWl cs q σ := List.append_nil _
  refine va_mna (X := hWl cs q σ) (L := []) (f := fun _ => .inl (cs 2, 0, .inr (.inl (fun _ => 0)))) (ty := .long) (cy := cs 2) (N' := 4) (K' := 8) (z := (8, .inr (.inl (fun _ => 0)))) X.1 X.2.1 X.2.2.2.1 (X.2.2.2.2.1 _ hlk) hao (X.2.2.2.2.1 _ w_acl) (X.2.2.2.2.2.1.2 2 (cs 2, .long) rfl).2 X.2.2.2.2.2.1 (by rw [hnil]; exact hP) (by rw [hnil]; exact hD) hS X.2.2.2.2.2.2.1 (by decide) (by decide) (by decide) (by decide) (by decide) (by decide) (by decide) rfl rfl hcs.1 hcs.2 (fun _ => rfl) hd (fun a r cA H1 hinj hnl hK1 hP1 hD1 hS1 => ?_)
  have ec : cA = cs 4 := va_RA_one (hK1.2 5 (cA, .array .long) rfl).2 (X.2.2.2.2.2.1.2 4 (cs 4, .array .long) rfl).2
  subst ec
  have e0 := hW_M (cs := cs) (q := q) (r := r) (σ := σ) (a := a) (f := vr_up (fun _ => (.inl (cs 2, 0, .inr (.inl (fun _ => 0))) : va_E)) ((List.range 4).map r) (.inl (cs 2, 8, .inr (.inl (fun _ => 0))))) hO (fun i hi => vr_up_in (List.mem_map.mpr ⟨i, List.mem_range.mpr hi, rfl⟩))
  rw [e0] at hP1 hD1
  have k1 := kk (qM q r (hN σ) a) _ _ (fun j hj => qM_o hj) rfl rfl
  rw [qM_n] at k1
  exact k1 H1 locs ls (hOK_nwM hO) hP1 hD1 hS1 hl
theorem j_callIN2 (X : Cx p s m args c cc nL own D cs A H0) {y : MethodName} {bytes : ByteArray} {maxL n index j mc ms : Nat} {rm : Room} {As rest : List Value} {K : (Nat → Nat) → Prop} {rv : (Nat → Nat) → Option Value} {σ0 : HS} {host : String} (hM : MT l y (Cond.code y bytes maxL none :: lw_g) rm D cs q σ σ0 (.ref (q j) :: As) K rv mc ms) (M : MK y bytes maxL none n) (M2 : y.name = "<init>" ∧ Cond.instanceMethod y ∈ lw_g) (hlk : Cond.methodLinkNest own index y host ∈ lw_bad) (hrm : rm.cells = mc ∧ rm.slots = ms) (hR : rm.frames + 1 ≤ R.frames ∧ 8 + (maxL + 11) + rm.locals ≤ R.locals) (hn : As.length = n) (hcat : (rest.map fun v => v.category).sum ≤ 8) (hcs : cells + mc ≤ R.cells ∧ slots + ms ≤ R.slots) (hd : decode cc pc = .ok (.invokespecial index, 3)) (hst : st = As.reverse ++ .ref (q j) :: rest) (st' : (Nat → Nat) → List Value) (hst' : ∀ q' : Nat → Nat, (rv q').toList ++ rest = st' q') (kk : ∀ q' : Nat → Nat, K q' → J p l e R s m args below meth c nL D cs A H0 (cells + mc) (slots + ms) Q q' σ0 lv (pc + 3) (st' q')) : J p l e R s m args below meth c nL D cs A H0 cells slots Q q σ lv pc st := fun H locs ls hO hP hD hS hl => by
  subst hst
  have hts := X.2.2.2.2.1
  have cw : va_CN R s args own index y host bytes maxL none (Cond.code y bytes maxL none :: lw_g) rm mc ms n := ⟨⟨hrm.1, hrm.2, hR.1, hR.2, pay_in hts (gGc M.1), List.mem_cons_self⟩, hts _ M.1, hts _ M.2.1, ⟨M.2.2.1, M.2.2.2.1⟩, fun sig h => by
    have h2 := M.2.2.2.2
    rw [h] at h2
    exact (Option.some.inj h2).symm, va_Nw.use rfl (X.2.2.2.2.2.2.2 _ hlk)⟩
  exact j_run X hD hS hl (va_runIN (As := As) (rest := rest) ⟨X.1, X.2.1, X.2.2.1, X.2.2.2.1, X.2.2.2.2.1⟩ (hM H.size) ⟨cw, M2.1, hts _ M2.2⟩ ⟨hPre_blind, fun U hU hW => ⟨rfl, by rw [hU], hBad_warm hW X.2.2.2.2.2.2.2, hO, by rw [hU]; exact hP, va_K.moved hW.alike X.2.2.2.2.2.1, hD.weaken (fun _ _ _ _ => trivial)⟩⟩ rfl hn hl.1 rfl (lv_room hcat) hd hcs) hst' kk

end HMN
