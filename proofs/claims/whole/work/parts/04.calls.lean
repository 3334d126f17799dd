theorem tst1 : Cond.methodLink "SpanKeeper" 5 ⟨"java/lang/Object", "<init>", "()V"⟩ ∈ lw_g := gw 69 rfl rfl
set_option maxRecDepth 100000 in
theorem tst2 : Cond.code yX6_count cX6_count 2 (some .int) ∈ lw_g := gw 1091 rfl rfl
theorem tst3 : Cond.constantLong "SpanKeeperModel" 306 (3 : Int64) ∈ lw_g := gw 1064 (by decide +kernel) rfl
theorem gG : GoodIn lw_g lw_g := fun w hw => ⟨hw, good_of_word (List.mem_filter.mp hw).2⟩
theorem gGc {y : MethodName} {bytes : ByteArray} {maxL : Nat} {ret : Option FieldType} (h : Cond.code y bytes maxL ret ∈ lw_g) : GoodIn lw_g (Cond.code y bytes maxL ret :: lw_g) := fun w hw => by
  rcases List.mem_cons.mp hw with e | e
  · rw [e]; exact gG _ h
  · exact gG w e
/-- what a call needs to know of a method -/
def MK (y : MethodName) (bytes : ByteArray) (maxL : Nat) (ret : Option FieldType) (n : Nat) : Prop := Cond.code y bytes maxL ret ∈ lw_g ∧ Cond.initialized y.cls ∈ lw_g ∧ (y.cls ≠ "java/lang/invoke/MethodHandle" ∧ y.cls ≠ "java/lang/invoke/VarHandle" ∧ (parseMethodDescriptor y.desc).map (fun d => d.parameters.length) = some n)
def MV (y : MethodName) : Prop := Cond.instanceMethod y ∈ lw_g ∧ Cond.selects y.cls y y ∈ lw_g
theorem va_AOA_moved {t : FieldType} {u U : State} (hvm : u.vm.Alike U.vm) (h : va_Nw (.arrayOver (.array t)) u) : va_Nw (.arrayOver (.array t)) U := by
  obtain ⟨comp, c, k, h1, h2, h3, h4, h5⟩ := arrayOverA_spec (args := #[]) (first := u) (o := none) (idx := []) h
  obtain ⟨k', hk', he⟩ := hvm.2.2 _ _ h3
  have f1 : U.vm.findClass (FieldType.array t).toString = some comp := by rw [hvm.findClass]; exact h1
  have hi : (U.vm.classes.findIdx? fun x => match x.kind with | .array component _ => component == comp | _ => false) = some c := by
    rw [hvm.findIdx?_eq _ (fun _ => rfl)]; exact h2
  have hkind : k'.kind = .array comp (.array t) := by rw [he]; exact h4
  have f2 : U.vm.findClass ("[" ++ (FieldType.array t).toString) = some c := by rw [hvm.findClass]; exact h5
  unfold va_Nw Cond.before Cond.holds
  simp only [Cond.value]
  rw [f1, Option.bind_some]
  refine (congrArg (fun o : Option Nat => (o.bind (fun c => (U.vm.classes[c]?).map fun (k : Class) => match k.kind with | .array _ ty => decide (ty = FieldType.array t) && decide (U.vm.findClass ("[" ++ (FieldType.array t).toString) = some c) | _ => false) == some true)) hi).trans ?_
  simp [hk', hkind, f2]
theorem hBad_warm {s U : State} (hW : s.WarmedH U.vm) (h : hBad s) : hBad U := by
  intro w hw
  simp only [lw_bad, List.mem_cons, List.mem_nil_iff, or_false] at hw
  rcases hw with e | e | e | e | e
  · rw [e]; exact va_Nw.warmM hW (h _ (by rw [← e]; simp [lw_bad, e]))
  · rw [e]; exact va_Nw.warmM hW (h _ (by rw [← e]; simp [lw_bad, e]))
  · rw [e]; exact va_Nw.warmC hW (h _ (by rw [← e]; simp [lw_bad, e]))
  · rw [e]; exact va_AO.moved hW.alike (h _ (by rw [← e]; simp [lw_bad, e]))
  · rw [e]; exact va_AOA_moved hW.alike (h _ (by rw [← e]; simp [lw_bad, e]))
theorem hBad_vm {s U : State} (hv : s.vm = U.vm) (h : hBad s) : hBad U := by
  have hal : s.vm.Alike U.vm := by rw [hv]; exact Vm.Alike.refl _
  intro w hw
  simp only [lw_bad, List.mem_cons, List.mem_nil_iff, or_false] at hw
  rcases hw with e | e | e | e | e
  · rw [e]; exact va_tabs rfl hv (h _ (by rw [← e]; simp [lw_bad, e]))
  · rw [e]; exact va_tabs rfl hv (h _ (by rw [← e]; simp [lw_bad, e]))
  · rw [e]; exact va_tabs rfl hv (h _ (by rw [← e]; simp [lw_bad, e]))
  · rw [e]; exact va_AO.moved hal (h _ (by rw [← e]; simp [lw_bad, e]))
  · rw [e]; exact va_AOA_moved hal (h _ (by rw [← e]; simp [lw_bad, e]))
theorem hPre_blind {D : va_G} {cs : Nat → ClassId} {q : Nat → Nat} {σ : HS} {sz : Nat} {av : List Value} : FrameBlind (va_Pc av (hPre D cs q σ sz)) := fun a U g mk z => by
  obtain ⟨q0, q1, qB, qO, qP, qK, qD⟩ := z
  exact ⟨q0, q1, hBad_vm (s := U) (U := U.calling g mk a) rfl qB, qO, qP, va_K.moved (u := U) (U := U.calling g mk a) (Vm.Alike.refl U.vm) qK, qD⟩
section HCC
variable {p : Program} {l : Launch} {e : Env} {R : Room} {s : State} {m : MethodId} {args : Array Value} {below : List Frame} {meth : Method} {c : Code} {nL : Nat} {D : va_G} {cs : Nat → ClassId} {A : Nat → Prop} {H0 : Heap} {cells slots : Nat} {Q : State → Prop} {q : Nat → Nat} {σ : HS} {lv : List (Nat × Value)} {pc : Nat} {st : List Value} {cc : ByteArray} {own : String}
theorem callB_w (hts : ∀ w ∈ lw_g, w.before args s = true) {y : MethodName} {bytes : ByteArray} {maxL n index mc ms : Nat} {ret : Option FieldType} {rm : Room} (M : MK y bytes maxL ret n) (hlk : Cond.methodLink own index y ∈ lw_g) (hrm : rm.cells = mc ∧ rm.slots = ms) (hR : rm.frames + 1 ≤ R.frames ∧ 8 + (maxL + 11) + rm.locals ≤ R.locals) :
    CallB R s args own index y bytes maxL ret (Cond.code y bytes maxL ret :: lw_g) rm mc ms n :=
  callB_of n hts (gGc M.1) rfl hrm.1 hrm.2 (hts _ M.2.1) (hts _ hlk) M.2.2 hR
theorem j_run (X : Cx p s m args c cc nL own D cs A H0) {mc ms : Nat} {K : (Nat → Nat) → Prop} {rv : (Nat → Nat) → Option Value} {σ0 : HS} {a : Array Value} {rest st0 : List Value} {st' : (Nat → Nat) → List Value} {H : Heap} {locs : List Loc} {ls : Array Slot} (hD : va_D A (hWl cs q σ)) (hS : va_S A H0 H locs) (hl : lv_has ls nL lv)
    (hr : va_Run p l e R s m args below meth c H locs cells slots mc ms (F0 m pc ls st0) rest (hQ D cs K rv σ0 (va_A (hWl cs q σ) H.size) a) (va_A (hWl cs q σ) H.size)) (hst' : ∀ q' : Nat → Nat, (rv q').toList ++ rest = st' q')
    (kk : ∀ q' : Nat → Nat, K q' → J p l e R s m args below meth c nL D cs A H0 (cells + mc) (slots + ms) Q q' σ0 lv (pc + 3) (st' q')) : W p l e R s m args below meth c H locs cells slots Q (F0 m pc ls st0) := by
  intro T hT Xs
  obtain ⟨v, st₀, t, T', L, h0, X', hL, e1, e2, ⟨⟨q', hv, hK, hO1, hP1, hK1, hD1⟩, hz, hk⟩, stp⟩ := hr T hT Xs
  cases hv
  have hA : ∀ x : Nat, va_A (hWl cs q σ) H.size x → A x := fun x hx => by
    rcases hx with ⟨k, e, h⟩ | h
    · exact hD.2 k _ h
    · exact X.2.2.2.2.2.2.1 x (Nat.le_trans hS.1 h)
  rw [h0] at hz hk
  have k1 := kk q' hK T'.heap (locs ++ L) ls hO1 (by rw [e1]; exact hP1) (hD1.weaken (fun k x _ h => hA _ h)) ⟨Nat.le_trans hS.1 (by rw [e1]; exact hz), fun x h1 h2 => by rw [e1, hk x (Nat.lt_of_lt_of_le h1 hS.1) (fun z => h2 (hA x z))]; exact hS.2.1 x h1 h2, fun x hx => by
      rcases List.mem_append.mp hx with h | h
      · exact hS.2.2 x h
      · exact hA _ (hL x h)⟩ hl
  rw [← hst' q'] at k1
  obtain ⟨t2, a1, b1⟩ := k1 T' rfl X'
  exact ⟨t2, stp t2 a1, b1⟩
theorem j_callV (X : Cx p s m args c cc nL own D cs A H0) {y : MethodName} {bytes : ByteArray} {maxL n index t j mc ms : Nat} {ret : Option FieldType} {rm : Room} {As rest : List Value} {K : (Nat → Nat) → Prop} {rv : (Nat → Nat) → Option Value} {σ0 : HS} (hM : MT l y (Cond.code y bytes maxL ret :: lw_g) rm D cs q σ σ0 (.ref (q j) :: As) K rv mc ms) (M : MK y bytes maxL ret n) (M2 : MV y) (hlk : Cond.methodLink own index y ∈ lw_g) (h : isO σ t j) (hc : (classes[t]?).map (fun r => r.1) = some y.cls) (h10 : t < 10) (hrm : rm.cells = mc ∧ rm.slots = ms) (hR : rm.frames + 1 ≤ R.frames ∧ 8 + (maxL + 11) + rm.locals ≤ R.locals) (hn : As.length = n) (hcat : (rest.map fun v => v.category).sum ≤ 8) (hcs : cells + mc ≤ R.cells ∧ slots + ms ≤ R.slots) (hd : decode cc pc = .ok (.invokevirtual index, 3)) (hst : st = As.reverse ++ .ref (q j) :: rest) (st' : (Nat → Nat) → List Value) (hst' : ∀ q' : Nat → Nat, (rv q').toList ++ rest = st' q') (kk : ∀ q' : Nat → Nat, K q' → J p l e R s m args below meth c nL D cs A H0 (cells + mc) (slots + ms) Q q' σ0 lv (pc + 3) (st' q')) : J p l e R s m args below meth c nL D cs A H0 cells slots Q q σ lv pc st := fun H locs ls hO hP hD hS hl => by
  subst hst
  obtain ⟨r, hr1, hr2⟩ : ∃ r : vw_C, classes[t]? = some r ∧ r.1 = y.cls := by
    cases hz : classes[t]? with
    | none => rw [hz] at hc; cases hc
    | some r => rw [hz] at hc; exact ⟨r, rfl, Option.some.inj hc⟩
  have hrecv := va_recv X.2.2.2.2.2.1 hP hr1 (q0 := j) (a := q j) (fs := hF q σ j (fk t)) (by rw [hW_get h.1, hE_o h.2 h10])
  rw [hr2] at hrecv
  have cw : CallW R s args own y.cls index y bytes maxL ret (Cond.code y bytes maxL ret :: lw_g) rm mc ms n := ⟨callB_w X.2.2.2.2.1 M hlk hrm hR, X.2.2.2.2.1 _ M2.1, X.2.2.2.2.1 _ M2.2⟩
  exact j_run X hD hS hl (va_runV (As := As) (rest := rest) ⟨X.1, X.2.1, X.2.2.1, X.2.2.2.1, X.2.2.2.2.1⟩ (hM H.size) cw ⟨hPre_blind, hrecv, fun U hU hW => ⟨rfl, by rw [hU], hBad_warm hW X.2.2.2.2.2.2.2, hO, by rw [hU]; exact hP, va_K.moved hW.alike X.2.2.2.2.2.1, hD.weaken (fun _ _ _ _ => trivial)⟩⟩ rfl hn hl.1 rfl (lv_room hcat) hd hcs) hst' kk
theorem j_callS (X : Cx p s m args c cc nL own D cs A H0) {y : MethodName} {bytes : ByteArray} {maxL n index mc ms : Nat} {ret : Option FieldType} {rm : Room} {As rest : List Value} {K : (Nat → Nat) → Prop} {rv : (Nat → Nat) → Option Value} {σ0 : HS} (hM : MT l y (Cond.code y bytes maxL ret :: lw_g) rm D cs q σ σ0 As K rv mc ms) (M : MK y bytes maxL ret n) (M2 : Cond.static y ∈ lw_g) (hlk : Cond.methodLink own index y ∈ lw_g) (hrm : rm.cells = mc ∧ rm.slots = ms) (hR : rm.frames + 1 ≤ R.frames ∧ 8 + (maxL + 11) + rm.locals ≤ R.locals) (hn : As.length = n) (hcat : (rest.map fun v => v.category).sum ≤ 8) (hcs : cells + mc ≤ R.cells ∧ slots + ms ≤ R.slots) (hd : decode cc pc = .ok (.invokestatic index, 3)) (hst : st = As.reverse ++ rest) (st' : (Nat → Nat) → List Value) (hst' : ∀ q' : Nat → Nat, (rv q').toList ++ rest = st' q') (kk : ∀ q' : Nat → Nat, K q' → J p l e R s m args below meth c nL D cs A H0 (cells + mc) (slots + ms) Q q' σ0 lv (pc + 3) (st' q')) : J p l e R s m args below meth c nL D cs A H0 cells slots Q q σ lv pc st := fun H locs ls hO hP hD hS hl => by
  subst hst
  exact j_run X hD hS hl (va_runS (As := As) (rest := rest) ⟨X.1, X.2.1, X.2.2.1, X.2.2.2.1, X.2.2.2.2.1⟩ (hM H.size) ⟨callB_w X.2.2.2.2.1 M hlk hrm hR, X.2.2.2.2.1 _ M2⟩ ⟨hPre_blind, fun U hU hW => ⟨rfl, by rw [hU], hBad_warm hW X.2.2.2.2.2.2.2, hO, by rw [hU]; exact hP, va_K.moved hW.alike X.2.2.2.2.2.1, hD.weaken (fun _ _ _ _ => trivial)⟩⟩ rfl hn hl.1 rfl (lv_room hcat) hd hcs) hst' kk
theorem j_callI (X : Cx p s m args c cc nL own D cs A H0) {y : MethodName} {bytes : ByteArray} {maxL n index j mc ms : Nat} {rm : Room} {As rest : List Value} {K : (Nat → Nat) → Prop} {rv : (Nat → Nat) → Option Value} {σ0 : HS} (hM : MT l y (Cond.code y bytes maxL none :: lw_g) rm D cs q σ σ0 (.ref (q j) :: As) K rv mc ms) (M : MK y bytes maxL none n) (M2 : y.name = "<init>" ∧ Cond.instanceMethod y ∈ lw_g) (hlk : Cond.methodLink own index y ∈ lw_g) (hrm : rm.cells = mc ∧ rm.slots = ms) (hR : rm.frames + 1 ≤ R.frames ∧ 8 + (maxL + 11) + rm.locals ≤ R.locals) (hn : As.length = n) (hcat : (rest.map fun v => v.category).sum ≤ 8) (hcs : cells + mc ≤ R.cells ∧ slots + ms ≤ R.slots) (hd : decode cc pc = .ok (.invokespecial index, 3)) (hst : st = As.reverse ++ .ref (q j) :: rest) (st' : (Nat → Nat) → List Value) (hst' : ∀ q' : Nat → Nat, (rv q').toList ++ rest = st' q') (kk : ∀ q' : Nat → Nat, K q' → J p l e R s m args below meth c nL D cs A H0 (cells + mc) (slots + ms) Q q' σ0 lv (pc + 3) (st' q')) : J p l e R s m args below meth c nL D cs A H0 cells slots Q q σ lv pc st := fun H locs ls hO hP hD hS hl => by
  subst hst
  exact j_run X hD hS hl (va_runI (As := As) (rest := rest) ⟨X.1, X.2.1, X.2.2.1, X.2.2.2.1, X.2.2.2.2.1⟩ (hM H.size) ⟨callB_w X.2.2.2.2.1 M hlk hrm hR, M2.1, X.2.2.2.2.1 _ M2.2⟩ ⟨hPre_blind, fun U hU hW => ⟨rfl, by rw [hU], hBad_warm hW X.2.2.2.2.2.2.2, hO, by rw [hU]; exact hP, va_K.moved hW.alike X.2.2.2.2.2.1, hD.weaken (fun _ _ _ _ => trivial)⟩⟩ rfl hn hl.1 rfl (lv_room hcat) hd hcs) hst' kk
theorem j_callIN (X : Cx p s m args c cc nL own D cs A H0) {y : MethodName} {bytes : ByteArray} {maxL n index j mc ms : Nat} {rm : Room} {As rest : List Value} {K : (Nat → Nat) → Prop} {rv : (Nat → Nat) → Option Value} {σ0 : HS} {host : String} (hM : MT l y (Cond.code y bytes maxL none :: lw_g) rm D cs q σ σ0 (.ref (q j) :: As) K rv mc ms) (M : MK y bytes maxL none n) (M2 : y.name = "<init>" ∧ Cond.instanceMethod y ∈ lw_g) (hlk : Cond.methodLinkNest own index y host ∈ lw_g) (hrm : rm.cells = mc ∧ rm.slots = ms) (hR : rm.frames + 1 ≤ R.frames ∧ 8 + (maxL + 11) + rm.locals ≤ R.locals) (hn : As.length = n) (hcat : (rest.map fun v => v.category).sum ≤ 8) (hcs : cells + mc ≤ R.cells ∧ slots + ms ≤ R.slots) (hd : decode cc pc = .ok (.invokespecial index, 3)) (hst : st = As.reverse ++ .ref (q j) :: rest) (st' : (Nat → Nat) → List Value) (hst' : ∀ q' : Nat → Nat, (rv q').toList ++ rest = st' q') (kk : ∀ q' : Nat → Nat, K q' → J p l e R s m args below meth c nL D cs A H0 (cells + mc) (slots + ms) Q q' σ0 lv (pc + 3) (st' q')) : J p l e R s m args below meth c nL D cs A H0 cells slots Q q σ lv pc st := fun H locs ls hO hP hD hS hl => by
  subst hst
  have hts := X.2.2.2.2.1
  have cw : va_CN R s args own index y host bytes maxL none (Cond.code y bytes maxL none :: lw_g) rm mc ms n := ⟨⟨hrm.1, hrm.2, hR.1, hR.2, pay_in hts (gGc M.1), List.mem_cons_self⟩, hts _ M.1, hts _ M.2.1, ⟨M.2.2.1, M.2.2.2.1⟩, fun sig h => by
    have h2 := M.2.2.2.2
    rw [h] at h2
    exact (Option.some.inj h2).symm, hts _ hlk⟩
  exact j_run X hD hS hl (va_runIN (As := As) (rest := rest) ⟨X.1, X.2.1, X.2.2.1, X.2.2.2.1, X.2.2.2.2.1⟩ (hM H.size) ⟨cw, M2.1, hts _ M2.2⟩ ⟨hPre_blind, fun U hU hW => ⟨rfl, by rw [hU], hBad_warm hW X.2.2.2.2.2.2.2, hO, by rw [hU]; exact hP, va_K.moved hW.alike X.2.2.2.2.2.1, hD.weaken (fun _ _ _ _ => trivial)⟩⟩ rfl hn hl.1 rfl (lv_room hcat) hd hcs) hst' kk
theorem j_callV0 (X : Cx p s m args c cc nL own D cs A H0) {y : MethodName} {bytes : ByteArray} {maxL n index t j : Nat} {ret : Option FieldType} {rm : Room} (As rest : List Value) {rv : (Nat → Nat) → Option Value} {σ0 : HS} (hM : MT l y (Cond.code y bytes maxL ret :: lw_g) rm D cs q σ σ0 (.ref (q j) :: As) (fun z => z = q) rv 0 0) (M : MK y bytes maxL ret n) (M2 : MV y) (hlk : Cond.methodLink own index y ∈ lw_g) (h : isO σ t j) (hc : (classes[t]?).map (fun r => r.1) = some y.cls) (h10 : t < 10) (hrm : rm.cells = 0 ∧ rm.slots = 0) (hR : rm.frames + 1 ≤ R.frames ∧ 8 + (maxL + 11) + rm.locals ≤ R.locals) (hn : As.length = n) (hcat : (rest.map fun v => v.category).sum ≤ 8) (hcs : cells ≤ R.cells ∧ slots ≤ R.slots) (hd : decode cc pc = .ok (.invokevirtual index, 3)) (hst : st = As.reverse ++ .ref (q j) :: rest) {st' : List Value} (hst' : (rv q).toList ++ rest = st') (kk : J p l e R s m args below meth c nL D cs A H0 cells slots Q q σ0 lv (pc + 3) st') : J p l e R s m args below meth c nL D cs A H0 cells slots Q q σ lv pc st :=
  j_callV X hM M M2 hlk h hc h10 hrm hR hn hcat hcs hd hst (fun q' => (rv q').toList ++ rest) (fun _ => rfl) (fun q' hq => by subst hq; rw [hst']; exact kk)
theorem j_callS0 (X : Cx p s m args c cc nL own D cs A H0) {y : MethodName} {bytes : ByteArray} {maxL n index : Nat} {ret : Option FieldType} {rm : Room} (As rest : List Value) {rv : (Nat → Nat) → Option Value} {σ0 : HS} (hM : MT l y (Cond.code y bytes maxL ret :: lw_g) rm D cs q σ σ0 As (fun z => z = q) rv 0 0) (M : MK y bytes maxL ret n) (M2 : Cond.static y ∈ lw_g) (hlk : Cond.methodLink own index y ∈ lw_g)  (hrm : rm.cells = 0 ∧ rm.slots = 0) (hR : rm.frames + 1 ≤ R.frames ∧ 8 + (maxL + 11) + rm.locals ≤ R.locals) (hn : As.length = n) (hcat : (rest.map fun v => v.category).sum ≤ 8) (hcs : cells ≤ R.cells ∧ slots ≤ R.slots) (hd : decode cc pc = .ok (.invokestatic index, 3)) (hst : st = As.reverse ++ rest) {st' : List Value} (hst' : (rv q).toList ++ rest = st') (kk : J p l e R s m args below meth c nL D cs A H0 cells slots Q q σ0 lv (pc + 3) st') : J p l e R s m args below meth c nL D cs A H0 cells slots Q q σ lv pc st :=
  j_callS X hM M M2 hlk  hrm hR hn hcat hcs hd hst (fun q' => (rv q').toList ++ rest) (fun _ => rfl) (fun q' hq => by subst hq; rw [hst']; exact kk)
theorem j_reti (X : Cx p s m args c cc nL own D cs A s.heap) {K : (Nat → Nat) → Prop} {rv : (Nat → Nat) → Option Value} {σ0 : HS} {mc ms : Nat} {v : Int32} (hr : meth.sig.returnType = some .int) (hlk : meth.locks = false) (hc : cells ≤ mc) (hs : slots ≤ ms) (hK : K q) (e0 : σ = σ0) (e1 : rv q = some (.int v))  (hd : decode cc pc = .ok (.ireturn, 1)) : J p l e R s m args below meth c nL D cs A s.heap cells slots (MQ below (hQ D cs K rv σ0 A) args s mc ms A) q σ lv pc [.int v] := fun H locs ls hO hP hD hS hl => by
  subst e0
  have hx := X.1
  refine W.widen hc hs ?_
  exact W.iret hx X.2.1 hr  (fun t ht hW => ⟨⟨q, by rw [e1], hK, hO, by rw [ht]; exact hP, va_K.moved hW.alike X.2.2.2.2.2.1, hD⟩, hS.F ht⟩) hS.2.2 hd hlk
theorem j_retz (X : Cx p s m args c cc nL own D cs A s.heap) {K : (Nat → Nat) → Prop} {rv : (Nat → Nat) → Option Value} {σ0 : HS} {mc ms : Nat} {v : Int32} (hr : meth.sig.returnType = some .boolean) (hlk : meth.locks = false) (hc : cells ≤ mc) (hs : slots ≤ ms) (hK : K q) (e0 : σ = σ0) (e1 : rv q = some (.int v)) (hb : bit v) (hd : decode cc pc = .ok (.ireturn, 1)) : J p l e R s m args below meth c nL D cs A s.heap cells slots (MQ below (hQ D cs K rv σ0 A) args s mc ms A) q σ lv pc [.int v] := fun H locs ls hO hP hD hS hl => by
  subst e0
  have hx := X.1
  refine W.widen hc hs ?_
  exact W.zret hx X.2.1 hr (by rcases hb with rfl | rfl <;> rfl) (fun t ht hW => ⟨⟨q, by rw [e1], hK, hO, by rw [ht]; exact hP, va_K.moved hW.alike X.2.2.2.2.2.1, hD⟩, hS.F ht⟩) hS.2.2 hd hlk
theorem j_retl (X : Cx p s m args c cc nL own D cs A s.heap) {K : (Nat → Nat) → Prop} {rv : (Nat → Nat) → Option Value} {σ0 : HS} {mc ms : Nat} {v : Int64} (hr : meth.sig.returnType = some .long) (hlk : meth.locks = false) (hc : cells ≤ mc) (hs : slots ≤ ms) (hK : K q) (e0 : σ = σ0) (e1 : rv q = some (.long v))  (hd : decode cc pc = .ok (.lreturn, 1)) : J p l e R s m args below meth c nL D cs A s.heap cells slots (MQ below (hQ D cs K rv σ0 A) args s mc ms A) q σ lv pc [.long v] := fun H locs ls hO hP hD hS hl => by
  subst e0
  have hx := X.1
  refine W.widen hc hs ?_
  exact W.lret hx X.2.1 hr  (fun t ht hW => ⟨⟨q, by rw [e1], hK, hO, by rw [ht]; exact hP, va_K.moved hW.alike X.2.2.2.2.2.1, hD⟩, hS.F ht⟩) hS.2.2 hd hlk
theorem j_retv (X : Cx p s m args c cc nL own D cs A s.heap) {K : (Nat → Nat) → Prop} {rv : (Nat → Nat) → Option Value} {σ0 : HS} {mc ms : Nat} (hr : meth.sig.returnType = none) (hlk : meth.locks = false) (hc : cells ≤ mc) (hs : slots ≤ ms) (hK : K q) (e0 : σ = σ0) (e1 : rv q = none) (hd : decode cc pc = .ok (.return_, 1)) : J p l e R s m args below meth c nL D cs A s.heap cells slots (MQ below (hQ D cs K rv σ0 A) args s mc ms A) q σ lv pc [] := fun H locs ls hO hP hD hS hl => by
  subst e0
  have hx := X.1
  refine W.widen hc hs ?_
  exact W.vret hx X.2.1 hr (fun t ht hW => ⟨⟨q, by rw [e1], hK, hO, by rw [ht]; exact hP, va_K.moved hW.alike X.2.2.2.2.2.1, hD⟩, hS.F ht⟩) hS.2.2 hd hlk
theorem j_reta (X : Cx p s m args c cc nL own D cs A s.heap) {K : (Nat → Nat) → Prop} {rv : (Nat → Nat) → Option Value} {σ0 : HS} {mc ms : Nat} {o : Option Nat} {rt : FieldType} (hr : meth.sig.returnType = some rt) (hrt : rt.isReference = true) (hlk : meth.locks = false) (hc : cells ≤ mc) (hs : slots ≤ ms) (hK : K q) (e0 : σ = σ0) (e1 : rv q = some (va_rf o)) (hd : decode cc pc = .ok (.areturn, 1)) : J p l e R s m args below meth c nL D cs A s.heap cells slots (MQ below (hQ D cs K rv σ0 A) args s mc ms A) q σ lv pc [va_rf o] := fun H locs ls hO hP hD hS hl => by
  subst e0
  have hx := X.1
  refine W.widen hc hs ?_
  refine W.aret hx X.2.1 hr (by cases rt <;> first | exact Or.inl ⟨_, rfl⟩ | exact Or.inr ⟨_, rfl⟩ | cases hrt) (by cases o with | none => exact Or.inl rfl | some a => exact Or.inr ⟨a, rfl⟩) (fun t ht hW => ⟨⟨q, by rw [e1], hK, hO, by rw [ht]; exact hP, va_K.moved hW.alike X.2.2.2.2.2.1, hD⟩, hS.F ht⟩) hS.2.2 hd hlk
theorem MT_of {y : MethodName} {maxL : Nat} {ret : Option FieldType} {rm : Room} {av : List Value} {K : (Nat → Nat) → Prop} {rv : (Nat → Nat) → Option Value} {mc ms : Nat} {σ0 : HS} (hy : plainName y.cls = true) (hlen : (lg_sl av).length ≤ maxL) {lv0 : List (Nat × Value)} (hlv : lv_args 0 av = lv0)
    (body : ∀ (p : Program) (e : Env) (s : State) (m : MethodId) (args : Array Value) (below : List Frame) (meth : Method) (c : Code) (A : Nat → Prop), Cx p s m args c cc maxL y.cls D cs A s.heap → meth.sig.returnType = ret → meth.locks = false → (y.name = "<init>" → meth.name = "<init>") →
      J p l e rm s m args below meth c maxL D cs A s.heap 0 0 (MQ below (hQ D cs K rv σ0 A) args s mc ms A) q σ lv0 0 []) : MT l y (Cond.code y cc maxL ret :: lw_g) rm D cs q σ σ0 av K rv mc ms := by
  intro sz
  refine Met.ofW (cc := cc) (maxL := maxL) (ret := ret) hy rfl ?_
  intro p e s m args below meth c s₁ B hml hv
  obtain ⟨rfl, hsz, hBd, hO, hP, hK, hD0⟩ := hv
  subst hsz
  have hts : ∀ w ∈ lw_g, w.before av.toArray s = true := fun w hw => atoms_spec (ws := Cond.code y cc maxL ret :: lw_g) B.pre w (List.mem_cons_of_mem _ hw)
  have hl := lv_entry av hlen
  rw [hlv] at hl
  rw [lg_entry_eq]
  exact body p e s m av.toArray below meth c (va_A (hWl cs q σ) s.heap.size) ⟨B.exec, B.bytes, hml, findClass_of_methodNamed B.named, hts, hK, fun x h => Or.inr h, hBd⟩ B.returns B.notSynchronized (fun hn => (name_of_methodNamed B.named B.method).1.trans hn) s.heap [] _ hO hP hD0.self va_S.rf hl
end HCC
