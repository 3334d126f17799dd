section HLW
variable {p : Program} {l : Launch} {e : Env} {R : Room} {s : State} {m : MethodId} {args : Array Value} {below : List Frame} {meth : Method} {c : Code} {nL : Nat} {D : va_G} {cs : Nat → ClassId} {A : Nat → Prop} {H0 : Heap} {cells slots : Nat} {Q : State → Prop} {q : Nat → Nat} {σ : HS} {lv : List (Nat × Value)} {pc : Nat} {st : List Value} {cc : ByteArray} {own : String}
theorem j_widen {cells' slots' : Nat} (h1 : cells ≤ cells') (h2 : slots ≤ slots') (k : J p l e R s m args below meth c nL D cs A H0 cells' slots' Q q σ lv pc st) : J p l e R s m args below meth c nL D cs A H0 cells slots Q q σ lv pc st := fun H locs ls hO hP hD hS hl => W.widen h1 h2 (k H locs ls hO hP hD hS hl)
theorem j_sld (X : Cx p s m args c cc nL own D cs A H0) {b L : Nat} {xs : Nat → Int32} (hX : va_X b L xs s H0) (hbl : b < H0.size) (hbA : ¬ A b) {i : Int32} (h : inb i L) (hd : decode cc pc = .ok (.iaload, 1)) (kk : ∀ v : Int32, v = xs i.toNatClampNeg → J p l e R s m args below meth c nL D cs A H0 cells slots Q q σ lv (pc + 1) (.int v :: st)) : J p l e R s m args below meth c nL D cs A H0 cells slots Q q σ lv pc (.int i :: .ref b :: st) := fun H locs ls hO hP hD hS hl => va_sld X.1 X.2.1 hX hbl hbA hS h hd (kk _ rfl H locs ls hO hP hD hS hl)
theorem j_slen (X : Cx p s m args c cc nL own D cs A H0) {b L : Nat} {xs : Nat → Int32} (hX : va_X b L xs s H0) (hbl : b < H0.size) (hbA : ¬ A b) (hd : decode cc pc = .ok (.arraylength, 1)) (kk : ∀ v : Int32, v = Int32.ofNat L → J p l e R s m args below meth c nL D cs A H0 cells slots Q q σ lv (pc + 1) (.int v :: st)) : J p l e R s m args below meth c nL D cs A H0 cells slots Q q σ lv pc (.ref b :: st) := fun H locs ls hO hP hD hS hl => va_slen X.1 X.2.1 hX hbl hbA hS hd (kk _ rfl H locs ls hO hP hD hS hl)
end HLW
/-! THE CLAIM OUT OF ONE WALK OF THE LAW'S BODY. Your part is whole_start (and what it stands on); all else here is the same for every law, but numbers. -/
def R_law : String := "SpanKeeperLaw"
def lw_P (b : Addr) (xs : List Int32) (args : Array Value) (s : State) : Prop := args = #[.ref b] ∧ s.IntsAt b xs ∧ xs.length ≤ 4608 ∧ (Jvm.Cond.and given_1 narrow_1).before args s = true
def lw_Q (_ : Array Value) (s : State) (o : Outcome) (t : State) : Prop := o = .returned (some (.int 1)) ∧ Framed s o t [] 808171 6677735
def lw_Z (below : List Frame) (a : Array Value) (s : State) : State → Prop := fun t => ∃ o, t.status = .running ∧ Ended t below o ∧ lw_Q a s o t
/-- the law's own end, with 1 on the stack, nothing written that was there before, its room as the claim has it -/
theorem lw_ret {p : Program} {l : Launch} {e : Env} {s : State} {m : MethodId} {below : List Frame} {meth : Method} {c : Code} {b : Nat} (hx : p.tables.exec = Jvm.exec) (hb : c.code = code) (hr : meth.sig.returnType = ret) (hlocks : meth.locks = false) {pc : Nat} {H : Heap} {ls : Array Slot} (hdg : decode code pc = .ok (.ireturn, 1)) : W p l e room_1 s m #[Value.ref b] below meth c H [] 808171 6677735 (lw_Z below #[Value.ref b] s) (F0 m pc ls [.int 1]) := by
  intro T hT X
  obtain ⟨fs, hret, hrun, hended, hW, hframe⟩ := X.leave (v := some (.int 1)) (hlocks := hlocks) (fun h => by rw [hr] at h; cases h)
  have hmeth' : T.vm.method? m = some meth := X.method'
  refine ⟨T.setFrames fs, ?_, .returned (some (.int 1)), hrun, hended, rfl, ⟨_, rfl⟩, hW, hframe⟩
  jvm_step X.here [X.here.top, hx, hb, hdg, hmeth', hr, ret, narrow_b1]
  (try refine ⟨rfl, ?_⟩); (try refine ⟨rfl, ?_⟩)
  first | (intro acts; rw [hret _ acts rfl rfl rfl]) | rw [hret _ _ rfl rfl rfl]
  exact Steps.refl _
/-- what holds at the law's entry: the machine, the code, the tables' words (any of lw_tbl by 'hts w (by decide +kernel)'), the script of L ints xs at the cell b, what the Statement gives of the start (any of its parts by flat_of_before) -/
def lw_At (p : Program) (s : State) (m : MethodId) (meth : Method) (c : Code) (b L : Nat) (xs : Nat → Int32) : Prop :=
  p.tables.exec = Jvm.exec ∧ c.code = code ∧ meth.sig.returnType = ret ∧ c.maxLocals = 4 ∧ s.vm.findClass R_law = some m.cls ∧ (∀ w ∈ lw_tbl, w.before #[Value.ref b] s = true) ∧ va_X b L xs s s.heap ∧ b < s.heap.size ∧ meth.locks = false ∧ (Jvm.Cond.and given_1 narrow_1).before #[Value.ref b] s = true
theorem lw_fin {p : Program} {l : Launch} {e : Env} {s : State} {m : MethodId} {below : List Frame} {meth : Method} {c : Code} {D : va_G} {cs : Nat → ClassId} {b pc cells slots : Nat} {q : Nat → Nat} {σ : HS} {lv : List (Nat × Value)} (X : Cx p s m #[Value.ref b] c code 4 RL D cs (fun z => s.heap.size ≤ z) s.heap) (hr : meth.sig.returnType = ret) (hlk : meth.locks = false) (hc : cells ≤ 808171) (hs : slots ≤ 6677735) (hd : decode code pc = .ok (.ireturn, 1)) :
    J p l e room_1 s m #[Value.ref b] below meth c 4 D cs (fun z => s.heap.size ≤ z) s.heap cells slots (lw_Z below #[Value.ref b] s) q σ lv pc [.int 1] := fun H locs ls hO hP hD hS hl => by
  refine va_forget (fun z hz => hS.2.2 z hz) ?_
  refine W.widen hc hs ?_
  exact lw_ret X.1 X.2.1 hr hlk hd
