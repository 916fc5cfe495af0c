/-! contracts and the walk's judgement -/
def gPre (D : va_G) (dA : Nat → ClassId) (base z : Nat) (M : Hp) (U : State) : Prop := GT D dA U ∧ GS base U U.heap ∧ base ≤ U.heap.size ∧ GRep D dA base z M U.heap
def gQ (Φ : GR → Hp → Nat → Prop) (D : va_G) (dA : Nat → ClassId) (base : Nat) : Array Value → State → Outcome → State → Prop := fun _ st o t => (∃ (r : Option Value) (M : Hp) (z : Nat), o = .returned r ∧ Φ (.inl r) M z ∧ GRep D dA base z M t.heap) ∧ va_F (gA base) st t
def gX (Φ : GR → Hp → Nat → Prop) (D : va_G) (dA : Nat → ClassId) (base : Nat) : String → State → State → Prop := fun E st t => (∃ (M : Hp) (z : Nat), Φ (.inr E) M z ∧ GRep D dA base z M t.heap) ∧ va_F (gA base) st t
/-- the method m, called with these arguments where the heap is M of z cells, ends with Φ -/
def Runs (m : GM) (as : List Value) (M : Hp) (z : Nat) (Φ : GR → Hp → Nat → Prop) : Prop :=
  ∀ (l : Launch), l.stackTraces = false → ∀ (D : va_G) (dA : Nat → ClassId) (base : Nat), vx_Met l (gy m) (gws m) (grm m) (va_Pc as (gPre D dA base z M)) (gQ Φ D dA base) (gX Φ D dA base) (gce m) (gsl m) (gA base)
def gtab (h : List (Nat × Nat × Nat × Nat)) (c : Code) : Prop := match h with
  | [] => ∀ x ∈ c.exceptionTable.toList, False
  | h => c.exceptionTable.toList = tableOf h
def GC (m : GM) (D : va_G) (dA : Nat → ClassId) (base : Nat) (p : Program) (l : Launch) (s : State) (mid : MethodId) (args : Array Value) (meth : Method) (c : Code) : Prop :=
  p.tables.exec = Jvm.exec ∧ c.code = gc m ∧ c.maxLocals = gl m ∧ s.vm.findClass (gy m).cls = some mid.cls ∧ (∀ w ∈ gW, w.before args s = true) ∧ meth.locks = false ∧ l.stackTraces = false ∧ meth.name = (gy m).name ∧ meth.sig.returnType = gr m ∧
  GT D dA s ∧ GS base s s.heap ∧ base ≤ s.heap.size ∧ gtab (ghh m) c
def WP (m : GM) (pc : Nat) (L : List (Option Value)) (st : List Value) (M : Hp) (z k n : Nat) (Φ : GR → Hp → Nat → Prop) : Prop :=
  ∀ (D : va_G) (dA : Nat → ClassId) (base : Nat) (p : Program) (l : Launch) (e : Env) (s : State) (mid : MethodId) (args : Array Value) (below : List Frame) (meth : Method) (c : Code), GC m D dA base p l s mid args meth c →
    ∀ (H : Heap) (locs : List Loc) (ls : Array Slot), GRep D dA base z M H → va_S (gA base) s.heap H locs → LRep ls (gl m) L →
      W p l e (grm m) s mid args below meth c H locs k n (vx_MQ below (gQ Φ D dA base) (gX Φ D dA base) args s (gce m) (gsl m) (gA base)) (F0 mid pc ls st)
/-- E has been thrown at pc -/
def WX (m : GM) (pc : Nat) (L : List (Option Value)) (rest : List Value) (M : Hp) (z k n : Nat) (E : String) (Φ : GR → Hp → Nat → Prop) : Prop :=
  ∀ (D : va_G) (dA : Nat → ClassId) (base : Nat) (p : Program) (l : Launch) (e : Env) (s : State) (mid : MethodId) (args : Array Value) (below : List Frame) (meth : Method) (c : Code), GC m D dA base p l s mid args meth c →
    ∀ (H : Heap) (locs : List Loc) (ls : Array Slot) (q : Addr) (ce : Cell), GRep D dA base z M H → va_S (gA base) s.heap H locs → LRep ls (gl m) L → H[q]? = some ce → ce.vm = .none → s.vm.findClass E = some ce.cls →
      vx_W p l e (grm m) s mid args below meth c H locs k n (vx_MQ below (gQ Φ D dA base) (gX Φ D dA base) args s (gce m) (gsl m) (gA base)) (F0 mid pc ls rest) q
theorem gPre_blind (D : va_G) (dA : Nat → ClassId) (base z : Nat) (M : Hp) (as : List Value) : FrameBlind (va_Pc as (gPre D dA base z M)) := by
  intro a U g mk h
  obtain ⟨h0, h1, h2, h3, h4⟩ := h
  refine ⟨h0, GT.warm (s := U) (U := U.calling g mk a) ?_ h1, GS.moved (u := U) (U := U.calling g mk a) (Vm.Alike.refl U.vm) h2, h3, h4⟩
  exact State.WarmedH.refl U
theorem runs_of {m : GM} {as : List Value} {M : Hp} {z : Nat} {Φ : GR → Hp → Nat → Prop} (hpl : plainName (gy m).cls = true) (hh : ghh m = []) (hlen : (gLs as).length ≤ gl m)
    (h : WP m 0 (gL0 as (gl m)) [] M z 0 0 Φ) : Runs m as M z Φ := by
  intro l hl D dA base
  have hcw : gcw m = Cond.code (gy m) (gc m) (gl m) (gr m) := by simp only [gcw, hh]
  refine vx_ofW (ws' := gW) (cc := gc m) (maxL := gl m) (ret := gr m) hpl (by rw [gws, hcw]) ?_
  intro p e s mid args below meth c s₁ B hml ht hv
  obtain ⟨rfl, h1, h2, h3, h4⟩ := hv
  have hts := atoms_spec (ws := gws m) B.pre
  have C : GC m D dA base p l s mid as.toArray meth c := ⟨B.exec, B.bytes, hml, findClass_of_methodNamed B.named, fun w hw => hts w (List.mem_cons_of_mem _ hw), B.notSynchronized, hl, (name_of_methodNamed B.named B.method).1, B.returns, h1, h2, h3, by rw [hh]; exact ht⟩
  have h5 := h D dA base p l e s mid as.toArray below meth c C s.heap [] _ h4 va_S.rf (LRep.entry as hlen)
  rw [lg_entry_eq]
  exact h5
theorem runs_ofH {m : GM} {as : List Value} {M : Hp} {z : Nat} {Φ : GR → Hp → Nat → Prop} (hpl : plainName (gy m).cls = true) (hh : ghh m ≠ []) (hlen : (gLs as).length ≤ gl m)
    (h : WP m 0 (gL0 as (gl m)) [] M z 0 0 Φ) : Runs m as M z Φ := by
  intro l hl D dA base
  obtain ⟨x, t, hxt⟩ := List.exists_cons_of_ne_nil hh
  have hcw : gcw m = Cond.codeWith (gy m) (gc m) (gl m) (gr m) (ghh m) := by simp only [gcw, hxt]
  refine vx_ofWH (ws' := gW) (cc := gc m) (maxL := gl m) (ret := gr m) (hh := ghh m) hpl (by rw [gws, hcw]) ?_
  intro p e s mid args below meth c s₁ B hml hv
  obtain ⟨rfl, h1, h2, h3, h4⟩ := hv
  have hts := atoms_spec (ws := gws m) B.pre
  have ht := vx_table (x := gy m) B (by rw [← hcw]; exact hts (gcw m) List.mem_cons_self)
  have C : GC m D dA base p l s mid as.toArray meth c := ⟨B.exec, B.bytes, hml, findClass_of_methodNamed B.named, fun w hw => hts w (List.mem_cons_of_mem _ hw), B.notSynchronized, hl, (name_of_methodNamed B.named B.method).1, B.returns, h1, h2, h3, by rw [hxt] at ht ⊢; exact ht⟩
  have h5 := h D dA base p l e s mid as.toArray below meth c C s.heap [] _ h4 va_S.rf (LRep.entry as hlen)
  rw [lg_entry_eq]
  exact h5
/-! calls -/
def gML (m : GM) (idx : Nat) (y : MethodName) : Prop := Cond.methodLink (gy m).cls idx y ∈ gW ∨ ∃ host, Cond.methodLinkNest (gy m).cls idx y host ∈ gN
def gCal (m : GM) (n : Nat) : Prop := gcw m ∈ gW ∧ Cond.initialized (gy m).cls ∈ gW ∧ ((gy m).cls ≠ "java/lang/invoke/MethodHandle" ∧ (gy m).cls ≠ "java/lang/invoke/VarHandle") ∧ (parseMethodDescriptor (gy m).desc).map (fun d => d.parameters.length) = some n
def gIn (m : GM) : Prop := Cond.instanceMethod (gy m) ∈ gW ∧ Cond.selects (gy m).cls (gy m) (gy m) ∈ gW
def gBud (m m' : GM) : Bool := decide (gfr m' + 1 ≤ gfr m) && decide (8 + (gl m' + 11) + glo m' ≤ glo m)
theorem gBud_ok {m m' : GM} (h : gBud m m' = true) : gfr m' + 1 ≤ gfr m ∧ 8 + (gl m' + 11) + glo m' ≤ glo m := by
  simp only [gBud, Bool.and_eq_true, decide_eq_true_eq] at h; exact h
theorem gws_in {m : GM} (h : gcw m ∈ gW) : GoodIn gW (gws m) := fun w hw => gW_good w ((List.mem_cons.mp hw).elim (fun e => e ▸ h) id)
theorem gparse {y : MethodName} {n : Nat} (h : (parseMethodDescriptor y.desc).map (fun d => d.parameters.length) = some n) : ∀ sig, parseMethodDescriptor y.desc = some sig → n = sig.parameters.length := fun sig hs => by
  rw [hs] at h; exact (Option.some.inj h).symm
section GRUN
variable {m m' : GM} {D : va_G} {dA : Nat → ClassId} {base z : Nat} {M : Hp} {p : Program} {l : Launch} {e : Env} {s : State} {mid : MethodId} {args : Array Value} {below : List Frame} {meth : Method} {c : Code} {H : Heap} {locs : List Loc} {k n : Nat} {Ψ : GR → Hp → Nat → Prop} {as rest st : List Value} {pc idx : Nat} {ls : Array Slot}
/-- what a caller gives -/
theorem gPre_at (C : GC m D dA base p l s mid args meth c) (hR : GRep D dA base z M H) (hS : va_S (gA base) s.heap H locs) : ∀ U : State, U.heap = H → s.WarmedH U.vm → (va_Pc as (gPre D dA base z M)) as.toArray U := by
  intro U hU hW
  obtain ⟨-, -, -, -, -, -, -, -, -, hT, hG, hb, -⟩ := C
  refine ⟨rfl, hT.warm hW, ?_, ?_, by rw [hU]; exact hR⟩
  · rw [hU]
    exact (hG.kept hS.2.1).moved hW.alike
  · rw [hU]
    exact Nat.le_trans hb hS.1
theorem g_runS (C : GC m D dA base p l s mid args meth c) (hR : GRep D dA base z M H) (hS : va_S (gA base) s.heap H locs) (hsz : ls.size = gl m) (hM : Runs m' as M z Ψ) (cal : gCal m' as.length) (hh : ghh m' = []) (stc : Cond.static (gy m') ∈ gW) (lk : gML m idx (gy m')) (bud : gBud m m' = true)
    (hst : st = as.reverse ++ rest) (hcat : (rest.map fun v => v.category).sum ≤ 8) (hk : k + gce m' ≤ gce m) (hn : n + gsl m' ≤ gsl m) (d : dc m pc (.invokestatic idx) 3) :
    vx_Run p l e (grm m) s mid args below meth c H locs k n (gce m') (gsl m') (F0 mid pc ls st) rest (gQ Ψ D dA base as.toArray) (gX Ψ D dA base) (gA base) := by
  have C' := C
  obtain ⟨hx, hb, hml, hown, hts, hlocks, hl, hname, hr, hT, hG, hbase, htab⟩ := C'
  obtain ⟨c1, c2, c3, c4⟩ := cal
  have hcw : gcw m' = Cond.code (gy m') (gc m') (gl m') (gr m') := by simp only [gcw, hh]
  have hB := gBud_ok bud
  have hM' : vx_Met l (gy m') (gws m') (grm m') (va_Pc as (gPre D dA base z M)) (gQ Ψ D dA base) (gX Ψ D dA base) (gce m') (gsl m') (gA base) := hM l hl D dA base
  have hp : PreS s H (va_Pc as (gPre D dA base z M)) as := ⟨gPre_blind D dA base z M as, gPre_at C hR hS⟩
  have ecode : Cond.code (gy m') (gc m') (gl m') (gr m') ∈ gws m' := by rw [gws, hcw]; exact List.mem_cons_self
  rcases lk with lk | ⟨host, lk⟩
  · exact vx_runS (ws := gws m') (rm := grm m') (bytes := gc m') (maxL := gl m') (ret := gr m') (Ts := gW) (own := (gy m).cls) ⟨hx, hb, hml, hown, hts⟩ hM' ⟨callB_of (ws' := gW) as.length hts (gws_in c1) (by rw [gws, hcw]) rfl rfl (hts _ c2) (hts _ lk) ⟨c3.1, c3.2, c4⟩ hB, hts _ stc⟩ hp rfl rfl hsz hst (lv_room hcat) d ⟨hk, hn⟩
  · have hnw : va_Nw (.methodLinkNest (gy m).cls idx (gy m') host) s := hT.2.2.1 _ lk
    exact vx_runSN (ws := gws m') (rm := grm m') (bytes := gc m') (maxL := gl m') (ret := gr m') (Ts := gW) (own := (gy m).cls) (host := host) ⟨hx, hb, hml, hown, hts⟩ hM' ⟨va_cnB (ws' := gW) as.length hts (gws_in c1) (by rw [gws, hcw]) rfl rfl hnw (hts _ c2) ⟨c3.1, c3.2, c4⟩ hB, hts _ stc, trivial⟩ hp rfl rfl hsz hst (lv_room hcat) d ⟨hk, hn⟩
theorem g_runI {a : Nat} (C : GC m D dA base p l s mid args meth c) (hR : GRep D dA base z M H) (hS : va_S (gA base) s.heap H locs) (hsz : ls.size = gl m) (hM : Runs m' (.ref a :: as) M z Ψ) (cal : gCal m' as.length) (hh : ghh m' = []) (hret : gr m' = none) (hnm : (gy m').name = "<init>") (ins : Cond.instanceMethod (gy m') ∈ gW) (lk : gML m idx (gy m')) (bud : gBud m m' = true)
    (hst : st = as.reverse ++ .ref a :: rest) (hcat : (rest.map fun v => v.category).sum ≤ 8) (hk : k + gce m' ≤ gce m) (hn : n + gsl m' ≤ gsl m) (d : dc m pc (.invokespecial idx) 3) :
    vx_Run p l e (grm m) s mid args below meth c H locs k n (gce m') (gsl m') (F0 mid pc ls st) rest (gQ Ψ D dA base (Value.ref a :: as).toArray) (gX Ψ D dA base) (gA base) := by
  have C' := C
  obtain ⟨hx, hb, hml, hown, hts, hlocks, hl, hname, hr, hT, hG, hbase, htab⟩ := C'
  obtain ⟨c1, c2, c3, c4⟩ := cal
  have hcw : gcw m' = Cond.code (gy m') (gc m') (gl m') none := by simp only [gcw, hh, hret]
  have hB := gBud_ok bud
  have hM' : vx_Met l (gy m') (gws m') (grm m') (va_Pc (.ref a :: as) (gPre D dA base z M)) (gQ Ψ D dA base) (gX Ψ D dA base) (gce m') (gsl m') (gA base) := hM l hl D dA base
  have hp : PreS s H (va_Pc (.ref a :: as) (gPre D dA base z M)) (.ref a :: as) := ⟨gPre_blind D dA base z M _, gPre_at C hR hS⟩
  rcases lk with lk | ⟨host, lk⟩
  · exact vx_runI (ws := gws m') (rm := grm m') (bytes := gc m') (maxL := gl m') (Ts := gW) (own := (gy m).cls) ⟨hx, hb, hml, hown, hts⟩ hM' ⟨callB_of (ws' := gW) as.length hts (gws_in c1) (by rw [gws, hcw]) rfl rfl (hts _ c2) (hts _ lk) ⟨c3.1, c3.2, c4⟩ hB, hnm, hts _ ins⟩ hp rfl rfl hsz hst (lv_room hcat) d ⟨hk, hn⟩
  · have hnw : va_Nw (.methodLinkNest (gy m).cls idx (gy m') host) s := hT.2.2.1 _ lk
    exact vx_runIN (ws := gws m') (rm := grm m') (bytes := gc m') (maxL := gl m') (Ts := gW) (own := (gy m).cls) (host := host) ⟨hx, hb, hml, hown, hts⟩ hM' ⟨va_cnB (ws' := gW) as.length hts (gws_in c1) (by rw [gws, hcw]) rfl rfl hnw (hts _ c2) ⟨c3.1, c3.2, c4⟩ hB, hnm, hts _ ins⟩ hp rfl rfl hsz hst (lv_room hcat) d ⟨hk, hn⟩
theorem g_runV {a ci : Nat} {fs : List Value} {r : vw_C} (C : GC m D dA base p l s mid args meth c) (hR : GRep D dA base z M H) (hS : va_S (gA base) s.heap H locs) (hsz : ls.size = gl m) (hM : Runs m' (.ref a :: as) M z Ψ) (cal : gCal m' as.length) (hh : ghh m' = []) (ins : gIn m') (lk : Cond.methodLink (gy m).cls idx (gy m') ∈ gW) (bud : gBud m m' = true)
    (ho : M a = some (.inr (ci, fs))) (hc : vwCl[ci]? = some r) (hrc : r.1 = (gy m').cls)
    (hst : st = as.reverse ++ .ref a :: rest) (hcat : (rest.map fun v => v.category).sum ≤ 8) (hk : k + gce m' ≤ gce m) (hn : n + gsl m' ≤ gsl m) (d : dc m pc (.invokevirtual idx) 3) :
    vx_Run p l e (grm m) s mid args below meth c H locs k n (gce m') (gsl m') (F0 mid pc ls st) rest (gQ Ψ D dA base (Value.ref a :: as).toArray) (gX Ψ D dA base) (gA base) := by
  have C' := C
  obtain ⟨hx, hb, hml, hown, hts, hlocks, hl, hname, hr, hT, hG, hbase, htab⟩ := C'
  obtain ⟨c1, c2, c3, c4⟩ := cal
  have hcw : gcw m' = Cond.code (gy m') (gc m') (gl m') (gr m') := by simp only [gcw, hh]
  have hB := gBud_ok bud
  have hM' : vx_Met l (gy m') (gws m') (grm m') (va_Pc (.ref a :: as) (gPre D dA base z M)) (gQ Ψ D dA base) (gX Ψ D dA base) (gce m') (gsl m') (gA base) := hM l hl D dA base
  have hrecv : ∃ cellB : Cell, H[a]? = some cellB ∧ cellB.vm.isStatics = false ∧ s.vm.findClass (gy m').cls = some cellB.cls := by
    obtain ⟨r', h1, cell, g1, g2, g3, -⟩ := (hR.2 a _ ho).1
    have hr' : r' = r := Option.some.inj (h1.symm.trans hc)
    subst hr'
    refine ⟨cell, g1, by rw [g3]; rfl, ?_⟩
    rw [← hrc, g2]
    exact (hT.1.1 ci r' hc).2.1
  have hp : PreV s H (gy m').cls a (va_Pc (.ref a :: as) (gPre D dA base z M)) as := ⟨gPre_blind D dA base z M _, hrecv, gPre_at C hR hS⟩
  exact vx_runV (ws := gws m') (rm := grm m') (bytes := gc m') (maxL := gl m') (ret := gr m') (Ts := gW) (own := (gy m).cls) (C := (gy m').cls) ⟨hx, hb, hml, hown, hts⟩ hM' ⟨callB_of (ws' := gW) as.length hts (gws_in c1) (by rw [gws, hcw]) rfl rfl (hts _ c2) (hts _ lk) ⟨c3.1, c3.2, c4⟩ hB, hts _ ins.1, hts _ ins.2⟩ hp rfl rfl hsz hst (lv_room hcat) d ⟨hk, hn⟩
/-- the walk goes on behind a call -/
theorem g_call {Φ : GR → Hp → Nat → Prop} {L : List (Option Value)} (C : GC m D dA base p l s mid args meth c) (hS : va_S (gA base) s.heap H locs) (hL : LRep ls (gl m) L) {a : Array Value}
    (hr : vx_Run p l e (grm m) s mid args below meth c H locs k n (gce m') (gsl m') (F0 mid pc ls st) rest (gQ Ψ D dA base a) (gX Ψ D dA base) (gA base))
    (kk : ∀ r M' z', Ψ (.inl r) M' z' → WP m (pc + 3) L (r.toList ++ rest) M' z' (k + gce m') (n + gsl m') Φ)
    (kx : ∀ E M' z', Ψ (.inr E) M' z' → WX m pc L rest M' z' (k + gce m') (n + gsl m') E Φ) :
    W p l e (grm m) s mid args below meth c H locs k n (vx_MQ below (gQ Φ D dA base) (gX Φ D dA base) args s (gce m) (gsl m) (gA base)) (F0 mid pc ls st) := by
  intro T hT X
  rcases hr T hT X with ⟨v, st₀, t, T', Ls, h0, X', hLs, e1, e2, ⟨⟨r, M', z', hv, hp, hb⟩, hF⟩, hst⟩ | ⟨q, st₀, t, T', Ls, E, ce, h0, X', hLs, e1, e2, ⟨⟨M', z', hp, hb⟩, hF⟩, hce, hcv, hcl, hst⟩
  · cases hv
    obtain ⟨k1, k2, k3⟩ := vx_keep h0 e1 hS (fun _ _ h => h) (fun _ h => h) hLs hF
    obtain ⟨t2, a1, b1⟩ := kk v M' z' hp D dA base p l e s mid args below meth c C T'.heap (locs ++ Ls) ls (by rw [e1]; exact hb) k3 hL T' rfl X'
    exact ⟨t2, hst t2 a1, b1⟩
  · obtain ⟨k1, k2, k3⟩ := vx_keep h0 e1 hS (fun _ _ h => h) (fun _ h => h) hLs hF
    obtain ⟨t2, a1, b1⟩ := kx E M' z' hp D dA base p l e s mid args below meth c C T'.heap (locs ++ Ls) ls q ce (by rw [e1]; exact hb) k3 hL (by rw [e1]; exact hce) hcv hcl T' rfl X'
    exact ⟨t2, hst.trans a1, b1⟩
end GRUN
