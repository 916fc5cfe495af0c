section
/-! ===== BEGIN words of one list among another's, by their places ===== -/
theorem goodIn_r {big : List Cond} (ws : List Cond) (ps : List Nat) (hp : ws = ps.filterMap (fun i => big[i]?)) (h : ws.all goodWord = true) : GoodIn big ws := by
  intro w hw
  have h1 := List.all_eq_true.mp h w hw
  rw [hp] at hw
  obtain ⟨i, -, hi⟩ := List.mem_filterMap.mp hw
  have hm : w ∈ big := by first | exact List.mem_of_getElem? hi | exact List.getElem?_mem hi
  exact ⟨hm, good_of_word h1⟩
theorem goodIn_app {big a b : List Cond} (ha : GoodIn big a) (hb : GoodIn big b) : GoodIn big (a ++ b) := fun w h => (List.mem_append.mp h).elim (ha w) (hb w)
theorem goodIn_ca {big a b : List Cond} {c : Cond} (ha : GoodIn big (c :: a)) (hb : GoodIn big b) : GoodIn big (c :: (a ++ b)) := fun w h => (List.mem_cons.mp h).elim (fun e => ha w (List.mem_cons.mpr (Or.inl e))) (fun h => (List.mem_append.mp h).elim (fun h => ha w (List.mem_cons.mpr (Or.inr h))) (hb w))
theorem goodIn_sub {big ws : List Cond} (hm : ∀ w ∈ ws, w ∈ big) (h : ws.all goodWord = true) : GoodIn big ws := fun w hw => ⟨hm w hw, good_of_word (List.all_eq_true.mp h w hw)⟩
/-! ===== END ===== -/
/-! ===== BEGIN exceptions that leave a method, and their catching by the caller (launches without stack traces) ===== -/
section VXA
/-! The laws vx_back, vx_callV, vx_callS, vx_callSW, vx_throw0, vx_throwS follow proofs of the library, with one case more: JvmDerived/Free/Laws.lean (Back.of_free), Shelf42/LK1.lean (callV, callS), Shelf/KitTraced.lean (throwNew0V, throwNewS). -/
/-- where a method has thrown q: the class by its name, the cell, what was written, the world -/
def vx_T (XC : String → State → State → Prop) (st : State) (q : Addr) (t : State) (mc ms : Nat) (free : Addr → Prop) : Prop :=
  ∃ (E : String) (ce : Cell) (L : List Loc), XC E st t ∧ t.heap[q]? = some ce ∧ ce.vm = .none ∧ st.vm.findClass E = some ce.cls ∧ st.WarmedH t.vm ∧ st.sameButNew ({ t with vm := st.vm } : State) L mc ms ∧ ∀ z ∈ L, free z.base
def vx_Q (Qc : Array Value → State → Outcome → State → Prop) (XC : String → State → State → Prop) (mc ms : Nat) (free : Addr → Prop) : Array Value → State → Outcome → State → Prop := fun a st o t =>
  (Qc a st o t ∧ ∃ L, FrameEnd st o t L mc ms ∧ ∀ q ∈ L, free q.base) ∨ ∃ q, o = .threw q ∧ vx_T XC st q t mc ms free
/-- a callee that returns or throws -/
def vx_Met (l : Launch) (y : MethodName) (ws : List Cond) (rm : Room) (Pc : Array Value → State → Prop) (Qc : Array Value → State → Outcome → State → Prop) (XC : String → State → State → Prop) (mc ms : Nat) (free : Addr → Prop) : Prop :=
  MetFree l y (headSpec ws rm) Pc (fun _ _ _ _ _ => True) (vx_Q Qc XC mc ms free)
def vx_Post (XC : String → State → State → Prop) (mc ms : Nat) (free : Addr → Prop) : Pt → Array Value → Addr → Pt → Prop := fun A a q B =>
  ∃ (g : JFrame) (mk : MethodId) (t : State) (L : List Loc) (E : String) (ce : Cell), B.U.heap = t.heap ∧ B.U.vm = t.vm ∧ XC E (A.U.calling g mk a) t ∧ t.heap[q]? = some ce ∧ ce.vm = .none ∧ A.U.vm.findClass E = some ce.cls ∧ B.locs = A.locs ++ L ∧ (∀ z ∈ L, free z.base) ∧ B.cells = A.cells + mc ∧ B.slots = A.slots + ms
def vx_Back (l : Launch) (R : Room) (p : Program) (e : Env) (below : List Frame) (s : State) (sargs : Array Value) (y : MethodName) (len W9 : Nat)
    (Pre : Pt → Array Value → Prop) (Post : Pt → Array Value → Option Value → Pt → Prop) (PostX : Pt → Array Value → Addr → Pt → Prop) : Prop :=
  ∀ (m : MethodId) (meth : Method) (c : Code) (A : Pt) (g : JFrame) (ig : Instr) (mk : MethodId) (a : Array Value),
    Stand p l e R s m sargs below meth c A.U A.locs A.cells A.slots → g.method = m → g.locals.size = c.maxLocals → decode c.code g.pc = .ok (ig, len) →
    2 * g.monitorRoom + (g.stack.map fun v => v.category).sum ≤ W9 → A.U.methodNamed? y = some mk → Pre A a →
    (∃ (v : Option Value) (B : Pt), Stand p l e R s m sargs below meth c B.U B.locs B.cells B.slots ∧ Post A a v B ∧
      Steps p.tables e below (doInvoke e (A.U.setTop g) [] mk a).1 (B.U.setTop { g with pc := g.pc + len, stack := v.toList ++ g.stack })) ∨
    (∃ (q : Addr) (B : Pt), Stand p l e R s m sargs below meth c B.U B.locs B.cells B.slots ∧ PostX A a q B ∧
      Steps p.tables e below (doInvoke e (A.U.setTop g) [] mk a).1 ((B.U.setTop g).pushFrame (.throwing q)))
section Payer
variable {l : Launch} {R : Room} {p : Program} {e : Env} {below : List Frame} {s : State} {sargs : Array Value} {y : MethodName} {len W9 : Nat}
theorem vx_back {ws : List Cond} {rm : Room} {Pc : Array Value → State → Prop} {Qc : Array Value → State → Outcome → State → Prop} {XC : String → State → State → Prop} {mc ms : Nat} {free : Addr → Prop} {bytes : ByteArray} {maxL : Nat} {ret : Option FieldType}
    (hM : vx_Met l y ws rm Pc Qc XC mc ms free) (hblind : FrameBlind Pc) (hrc : rm.cells = mc) (hrs : rm.slots = ms)
    (hframes : rm.frames + 1 ≤ R.frames) (hlocals : W9 + (maxL + 11) + rm.locals ≤ R.locals)
    (hws : ∀ w ∈ ws, ∀ a' U, s.WarmedH U.vm → w.before a' U = true) (hcode : Cond.code y bytes maxL ret ∈ ws) (hinit : ∀ a' U, s.WarmedH U.vm → (Cond.initialized y.cls).before a' U = true) :
    vx_Back l R p e below s sargs y len W9 (PreOf R mc ms Pc) (PostOf Qc mc ms free) (vx_Post XC mc ms free) := by
  intro m meth c A g ig mk a X hg hsize hdg hW hn hp
  have h1 : (headSpec ws rm).pre.before a A.U = true := atoms_intro fun w hw => hws w hw _ _ X.warmed
  have h2 : (Cond.code y bytes maxL ret).before a A.U = true := hws _ hcode _ _ X.warmed
  have h3 : (Cond.initialized y.cls).before a A.U = true := hinit _ _ X.warmed
  have h4 : A.cells + (headSpec ws rm).room.cells ≤ R.cells := by rw [show (headSpec ws rm).room.cells = mc from hrc]; exact hp.1
  have h5 : A.slots + (headSpec ws rm).room.slots ≤ R.slots := by rw [show (headSpec ws rm).room.slots = ms from hrs]; exact hp.2.1
  have hPc : Pc a (A.U.calling g mk a) := hblind _ _ _ _ hp.2.2
  obtain ⟨U, Ls, c0, s0⟩ := A
  dsimp only [Pt.U, Pt.locs, Pt.cells, Pt.slots] at h1 h2 h3 h4 h5 X hn hPc ⊢
  obtain ⟨methY, cY, hmY, hcY, -, hlY, -, -, -, -⟩ := Cond.code_spec hn h2
  obtain ⟨kY, hkY, -⟩ := className_of_methodNamed hn
  have hinitY : kY.init = .initialized := Cond.initialized_spec (findClass_of_methodNamed hn) hkY h3
  have h : At U g.method c below := by rw [hg]; exact X.here
  have hlocals9 : W9 + (maxL + 11) + (headSpec ws rm).room.locals ≤ R.locals := hlocals
  have happ : (headSpec ws rm).appliesLoose y e.platform (U.calling g mk a) = true :=
    Spec.appliesLoose_calling (g := g) h hdg hn hkY hinitY
      (X.room_calling (g := g) (R' := (headSpec ws rm).room) hsize hmY hcY hframes (by rw [hlY]; omega) h4 h5) h1
  obtain ⟨mid, hmid⟩ := h.above
  have hfr : (U.setTop g).frames = (.java g :: mid) ++ below := by rw [State.frames_setTop' g h.top, hmid]; rfl
  obtain ⟨o, s₂, hsteps, -, hend, hq⟩ := Steps.callFree hM p X.admits X.cas X.clock (acts := []) hfr happ hPc trivial
  have hq' : vx_Q Qc XC mc ms free a (U.calling g mk a) o s₂ := hq
  rw [State.frames_setTop' g h.top] at hend
  obtain ⟨g₀, hg0⟩ := Option.isSome_iff_exists.mp h.top
  obtain ⟨r, hr⟩ := State.topJava?_eq_some.mp hg0
  have hr' : (({ U with heap := s₂.heap, slotsUsed := s₂.slotsUsed } : State).setVm s₂.vm).frames = .java g₀ :: r := hr
  rcases hq' with ⟨hqc, L, hfe, hL⟩ | ⟨q, rfl, E, ce, L, hx, hce, hcv, hcl, hW₂, hsm, hL⟩
  · obtain ⟨⟨v, rfl⟩, hW₂, e2, q2, q3, q4, q5, q6⟩ := id hfe
    have e3 : s₂ = ({ (U.calling g mk a).setFrames s₂.frames with heap := s₂.heap, slotsUsed := s₂.slotsUsed } : State).setVm s₂.vm := by
      have : s₂ = ({ s₂ with vm := (U.calling g mk a).vm } : State).setVm s₂.vm := rfl
      rw [e2] at this
      exact this
    obtain ⟨c₂, i₂, len₂, hc₂, hd₂, hf₂⟩ := hend
    have hW' : U.WarmedH s₂.vm := hW₂
    have hcc : c₂ = c := by
      have h1 : s₂.code? g.method = U.code? g.method := by
        rw [State.code?_eq, State.code?_eq, hW'.alike.method?]
      exact Option.some.inj (hc₂.symm.trans (h1.trans h.code))
    subst hcc
    have hlen : len₂ = len := by rw [hdg] at hd₂; cases hd₂; rfl
    subst hlen
    have hs₂ : s₂ = (({ U with heap := s₂.heap, slotsUsed := s₂.slotsUsed } : State).setVm s₂.vm).setTop { g with pc := g.pc + len₂, stack := v.toList ++ g.stack } := by
      refine e3.trans ?_
      rw [hf₂, State.calling_eq h.top, State.setFrames_setFrames, State.setTop_of_frames _ hr', hr]
      rfl
    have hsame : U.sameButNew ({ U with heap := s₂.heap, slotsUsed := s₂.slotsUsed } : State) L mc ms := by
      refine ⟨?_, q2, q3, q4, q5, q6⟩
      obtain ⟨t, ht, -⟩ := State.frames_cons hr
      show ({ U with heap := s₂.heap, slotsUsed := s₂.slotsUsed } : State) = { U.setFrames U.frames with heap := s₂.heap, slotsUsed := s₂.slotsUsed }
      rw [State.setFrames_self ht]
    subst hg
    refine Or.inl ⟨v, ⟨(({ U with heap := s₂.heap, slotsUsed := s₂.slotsUsed } : State).setVm s₂.vm), Ls ++ L, c0 + mc, s0 + ms⟩,
      ⟨X.admits, X.cas, X.clock, X.frames, X.room, X.hears, X.method, X.code, (X.here.setHeapUsed s₂.heap s₂.slotsUsed).setVm hW'.alike, X.tail, State.WarmedH.trans X.warmed hW', X.limits, X.bytes, X.same.trans (hsame.setVm s.vm)⟩,
      ⟨g, mk, s₂, L, rfl, rfl, hqc, rfl, hL, rfl, rfl⟩, ?_⟩
    show Steps p.tables e below _ ((({ U with heap := s₂.heap, slotsUsed := s₂.slotsUsed } : State).setVm s₂.vm).setTop { g with pc := g.pc + len₂, stack := v.toList ++ g.stack })
    rw [← hs₂]
    exact hsteps
  · obtain ⟨e2, q2, q3, q4, q5, q6⟩ := id hsm
    have e3 : s₂ = ({ (U.calling g mk a).setFrames s₂.frames with heap := s₂.heap, slotsUsed := s₂.slotsUsed } : State).setVm s₂.vm := by
      have : s₂ = ({ s₂ with vm := (U.calling g mk a).vm } : State).setVm s₂.vm := rfl
      rw [e2] at this
      exact this
    have hf₂ : s₂.frames = .throwing q :: .java g :: U.frames.tail := hend
    have hW' : U.WarmedH s₂.vm := hW₂
    have hs₂ : s₂ = ((({ U with heap := s₂.heap, slotsUsed := s₂.slotsUsed } : State).setVm s₂.vm).setTop g).pushFrame (.throwing q) := by
      refine e3.trans ?_
      rw [hf₂, State.calling_eq h.top, State.setFrames_setFrames, State.pushFrame, State.frames_setTop _ hr', State.setTop_of_frames _ hr', State.setFrames_setFrames, hr]
      rfl
    have hsame : U.sameButNew ({ U with heap := s₂.heap, slotsUsed := s₂.slotsUsed } : State) L mc ms := by
      refine ⟨?_, q2, q3, q4, q5, q6⟩
      obtain ⟨t, ht, -⟩ := State.frames_cons hr
      show ({ U with heap := s₂.heap, slotsUsed := s₂.slotsUsed } : State) = { U.setFrames U.frames with heap := s₂.heap, slotsUsed := s₂.slotsUsed }
      rw [State.setFrames_self ht]
    subst hg
    refine Or.inr ⟨q, ⟨(({ U with heap := s₂.heap, slotsUsed := s₂.slotsUsed } : State).setVm s₂.vm), Ls ++ L, c0 + mc, s0 + ms⟩,
      ⟨X.admits, X.cas, X.clock, X.frames, X.room, X.hears, X.method, X.code, (X.here.setHeapUsed s₂.heap s₂.slotsUsed).setVm hW'.alike, X.tail, State.WarmedH.trans X.warmed hW', X.limits, X.bytes, X.same.trans (hsame.setVm s.vm)⟩,
      ⟨g, mk, s₂, L, E, ce, rfl, rfl, hx, hce, hcv, hcl, rfl, hL, rfl, rfl⟩, ?_⟩
    show Steps p.tables e below _ (((({ U with heap := s₂.heap, slotsUsed := s₂.slotsUsed } : State).setVm s₂.vm).setTop g).pushFrame (.throwing q))
    rw [← hs₂]
    exact hsteps
end Payer
section Calls
variable {p : Program} {l : Launch} {e : Env} {R : Room} {s : State} {m : MethodId} {args : Array Value} {below : List Frame} {meth : Method} {c : Code} {T : State} {locs : List Loc} {cells slots : Nat}
theorem vx_callV (X : Stand p l e R s m args below meth c T locs cells slots) (hexec : p.tables.exec = Jvm.exec) {own C : String} {index : Nat} {y : MethodName} {bytes : ByteArray} {maxL : Nat} {ret : Option FieldType}
    (hown : s.vm.findClass own = some m.cls) (hlink : (Cond.methodLink own index y).before args s = true) (hinst : (Cond.instanceMethod y).before args s = true) (hsel : (Cond.selects C y y).before args s = true)
    (hcode : (Cond.code y bytes maxL ret).before args s = true) (hy : y.cls ≠ "java/lang/invoke/MethodHandle" ∧ y.cls ≠ "java/lang/invoke/VarHandle")
    {W9 : Nat} {Pre : Pt → Array Value → Prop} {Post : Pt → Array Value → Option Value → Pt → Prop} {PostX : Pt → Array Value → Addr → Pt → Prop} (hK : vx_Back l R p e below s args y 3 W9 Pre Post PostX)
    {b : Addr} {cellB : Cell} (hcell : T.heap[b]? = some cellB) (hobj : cellB.vm.isStatics = false) (hcls : s.vm.findClass C = some cellB.cls)
    {g : JFrame} (hg : g.method = m) (hsize : g.locals.size = c.maxLocals) {argsL rest : List Value} (hlen : ∀ sig, parseMethodDescriptor y.desc = some sig → argsL.length = sig.parameters.length)
    (hstack : g.stack = argsL.reverse ++ .ref b :: rest) (hW : 2 * g.monitorRoom + (rest.map fun v => v.category).sum ≤ W9) (hdg : decode c.code g.pc = .ok (.invokevirtual index, 3))
    (hpre : ∀ vm₁, s.WarmedH vm₁ → Pre ⟨T.setVm vm₁, locs, cells, slots⟩ (Value.ref b :: argsL).toArray) :
    (∃ (v : Option Value) (vm₁ : Vm) (B : Pt), s.WarmedH vm₁ ∧ Stand p l e R s m args below meth c B.U B.locs B.cells B.slots ∧ Post ⟨T.setVm vm₁, locs, cells, slots⟩ (Value.ref b :: argsL).toArray v B ∧
      ∀ target, Steps p.tables e below (B.U.setTop { g with pc := g.pc + 3, stack := v.toList ++ rest }) target → Steps p.tables e below (T.setTop g) target) ∨
    (∃ (q : Addr) (vm₁ : Vm) (B : Pt), s.WarmedH vm₁ ∧ Stand p l e R s m args below meth c B.U B.locs B.cells B.slots ∧ PostX ⟨T.setVm vm₁, locs, cells, slots⟩ (Value.ref b :: argsL).toArray q B ∧
      Steps p.tables e below (T.setTop g) ((B.U.setTop { g with stack := rest }).pushFrame (.throwing q))) := by
  obtain ⟨mk, methM, hnamed, hmethM, hstM, habM⟩ := Cond.instanceMethod_spec hinst
  obtain ⟨methM', cM, hmethM', -, -, -, -, -, -, hsigM⟩ := Cond.code_spec hnamed hcode
  cases hmethM.symm.trans hmethM'
  obtain ⟨c2, r2, m2, q1, q2, q3, q4, kP, hkP, hkPi⟩ := Cond.selects_spec hsel
  cases hcls.symm.trans q1
  cases (State.methodFound?_of_named hnamed hy).symm.trans q2
  cases hnamed.symm.trans q3
  have hselP : selectMethod e.platform s.vm cellB.cls mk = .method mk := by rw [Launch.admits_selectMethod X.admits]; exact q4
  obtain ⟨vm₁, X₁, hstep₁⟩ := X.invokevirtual hexec hown hlink hnamed hmethM hstM hkP hkPi hy (a := b) (cell := cellB) hcell
    (fun z h => by rw [h] at hobj; cases hobj) hselP hmethM habM hkP hkPi (g := g) hg (argsL := argsL) (rest := rest) (hlen _ hsigM) hstack hdg
  rcases hK m meth c ⟨T.setVm vm₁, locs, cells, slots⟩ { g with stack := rest } (.invokevirtual index) mk (Value.ref b :: argsL).toArray X₁ hg hsize hdg hW (X₁.named hnamed) (hpre vm₁ X₁.warmed) with ⟨v, B, X', hpost, hsteps⟩ | ⟨q, B, X', hpost, hsteps⟩
  · exact Or.inl ⟨v, vm₁, B, X₁.warmed, X', hpost, fun target h => hstep₁ _ fun acts => by rw [doInvoke_state]; exact hsteps.trans h⟩
  · exact Or.inr ⟨q, vm₁, B, X₁.warmed, X', hpost, hstep₁ _ fun acts => by rw [doInvoke_state]; exact hsteps⟩
theorem vx_callS (X : Stand p l e R s m args below meth c T locs cells slots) (hexec : p.tables.exec = Jvm.exec) {own : String} {index : Nat} {y : MethodName} {bytes : ByteArray} {maxL : Nat} {ret : Option FieldType}
    (hown : s.vm.findClass own = some m.cls) (hlink : (Cond.methodLink own index y).before args s = true) (hstat : (Cond.static y).before args s = true) (hinit : (Cond.initialized y.cls).before args s = true)
    (hcode : (Cond.code y bytes maxL ret).before args s = true) (hy : y.cls ≠ "java/lang/invoke/MethodHandle" ∧ y.cls ≠ "java/lang/invoke/VarHandle")
    {W9 : Nat} {Pre : Pt → Array Value → Prop} {Post : Pt → Array Value → Option Value → Pt → Prop} {PostX : Pt → Array Value → Addr → Pt → Prop} (hK : vx_Back l R p e below s args y 3 W9 Pre Post PostX)
    {g : JFrame} (hg : g.method = m) (hsize : g.locals.size = c.maxLocals) {argsL rest : List Value} (hlen : ∀ sig, parseMethodDescriptor y.desc = some sig → argsL.length = sig.parameters.length)
    (hstack : g.stack = argsL.reverse ++ rest) (hW : 2 * g.monitorRoom + (rest.map fun v => v.category).sum ≤ W9) (hdg : decode c.code g.pc = .ok (.invokestatic index, 3))
    (hpre : ∀ vm₁, s.WarmedH vm₁ → Pre ⟨T.setVm vm₁, locs, cells, slots⟩ argsL.toArray) :
    (∃ (v : Option Value) (vm₁ : Vm) (B : Pt), s.WarmedH vm₁ ∧ Stand p l e R s m args below meth c B.U B.locs B.cells B.slots ∧ Post ⟨T.setVm vm₁, locs, cells, slots⟩ argsL.toArray v B ∧
      ∀ target, Steps p.tables e below (B.U.setTop { g with pc := g.pc + 3, stack := v.toList ++ rest }) target → Steps p.tables e below (T.setTop g) target) ∨
    (∃ (q : Addr) (vm₁ : Vm) (B : Pt), s.WarmedH vm₁ ∧ Stand p l e R s m args below meth c B.U B.locs B.cells B.slots ∧ PostX ⟨T.setVm vm₁, locs, cells, slots⟩ argsL.toArray q B ∧
      Steps p.tables e below (T.setTop g) ((B.U.setTop { g with stack := rest }).pushFrame (.throwing q))) := by
  obtain ⟨mk, hnamed⟩ := Cond.code_named hcode
  obtain ⟨methM, cM, hmethM, -, -, -, -, -, -, hsigM⟩ := Cond.code_spec hnamed hcode
  have hstatic : methM.isStatic = true := Cond.static_spec hnamed hmethM hstat
  obtain ⟨kP, hkP, -⟩ := className_of_methodNamed hnamed
  have hinitP : kP.init = .initialized := Cond.initialized_spec (findClass_of_methodNamed hnamed) hkP hinit
  obtain ⟨vm₁, X₁, hstep₁⟩ := X.invokestatic hexec hown hlink hnamed hmethM hstatic hkP hinitP hy (g := g) hg (argsL := argsL) (rest := rest) (hlen _ hsigM) hstack hdg
  rcases hK m meth c ⟨T.setVm vm₁, locs, cells, slots⟩ { g with stack := rest } (.invokestatic index) mk argsL.toArray X₁ hg hsize hdg hW (X₁.named hnamed) (hpre vm₁ X₁.warmed) with ⟨v, B, X', hpost, hsteps⟩ | ⟨q, B, X', hpost, hsteps⟩
  · exact Or.inl ⟨v, vm₁, B, X₁.warmed, X', hpost, fun target h => hstep₁ _ fun acts => by rw [doInvoke_state]; exact hsteps.trans h⟩
  · exact Or.inr ⟨q, vm₁, B, X₁.warmed, X', hpost, hstep₁ _ fun acts => by rw [doInvoke_state]; exact hsteps⟩
end Calls
theorem vx_cls {s : State} {T : State} {vm₁ : Vm} {E : String} {k : ClassId} (hW : s.WarmedH vm₁) (h : (T.setVm vm₁).vm.findClass E = some k) : s.vm.findClass E = some k := by
  have h1 : vm₁.findClass E = some k := h
  rw [hW.alike.findClass] at h1
  exact h1
/-- the method's frame g, with q thrown over it -/
def vx_W (p : Program) (l : Launch) (e : Env) (R : Room) (s : State) (m : MethodId) (args : Array Value) (below : List Frame) (meth : Method) (c : Code) (H : Heap) (locs : List Loc) (cells slots : Nat) (Q : State → Prop) (g : JFrame) (q : Addr) : Prop :=
  ∀ T : State, T.heap = H → Stand p l e R s m args below meth c T locs cells slots → ∃ t, Steps p.tables e below ((T.setTop g).pushFrame (.throwing q)) t ∧ Q t
def vx_Run (p : Program) (l : Launch) (e : Env) (R : Room) (s : State) (m : MethodId) (args : Array Value) (below : List Frame) (meth : Method) (c : Code) (H : Heap) (locs : List Loc) (cells slots mc ms : Nat) (g : JFrame) (rest : List Value) (Qa : State → Outcome → State → Prop) (XC : String → State → State → Prop) (free : Addr → Prop) : Prop :=
  ∀ T : State, T.heap = H → Stand p l e R s m args below meth c T locs cells slots →
    (∃ (v : Option Value) (st₀ t T' : State) (L : List Loc), st₀.heap = H ∧ Stand p l e R s m args below meth c T' (locs ++ L) (cells + mc) (slots + ms) ∧ (∀ q ∈ L, free q.base) ∧ T'.heap = t.heap ∧ T'.vm = t.vm ∧ Qa st₀ (.returned v) t ∧
      Goes p e below T g T' { g with pc := g.pc + 3, stack := v.toList ++ rest }) ∨
    (∃ (q : Addr) (st₀ t T' : State) (L : List Loc) (E : String) (ce : Cell), st₀.heap = H ∧ Stand p l e R s m args below meth c T' (locs ++ L) (cells + mc) (slots + ms) ∧ (∀ z ∈ L, free z.base) ∧ T'.heap = t.heap ∧ T'.vm = t.vm ∧ XC E st₀ t ∧ t.heap[q]? = some ce ∧ ce.vm = .none ∧ s.vm.findClass E = some ce.cls ∧
      Steps p.tables e below (T.setTop g) ((T'.setTop { g with stack := rest }).pushFrame (.throwing q)))
def vx_X {S : Type} (px : S → Prop) (B : String → S → State → Prop) (A : Nat → Prop) : String → State → State → Prop := fun E st t => ∃ u : S, px u ∧ B E u t ∧ va_F A st t
section Runs
variable {p : Program} {l : Launch} {e : Env} {R : Room} {s : State} {m : MethodId} {args : Array Value} {below : List Frame} {meth : Method} {c : Code} {H : Heap} {locs : List Loc} {cells slots : Nat}
variable {y : MethodName} {bytes cc : ByteArray} {maxL nL mc ms n index : Nat} {ret : Option FieldType} {ws : List Cond} {rm : Room} {Pc : Array Value → State → Prop} {Qc : Array Value → State → Outcome → State → Prop} {XC : String → State → State → Prop} {free : Addr → Prop} {Ts : List Cond} {own C : String} {b : Addr} {As rest : List Value} {g : JFrame}
theorem vx_callBack (cb : CallB R s args own index y bytes maxL ret ws rm mc ms n) (hM : vx_Met l y ws rm Pc Qc XC mc ms free) (hbl : FrameBlind Pc) : vx_Back l R p e below s args y 3 8 (PreOf R mc ms Pc) (PostOf Qc mc ms free) (vx_Post XC mc ms free) := by
  obtain ⟨hrc, hrs, hfr, hlo, hws, hcw, -, hini, -⟩ := cb
  exact vx_back (bytes := bytes) (maxL := maxL) (ret := ret) hM hbl hrc hrs hfr hlo hws hcw (fun a' U hW => word_at hW (Or.inl (by first | rfl | simp [Cond.onTables, Cond.keeps, Cond.steady])) hini)
theorem vx_runV (S : CallFix p m c cc nL s args Ts own) (hM : vx_Met l y ws rm Pc Qc XC mc ms free) (cw : CallW R s args own C index y bytes maxL ret ws rm mc ms n) (hp : PreV s H C b Pc As)
    (hg : g.method = m) (hn : As.length = n) (hsize : g.locals.size = nL) (hstack : g.stack = As.reverse ++ .ref b :: rest) (hW : 2 * g.monitorRoom + (rest.map fun v => v.category).sum ≤ 8) (hdg : decode cc g.pc = .ok (.invokevirtual index, 3)) (hf : cells + mc ≤ R.cells ∧ slots + ms ≤ R.slots) :
    vx_Run p l e R s m args below meth c H locs cells slots mc ms g rest (Qc (Value.ref b :: As).toArray) XC free := by
  have hK : vx_Back l R p e below s args y 3 8 (PreOf R mc ms Pc) (PostOf Qc mc ms free) (vx_Post XC mc ms free) := vx_callBack cw.1 hM hp.1
  obtain ⟨⟨-, -, -, -, -, -, hcode, -, hy, hlen, hl⟩, hin, hse⟩ := cw
  obtain ⟨hx, hb, hml, ho, -⟩ := S
  obtain ⟨-, ⟨cellB, hcB, hoB, hclB⟩, hPc⟩ := hp
  intro T hT X
  rcases vx_callV X hx (C := C) (bytes := bytes) (maxL := maxL) (ret := ret) ho hl hin hse hcode hy hK (by rw [hT]; exact hcB) hoB hclB hg (hsize.trans hml.symm) (argsL := As) (rest := rest) (fun sig h => hn.trans (hlen sig h)) hstack hW (by rw [hb]; exact hdg)
    (fun vm₁ hW₁ => ⟨hf.1, hf.2, hPc (T.setVm vm₁) hT hW₁⟩) with ⟨v, vm₁, ⟨U', l2, c2, s2⟩, hW₁, X', ⟨g', mk, t, L, e1, e2, hq, h1, hL, h2, h3⟩, st⟩ | ⟨q, vm₁, ⟨U', l2, c2, s2⟩, hW₁, X', ⟨g', mk, t, L, E, ce, e1, e2, hq, hce, hcv, hcl, h1, hL, h2, h3⟩, st⟩
  · dsimp only [Pt.U, Pt.locs, Pt.cells, Pt.slots] at X' e1 e2 h1 h2 h3 st
    subst h1; subst h2; subst h3
    exact Or.inl ⟨v, (T.setVm vm₁).calling g' mk (Value.ref b :: As).toArray, t, U', L, hT, X', hL, e1, e2, hq, st⟩
  · dsimp only [Pt.U, Pt.locs, Pt.cells, Pt.slots] at X' e1 e2 h1 h2 h3 st hcl
    subst h1; subst h2; subst h3
    exact Or.inr ⟨q, (T.setVm vm₁).calling g' mk (Value.ref b :: As).toArray, t, U', L, E, ce, hT, X', hL, e1, e2, hq, hce, hcv, vx_cls hW₁ hcl, st⟩
theorem vx_runS (S : CallFix p m c cc nL s args Ts own) (hM : vx_Met l y ws rm Pc Qc XC mc ms free) (cw : CallB R s args own index y bytes maxL ret ws rm mc ms n ∧ (Cond.static y).before args s = true) (hp : PreS s H Pc As)
    (hg : g.method = m) (hn : As.length = n) (hsize : g.locals.size = nL) (hstack : g.stack = As.reverse ++ rest) (hW : 2 * g.monitorRoom + (rest.map fun v => v.category).sum ≤ 8) (hdg : decode cc g.pc = .ok (.invokestatic index, 3)) (hf : cells + mc ≤ R.cells ∧ slots + ms ≤ R.slots) :
    vx_Run p l e R s m args below meth c H locs cells slots mc ms g rest (Qc As.toArray) XC free := by
  have hK : vx_Back l R p e below s args y 3 8 (PreOf R mc ms Pc) (PostOf Qc mc ms free) (vx_Post XC mc ms free) := vx_callBack cw.1 hM hp.1
  obtain ⟨⟨-, -, -, -, -, -, hcode, hini, hy, hlen, hl⟩, hstt⟩ := cw
  obtain ⟨hx, hb, hml, ho, -⟩ := S
  intro T hT X
  rcases vx_callS X hx (bytes := bytes) (maxL := maxL) (ret := ret) ho hl hstt hini hcode hy hK hg (hsize.trans hml.symm) (argsL := As) (rest := rest) (fun sig h => hn.trans (hlen sig h)) hstack hW (by rw [hb]; exact hdg)
    (fun vm₁ hW₁ => ⟨hf.1, hf.2, hp.2 (T.setVm vm₁) hT hW₁⟩) with ⟨v, vm₁, ⟨U', l2, c2, s2⟩, hW₁, X', ⟨g', mk, t, L, e1, e2, hq, h1, hL, h2, h3⟩, st⟩ | ⟨q, vm₁, ⟨U', l2, c2, s2⟩, hW₁, X', ⟨g', mk, t, L, E, ce, e1, e2, hq, hce, hcv, hcl, h1, hL, h2, h3⟩, st⟩
  · dsimp only [Pt.U, Pt.locs, Pt.cells, Pt.slots] at X' e1 e2 h1 h2 h3 st
    subst h1; subst h2; subst h3
    exact Or.inl ⟨v, (T.setVm vm₁).calling g' mk As.toArray, t, U', L, hT, X', hL, e1, e2, hq, st⟩
  · dsimp only [Pt.U, Pt.locs, Pt.cells, Pt.slots] at X' e1 e2 h1 h2 h3 st hcl
    subst h1; subst h2; subst h3
    exact Or.inr ⟨q, (T.setVm vm₁).calling g' mk As.toArray, t, U', L, E, ce, hT, X', hL, e1, e2, hq, hce, hcv, vx_cls hW₁ hcl, st⟩
end Runs
section Rows
variable {p : Program} {l : Launch} {e : Env} {R : Room} {s : State} {m : MethodId} {args : Array Value} {below : List Frame} {meth : Method} {c : Code} {H : Heap} {locs : List Loc} {cells slots : Nat} {Q : State → Prop}
variable {mc ms : Nat} {free : Addr → Prop} {A0 A1 : Nat → Prop} {H0 : Heap} {a : Array Value} {pc : Nat} {ls : Array Slot} {st0 rest : List Value}
theorem vx_keep {st₀ t T' : State} {L : List Loc} (h0 : st₀.heap = H) (e1 : T'.heap = t.heap) (hS : va_S A0 H0 H locs) (hA : ∀ q, q < H.size → A1 q → A0 q) (hf : ∀ q, free q → A0 q) (hL : ∀ q ∈ L, free q.base) (hF : va_F A1 st₀ t) :
    H.size ≤ T'.heap.size ∧ (∀ q : Nat, q < H.size → ¬ A1 q → T'.heap[q]? = H[q]?) ∧ va_S A0 H0 T'.heap (locs ++ L) := by
  obtain ⟨hz, hk⟩ := hF
  rw [h0] at hz hk
  exact ⟨by rw [e1]; exact hz, fun q h1 h2 => by rw [e1]; exact hk q h1 h2,
    ⟨Nat.le_trans hS.1 (by rw [e1]; exact hz), fun q h1 h2 => by rw [e1, hk q (Nat.lt_of_lt_of_le h1 hS.1) (fun z => h2 (hA q (Nat.lt_of_lt_of_le h1 hS.1) z))]; exact hS.2.1 q h1 h2, fun q hq => by
      rcases List.mem_append.mp hq with h | h
      · exact hS.2.2 q h
      · exact hf _ (hL q h)⟩⟩
theorem vx_calli {S SX : Type} {post : Int32 → S → Prop} {px : SX → Prop} {B : S → State → Prop} {BX : String → SX → State → Prop} {AX : Nat → Prop} (hr : vx_Run p l e R s m args below meth c H locs cells slots mc ms (F0 m pc ls st0) rest (va_Qi post B A1 a) (vx_X px BX AX) free) (hS : va_S A0 H0 H locs) (hA : ∀ q, q < H.size → A1 q → A0 q) (hf : ∀ q, free q → A0 q) (hAX : ∀ q, q < H.size → AX q → A0 q)
    (kx : ∀ (E : String) (ce : Cell) (q9 : Addr) (u : SX) (t : State) (H1 : Heap) (locs1 : List Loc), t.heap = H1 → s.vm.Alike t.vm → px u → BX E u t → H.size ≤ H1.size → (∀ q : Nat, q < H.size → ¬ AX q → H1[q]? = H[q]?) → va_S A0 H0 H1 locs1 → H1[q9]? = some ce → ce.vm = .none → s.vm.findClass E = some ce.cls → vx_W p l e R s m args below meth c H1 locs1 (cells + mc) (slots + ms) Q (F0 m pc ls rest) q9)
    (kk : ∀ (r : Int32) (u : S) (t : State) (H1 : Heap) (locs1 : List Loc), t.heap = H1 → s.vm.Alike t.vm → post r u → B u t → H.size ≤ H1.size → (∀ q : Nat, q < H.size → ¬ A1 q → H1[q]? = H[q]?) → va_S A0 H0 H1 locs1 → W p l e R s m args below meth c H1 locs1 (cells + mc) (slots + ms) Q (F0 m (pc + 3) ls (.int r :: rest))) : W p l e R s m args below meth c H locs cells slots Q (F0 m pc ls st0) := by
  intro T hT X
  rcases hr T hT X with ⟨v, st₀, t, T', L, h0, X', hL, e1, e2, ⟨⟨r, u, hv, hp, hb⟩, hF⟩, st⟩ | ⟨q, st₀, t, T', L, E, ce, h0, X', hL, e1, e2, ⟨u, hp, hb, hF⟩, hce, hcv, hcl, st⟩
  · cases hv
    obtain ⟨k1, k2, k3⟩ := vx_keep h0 e1 hS hA hf hL hF
    obtain ⟨t2, a1, b1⟩ := kk r u t T'.heap (locs ++ L) e1.symm (by rw [← e2]; exact X'.warmed.alike) hp hb k1 k2 k3 T' rfl X'
    exact ⟨t2, st t2 a1, b1⟩
  · obtain ⟨k1, k2, k3⟩ := vx_keep h0 e1 hS hAX hf hL hF
    obtain ⟨t2, a1, b1⟩ := kx E ce q u t T'.heap (locs ++ L) e1.symm (by rw [← e2]; exact X'.warmed.alike) hp hb k1 k2 k3 (by rw [e1]; exact hce) hcv hcl T' rfl X'
    exact ⟨t2, st.trans a1, b1⟩
theorem vx_calll {S SX : Type} {post : Int64 → S → Prop} {px : SX → Prop} {B : S → State → Prop} {BX : String → SX → State → Prop} {AX : Nat → Prop} (hr : vx_Run p l e R s m args below meth c H locs cells slots mc ms (F0 m pc ls st0) rest (va_Ql post B A1 a) (vx_X px BX AX) free) (hS : va_S A0 H0 H locs) (hA : ∀ q, q < H.size → A1 q → A0 q) (hf : ∀ q, free q → A0 q) (hAX : ∀ q, q < H.size → AX q → A0 q)
    (kx : ∀ (E : String) (ce : Cell) (q9 : Addr) (u : SX) (t : State) (H1 : Heap) (locs1 : List Loc), t.heap = H1 → s.vm.Alike t.vm → px u → BX E u t → H.size ≤ H1.size → (∀ q : Nat, q < H.size → ¬ AX q → H1[q]? = H[q]?) → va_S A0 H0 H1 locs1 → H1[q9]? = some ce → ce.vm = .none → s.vm.findClass E = some ce.cls → vx_W p l e R s m args below meth c H1 locs1 (cells + mc) (slots + ms) Q (F0 m pc ls rest) q9)
    (kk : ∀ (r : Int64) (u : S) (t : State) (H1 : Heap) (locs1 : List Loc), t.heap = H1 → s.vm.Alike t.vm → post r u → B u t → H.size ≤ H1.size → (∀ q : Nat, q < H.size → ¬ A1 q → H1[q]? = H[q]?) → va_S A0 H0 H1 locs1 → W p l e R s m args below meth c H1 locs1 (cells + mc) (slots + ms) Q (F0 m (pc + 3) ls (.long r :: rest))) : W p l e R s m args below meth c H locs cells slots Q (F0 m pc ls st0) := by
  intro T hT X
  rcases hr T hT X with ⟨v, st₀, t, T', L, h0, X', hL, e1, e2, ⟨⟨r, u, hv, hp, hb⟩, hF⟩, st⟩ | ⟨q, st₀, t, T', L, E, ce, h0, X', hL, e1, e2, ⟨u, hp, hb, hF⟩, hce, hcv, hcl, st⟩
  · cases hv
    obtain ⟨k1, k2, k3⟩ := vx_keep h0 e1 hS hA hf hL hF
    obtain ⟨t2, a1, b1⟩ := kk r u t T'.heap (locs ++ L) e1.symm (by rw [← e2]; exact X'.warmed.alike) hp hb k1 k2 k3 T' rfl X'
    exact ⟨t2, st t2 a1, b1⟩
  · obtain ⟨k1, k2, k3⟩ := vx_keep h0 e1 hS hAX hf hL hF
    obtain ⟨t2, a1, b1⟩ := kx E ce q u t T'.heap (locs ++ L) e1.symm (by rw [← e2]; exact X'.warmed.alike) hp hb k1 k2 k3 (by rw [e1]; exact hce) hcv hcl T' rfl X'
    exact ⟨t2, st.trans a1, b1⟩
theorem vx_callf {S SX : Type} {post : UInt32 → S → Prop} {px : SX → Prop} {B : S → State → Prop} {BX : String → SX → State → Prop} {AX : Nat → Prop} (hr : vx_Run p l e R s m args below meth c H locs cells slots mc ms (F0 m pc ls st0) rest (va_Qf post B A1 a) (vx_X px BX AX) free) (hS : va_S A0 H0 H locs) (hA : ∀ q, q < H.size → A1 q → A0 q) (hf : ∀ q, free q → A0 q) (hAX : ∀ q, q < H.size → AX q → A0 q)
    (kx : ∀ (E : String) (ce : Cell) (q9 : Addr) (u : SX) (t : State) (H1 : Heap) (locs1 : List Loc), t.heap = H1 → s.vm.Alike t.vm → px u → BX E u t → H.size ≤ H1.size → (∀ q : Nat, q < H.size → ¬ AX q → H1[q]? = H[q]?) → va_S A0 H0 H1 locs1 → H1[q9]? = some ce → ce.vm = .none → s.vm.findClass E = some ce.cls → vx_W p l e R s m args below meth c H1 locs1 (cells + mc) (slots + ms) Q (F0 m pc ls rest) q9)
    (kk : ∀ (r : UInt32) (u : S) (t : State) (H1 : Heap) (locs1 : List Loc), t.heap = H1 → s.vm.Alike t.vm → post r u → B u t → H.size ≤ H1.size → (∀ q : Nat, q < H.size → ¬ A1 q → H1[q]? = H[q]?) → va_S A0 H0 H1 locs1 → W p l e R s m args below meth c H1 locs1 (cells + mc) (slots + ms) Q (F0 m (pc + 3) ls (.float r :: rest))) : W p l e R s m args below meth c H locs cells slots Q (F0 m pc ls st0) := by
  intro T hT X
  rcases hr T hT X with ⟨v, st₀, t, T', L, h0, X', hL, e1, e2, ⟨⟨r, u, hv, hp, hb⟩, hF⟩, st⟩ | ⟨q, st₀, t, T', L, E, ce, h0, X', hL, e1, e2, ⟨u, hp, hb, hF⟩, hce, hcv, hcl, st⟩
  · cases hv
    obtain ⟨k1, k2, k3⟩ := vx_keep h0 e1 hS hA hf hL hF
    obtain ⟨t2, a1, b1⟩ := kk r u t T'.heap (locs ++ L) e1.symm (by rw [← e2]; exact X'.warmed.alike) hp hb k1 k2 k3 T' rfl X'
    exact ⟨t2, st t2 a1, b1⟩
  · obtain ⟨k1, k2, k3⟩ := vx_keep h0 e1 hS hAX hf hL hF
    obtain ⟨t2, a1, b1⟩ := kx E ce q u t T'.heap (locs ++ L) e1.symm (by rw [← e2]; exact X'.warmed.alike) hp hb k1 k2 k3 (by rw [e1]; exact hce) hcv hcl T' rfl X'
    exact ⟨t2, st.trans a1, b1⟩
theorem vx_calld {S SX : Type} {post : UInt64 → S → Prop} {px : SX → Prop} {B : S → State → Prop} {BX : String → SX → State → Prop} {AX : Nat → Prop} (hr : vx_Run p l e R s m args below meth c H locs cells slots mc ms (F0 m pc ls st0) rest (va_Qd post B A1 a) (vx_X px BX AX) free) (hS : va_S A0 H0 H locs) (hA : ∀ q, q < H.size → A1 q → A0 q) (hf : ∀ q, free q → A0 q) (hAX : ∀ q, q < H.size → AX q → A0 q)
    (kx : ∀ (E : String) (ce : Cell) (q9 : Addr) (u : SX) (t : State) (H1 : Heap) (locs1 : List Loc), t.heap = H1 → s.vm.Alike t.vm → px u → BX E u t → H.size ≤ H1.size → (∀ q : Nat, q < H.size → ¬ AX q → H1[q]? = H[q]?) → va_S A0 H0 H1 locs1 → H1[q9]? = some ce → ce.vm = .none → s.vm.findClass E = some ce.cls → vx_W p l e R s m args below meth c H1 locs1 (cells + mc) (slots + ms) Q (F0 m pc ls rest) q9)
    (kk : ∀ (r : UInt64) (u : S) (t : State) (H1 : Heap) (locs1 : List Loc), t.heap = H1 → s.vm.Alike t.vm → post r u → B u t → H.size ≤ H1.size → (∀ q : Nat, q < H.size → ¬ A1 q → H1[q]? = H[q]?) → va_S A0 H0 H1 locs1 → W p l e R s m args below meth c H1 locs1 (cells + mc) (slots + ms) Q (F0 m (pc + 3) ls (.double r :: rest))) : W p l e R s m args below meth c H locs cells slots Q (F0 m pc ls st0) := by
  intro T hT X
  rcases hr T hT X with ⟨v, st₀, t, T', L, h0, X', hL, e1, e2, ⟨⟨r, u, hv, hp, hb⟩, hF⟩, st⟩ | ⟨q, st₀, t, T', L, E, ce, h0, X', hL, e1, e2, ⟨u, hp, hb, hF⟩, hce, hcv, hcl, st⟩
  · cases hv
    obtain ⟨k1, k2, k3⟩ := vx_keep h0 e1 hS hA hf hL hF
    obtain ⟨t2, a1, b1⟩ := kk r u t T'.heap (locs ++ L) e1.symm (by rw [← e2]; exact X'.warmed.alike) hp hb k1 k2 k3 T' rfl X'
    exact ⟨t2, st t2 a1, b1⟩
  · obtain ⟨k1, k2, k3⟩ := vx_keep h0 e1 hS hAX hf hL hF
    obtain ⟨t2, a1, b1⟩ := kx E ce q u t T'.heap (locs ++ L) e1.symm (by rw [← e2]; exact X'.warmed.alike) hp hb k1 k2 k3 (by rw [e1]; exact hce) hcv hcl T' rfl X'
    exact ⟨t2, st.trans a1, b1⟩
theorem vx_callv {S SX : Type} {post : S → Prop} {px : SX → Prop} {B : S → State → Prop} {BX : String → SX → State → Prop} {AX : Nat → Prop} (hr : vx_Run p l e R s m args below meth c H locs cells slots mc ms (F0 m pc ls st0) rest (va_Qv post B A1 a) (vx_X px BX AX) free) (hS : va_S A0 H0 H locs) (hA : ∀ q, q < H.size → A1 q → A0 q) (hf : ∀ q, free q → A0 q) (hAX : ∀ q, q < H.size → AX q → A0 q)
    (kx : ∀ (E : String) (ce : Cell) (q9 : Addr) (u : SX) (t : State) (H1 : Heap) (locs1 : List Loc), t.heap = H1 → s.vm.Alike t.vm → px u → BX E u t → H.size ≤ H1.size → (∀ q : Nat, q < H.size → ¬ AX q → H1[q]? = H[q]?) → va_S A0 H0 H1 locs1 → H1[q9]? = some ce → ce.vm = .none → s.vm.findClass E = some ce.cls → vx_W p l e R s m args below meth c H1 locs1 (cells + mc) (slots + ms) Q (F0 m pc ls rest) q9)
    (kk : ∀ (u : S) (t : State) (H1 : Heap) (locs1 : List Loc), t.heap = H1 → s.vm.Alike t.vm → post u → B u t → H.size ≤ H1.size → (∀ q : Nat, q < H.size → ¬ A1 q → H1[q]? = H[q]?) → va_S A0 H0 H1 locs1 → W p l e R s m args below meth c H1 locs1 (cells + mc) (slots + ms) Q (F0 m (pc + 3) ls (rest))) : W p l e R s m args below meth c H locs cells slots Q (F0 m pc ls st0) := by
  intro T hT X
  rcases hr T hT X with ⟨v, st₀, t, T', L, h0, X', hL, e1, e2, ⟨⟨u, hv, hp, hb⟩, hF⟩, st⟩ | ⟨q, st₀, t, T', L, E, ce, h0, X', hL, e1, e2, ⟨u, hp, hb, hF⟩, hce, hcv, hcl, st⟩
  · cases hv
    obtain ⟨k1, k2, k3⟩ := vx_keep h0 e1 hS hA hf hL hF
    obtain ⟨t2, a1, b1⟩ := kk u t T'.heap (locs ++ L) e1.symm (by rw [← e2]; exact X'.warmed.alike) hp hb k1 k2 k3 T' rfl X'
    exact ⟨t2, st t2 a1, b1⟩
  · obtain ⟨k1, k2, k3⟩ := vx_keep h0 e1 hS hAX hf hL hF
    obtain ⟨t2, a1, b1⟩ := kx E ce q u t T'.heap (locs ++ L) e1.symm (by rw [← e2]; exact X'.warmed.alike) hp hb k1 k2 k3 (by rw [e1]; exact hce) hcv hcl T' rfl X'
    exact ⟨t2, st.trans a1, b1⟩
/-- caught by the row x of this method's table; the rows ahead don't take it -/
theorem vx_catch {own name : String} {E : String} {ce : Cell} {q : Addr} (hown : s.vm.findClass own = some m.cls) (pre : List ExceptionTableEntry) (x : ExceptionTableEntry) (suf : List ExceptionTableEntry) (hsplit : c.exceptionTable.toList = pre ++ x :: suf)
    (hpass : ∀ z ∈ pre, covers z pc = false ∨ (z.catchType ≠ 0 ∧ ∃ nm : String, (Cond.classLink own z.catchType nm).before args s = true ∧ va_Nc E nm s)) (hx : covers x pc = true) (h0 : x.catchType ≠ 0)
    (hlink : (Cond.classLink own x.catchType name).before args s = true) (hcast : (Cond.castable E name).before args s = true) (hcell : H[q]? = some ce) (hv : ce.vm = .none) (hcl : s.vm.findClass E = some ce.cls)
    (kk : W p l e R s m args below meth c H locs cells slots Q (F0 m x.handlerPc ls [.ref q])) : vx_W p l e R s m args below meth c H locs cells slots Q (F0 m pc ls rest) q := by
  intro T hT X
  have hpl : e.platform.magicAccessors = ({} : Platform).magicAccessors := by rw [X.admits.platform]
  obtain ⟨c3, c4, hc3, hc4, hasg⟩ := Cond.castable_spec hcast
  cases Option.some.inj (hc3.symm.trans hcl)
  obtain ⟨c5, hc5, hcl5⟩ := Cond.classLink_spec hown hlink e.platform hpl
  cases Option.some.inj (hc4.symm.trans hc5)
  obtain ⟨vm', X', st⟩ := X.thenCaughtThrough q (g := F0 m pc ls rest) rfl (Steps.refl _) (by rw [hT]; exact hcell) (by rw [hv]; rfl) (by obtain ⟨k9, h9, -⟩ := Vm.findClass_spec hcl; exact ⟨k9, h9⟩) pre x suf hsplit
    (fun z hz => by
      rcases hpass z hz with h | ⟨hz0, nm, hl1, hn1⟩
      · exact Or.inl h
      · obtain ⟨c6, hc6, hcl6⟩ := Cond.classLink_spec hown hl1 e.platform hpl
        obtain ⟨a8, b8, h1, h2, h3⟩ := hn1
        cases Option.some.inj (h1.symm.trans hcl)
        cases Option.some.inj (h2.symm.trans hc6)
        exact Or.inr ⟨hz0, _, hcl6, h3⟩) hx (Or.inr ⟨h0, c4, hcl5, hasg⟩)
  obtain ⟨t, a1, b1⟩ := kk (T.setVm vm') hT X'
  exact ⟨t, st.trans a1, b1⟩
end Rows
section Ends
variable {p : Program} {l : Launch} {e : Env} {R : Room} {s : State} {m : MethodId} {args : Array Value} {below : List Frame} {meth : Method} {c : Code} {H : Heap} {locs : List Loc} {cells slots : Nat} {Q : State → Prop}
variable {mc ms : Nat} {free : Addr → Prop} {A0 A1 : Nat → Prop} {H0 : Heap} {a : Array Value} {ls : Array Slot} {st0 rest : List Value}
variable {Qc : Array Value → State → Outcome → State → Prop} {XC : String → State → State → Prop}
/-- what a body that may throw owes at its end -/
def vx_MQ (below : List Frame) (Qc : Array Value → State → Outcome → State → Prop) (XC : String → State → State → Prop) (a : Array Value) (s : State) (mc ms : Nat) (free : Addr → Prop) : State → Prop := fun t =>
  ∃ o, t.status = .running ∧ Ended t below o ∧ vx_Q Qc XC mc ms free a s o t
theorem vx_ret {g : JFrame} {mc ms : Nat} (k : W p l e R s m args below meth c H locs cells slots (MQ below Qc args s mc ms free) g) : W p l e R s m args below meth c H locs cells slots (vx_MQ below Qc XC args s mc ms free) g := by
  intro T hT X
  obtain ⟨t, a1, o, b1, b2, b3, b4⟩ := k T hT X
  exact ⟨t, a1, o, b1, b2, Or.inl ⟨b3, b4⟩⟩
/-- not caught here: it goes on to the caller -/
theorem vx_widen {g : JFrame} {q : Addr} {k n : Nat} (h1 : cells ≤ k) (h2 : slots ≤ n) (kk : vx_W p l e R s m args below meth c H locs k n Q g q) : vx_W p l e R s m args below meth c H locs cells slots Q g q := fun T hT X => kk T hT (stand_widen X h1 h2)
theorem vx_out {pc : Nat} {E : String} {ce : Cell} {q : Addr} {mc ms : Nat} (hout : ∀ x ∈ c.exceptionTable.toList, covers x pc = false) (hlocks : meth.locks = false) (hcell : H[q]? = some ce) (hv : ce.vm = .none) (hcl : s.vm.findClass E = some ce.cls)
    (hx : ∀ t : State, t.heap = H → s.vm.Alike t.vm → XC E s t) (hf : ∀ z ∈ locs, free z.base) (hc : cells ≤ mc) (hs : slots ≤ ms) :
    vx_W p l e R s m args below meth c H locs cells slots (vx_MQ below Qc XC args s mc ms free) (F0 m pc ls rest) q := by
  intro T hT X
  obtain ⟨st1, hrun, hend, hW, hsm⟩ := X.leaveThrown q (g := F0 m pc ls rest) rfl rfl rfl hout hlocks
  have hcell9 : (T.setFrames (.throwing q :: below)).heap[q]? = some ce := by
    show T.heap[q]? = some ce
    rw [hT]; exact hcell
  exact ⟨_, st1, .threw q, hrun, hend, Or.inr ⟨q, rfl, E, ce, locs, hx _ hT hW.alike, hcell9, hv, hcl, hW, hsm.mono hc hs, hf⟩⟩
theorem vx_frame {U : State} {k n : Nat} (h : s.sameButNew ({ U with vm := s.vm } : State) locs k n) : s.heap.size ≤ U.heap.size ∧ ∀ q : Nat, q < s.heap.size → (∀ z ∈ locs, z.base ≠ q) → U.heap[q]? = s.heap[q]? := by
  obtain ⟨-, h2, -, -, -, h6⟩ := h
  refine ⟨h2, fun q hq hz => ?_⟩
  obtain ⟨c9, e1, e2, e3, e4⟩ := h6 q _ (Array.getElem?_eq_getElem hq)
  have hs : c9.slots = (s.heap[q]).slots := Array.ext_getElem? fun i => e4 i fun hm => hz _ hm rfl
  have h9 : c9 = s.heap[q] := by
    rw [hs] at e2
    exact e2
  have e5 : U.heap[q]? = some c9 := e1
  rw [e5, h9, Array.getElem?_eq_getElem hq]
/-- the words of a throw but the four that speak of the heap -/
def vx_no (w : Cond) : Bool := decide (w ≠ .isRef (.static Bundle.tN "UNASSIGNED_STACK" Bundle.steD)) && decide (w ≠ .isRef (.static Bundle.tN "SUPPRESSED_SENTINEL" Bundle.listD)) && decide (w ≠ .laysStatic Bundle.tN "UNASSIGNED_STACK" Bundle.steD) && decide (w ≠ .laysStatic Bundle.tN "SUPPRESSED_SENTINEL" Bundle.listD)
def vx_at0 (own : String) (ic : Nat) (X : String) (names : List String) : List Cond := (Bundle.ownAtoms0 own ic X names).filter vx_no
def vx_atS (own : String) (ic : Nat) (X : String) (names : List String) : List Cond := (Bundle.ownAtoms own ic X names).filter vx_no
/-- a word that the tables alone decide, or a good one -/
def vx_ot (w : Cond) : Bool := w.onTables || goodWord w
theorem vx_ot_at {args a' : Array Value} {s U : State} {w : Cond} (hW : s.WarmedH U.vm) (hvm : s.vm = U.vm) (hg : vx_ot w = true) (h : w.before args s = true) : w.before a' U = true := by
  simp only [vx_ot, Bool.or_eq_true] at hg
  rcases hg with hg | hg
  · exact va_tabs hg hvm h
  · exact word_at hW (good_of_word hg) h
/-- a list's words: the good ones out of the method's own list, the others by premises of their own -/
theorem vx_hat {args : Array Value} {s : State} {L B : List Cond} (h1 : ∀ w ∈ L.filter goodWord, w.before args s = true) (h2 : ∀ w ∈ L.filter (fun w => !goodWord w), w ∈ B) (h3 : ∀ w ∈ B, w.before args s = true) : ∀ w ∈ L, w.before args s = true := by
  intro w hw
  by_cases g : goodWord w = true
  · exact h1 w (List.mem_filter.mpr ⟨hw, g⟩)
  · refine h3 w (h2 w (List.mem_filter.mpr ⟨hw, ?_⟩))
    show (!goodWord w) = true
    cases hgw : goodWord w
    · rfl
    · exact absurd hgw g
theorem vx_c {args : Array Value} {s : State} {w : Cond} {B : List Cond} (h : w.before args s = true) (t : ∀ w ∈ B, w.before args s = true) : ∀ w' ∈ w :: B, w'.before args s = true := fun w' h' => (List.mem_cons.mp h').elim (fun e => by rw [e]; exact h) (t w')
theorem vx_n {args : Array Value} {s : State} : ∀ w ∈ ([] : List Cond), w.before args s = true := fun _ h => nomatch h
theorem vx_own {args : Array Value} {s : State} {L : List Cond} (h1 : ∀ w ∈ L.filter vx_no, w.before args s = true)
    (hU : (Cond.isRef (.static Bundle.tN "UNASSIGNED_STACK" Bundle.steD)).before args s = true) (hN : (Cond.isRef (.static Bundle.tN "SUPPRESSED_SENTINEL" Bundle.listD)).before args s = true)
    (lU : (Cond.laysStatic Bundle.tN "UNASSIGNED_STACK" Bundle.steD).before args s = true) (lN : (Cond.laysStatic Bundle.tN "SUPPRESSED_SENTINEL" Bundle.listD).before args s = true) : ∀ w ∈ L, w.before args s = true := by
  intro w hw
  by_cases e1 : w = .isRef (.static Bundle.tN "UNASSIGNED_STACK" Bundle.steD)
  · rw [e1]; exact hU
  · by_cases e2 : w = .isRef (.static Bundle.tN "SUPPRESSED_SENTINEL" Bundle.listD)
    · rw [e2]; exact hN
    · by_cases e3 : w = .laysStatic Bundle.tN "UNASSIGNED_STACK" Bundle.steD
      · rw [e3]; exact lU
      · by_cases e4 : w = .laysStatic Bundle.tN "SUPPRESSED_SENTINEL" Bundle.listD
        · rw [e4]; exact lN
        · exact h1 w (List.mem_filter.mpr ⟨hw, by unfold vx_no; rw [decide_eq_true e1, decide_eq_true e2, decide_eq_true e3, decide_eq_true e4]; rfl⟩)
/-- where a static field lies, its class's statics cell in H -/
def vx_L (C n d : String) (A : Nat → Prop) (U : State) (H : Heap) : Prop := ∃ (c : ClassId) (k : Class) (i : Nat) (f : Field) (a : Nat) (cell : Cell), U.vm.findClass C = some c ∧ U.fieldFound? C n d = some (c, k, i, f) ∧ f.isStatic = true ∧ k.statics = some a ∧ H[a]? = some cell ∧ cell.vm.isStatics = true ∧ cell.cls = c ∧ f.slot < cell.slots.size ∧ k.staticTypes[f.slot]? = some f.type ∧ ¬ A a
theorem vx_L.moved {C n d : String} {A : Nat → Prop} {u U : State} {H : Heap} (hvm : u.vm.Alike U.vm) (h : vx_L C n d A u H) : vx_L C n d A U H := by
  obtain ⟨c, k, i, f, a, cell, h1, h2, h3, h4, h5, h6, h7, h8, h9, h10⟩ := h
  obtain ⟨k', hi', he⟩ := State.fieldFound?_setVm hvm h2
  exact ⟨c, k', i, f, a, cell, by rw [hvm.findClass]; exact h1, hi', h3, by rw [he]; exact h4, h5, h6, h7, h8, by rw [he]; exact h9, h10⟩
theorem vx_L.kept {C n d : String} {A : Nat → Prop} {U : State} {H H1 : Heap} (h : vx_L C n d A U H) (hq : ∀ a : Nat, a < H.size → ¬ A a → H1[a]? = H[a]?) : vx_L C n d A U H1 := by
  obtain ⟨c, k, i, f, a, cell, h1, h2, h3, h4, h5, h6, h7, h8, h9, h10⟩ := h
  exact ⟨c, k, i, f, a, cell, h1, h2, h3, h4, by rw [hq a (Array.getElem?_eq_some_iff.mp h5).1 h10]; exact h5, h6, h7, h8, h9, h10⟩
theorem vx_L.narrow {C n d : String} {A B : Nat → Prop} {U : State} {H : Heap} (h : vx_L C n d A U H) (hAB : ∀ q, B q → A q) : vx_L C n d B U H := by
  obtain ⟨c, k, i, f, a, cell, h1, h2, h3, h4, h5, h6, h7, h8, h9, h10⟩ := h
  exact ⟨c, k, i, f, a, cell, h1, h2, h3, h4, h5, h6, h7, h8, h9, fun z => h10 (hAB _ z)⟩
theorem vx_L.word {C n d : String} {A : Nat → Prop} {s : State} {args : Array Value} (h : vx_L C n d A s s.heap) : (Cond.laysStatic C n d).before args s = true := by
  obtain ⟨c, k, i, f, a, cell, h1, h2, h3, h4, h5, h6, h7, h8, h9, -⟩ := h
  show (Cond.laysStatic C n d).holds args s none s [] = true
  exact Cond.laysStatic_of h1 h2 h3 h4 h5 h6 h7 h8 h9
/-- .. and what it holds: null or some reference -/
def vx_Zq (C n d : String) (A : Nat → Prop) (U : State) (H : Heap) : Prop := va_Zq C n d A U H ∧ vx_L C n d A U H
theorem vx_Zq.moved {C n d : String} {A : Nat → Prop} {u U : State} {H : Heap} (hvm : u.vm.Alike U.vm) (h : vx_Zq C n d A u H) : vx_Zq C n d A U H := ⟨va_Zq.moved hvm h.1, vx_L.moved hvm h.2⟩
theorem vx_Zq.kept {C n d : String} {A : Nat → Prop} {U : State} {H H1 : Heap} (h : vx_Zq C n d A U H) (hq : ∀ a : Nat, a < H.size → ¬ A a → H1[a]? = H[a]?) : vx_Zq C n d A U H1 := ⟨va_Zq.kept h.1 hq, vx_L.kept h.2 hq⟩
theorem vx_Zq.narrow {C n d : String} {A B : Nat → Prop} {U : State} {H : Heap} (h : vx_Zq C n d A U H) (hAB : ∀ q, B q → A q) : vx_Zq C n d B U H := ⟨va_Zq.narrow h.1 hAB, vx_L.narrow h.2 hAB⟩
theorem vx_Zqof {args : Array Value} {s : State} {C n d : String} {A : Nat → Prop} (hl : (Cond.laysStatic C n d).before args s = true) (hini : (Cond.initialized C).before args s = true) (h : (Cond.isRef (.static C n d)).before args s = true) (hA : ∀ a : Nat, a < s.heap.size → ¬ A a) : vx_Zq C n d A s s.heap := by
  refine ⟨va_Zqof hl hini h hA, ?_⟩
  obtain ⟨c, k, i, f, a, cell, h1, h2, h3, h4, h5, h6, h7, h8, h9⟩ := Cond.laysStatic_spec hl
  exact ⟨c, k, i, f, a, cell, h1, h2, h3, h4, h5, h6, h7, h8, h9, hA a (Array.getElem?_eq_some_iff.mp h5).1⟩
theorem vx_isRef {C n d : String} {v : Value} {A : Nat → Prop} {s : State} {args : Array Value} (h : va_Z C n d v A s s.heap) (hv : v.isRef = true) : (Cond.isRef (.static C n d)).before args s = true := by
  obtain ⟨cf, kf, fi, f, a, cell, h1, h2, h3, h4, h5, h6, h7, -⟩ := h
  have he : (Term.static C n d).eval args s none [] s = some v := by
    simp [Term.eval, State.fieldNamed?, h1, h2, h4, h5, h6, h7]
  simp only [Cond.before, Cond.holds, Cond.value, he]
  cases v <;> simp_all [Value.isRef]
theorem vx_isRefq {C n d : String} {A : Nat → Prop} {s : State} {args : Array Value} (h : va_Zq C n d A s s.heap) : (Cond.isRef (.static C n d)).before args s = true := by
  rcases h with h | ⟨t, h⟩
  · exact vx_isRef h rfl
  · exact vx_isRef h rfl
/-- the same frame, seen from here: as if the method were called anew in this heap -/
theorem vx_rebase {T : State} (X : Stand p l e R s m args below meth c T locs cells slots) {R' : Room} (hf : R'.frames ≤ R.frames) (hl : R'.locals ≤ R.locals) (hc : cells + R'.cells ≤ R.cells) (hs : slots + R'.slots ≤ R.slots) :
    Stand p l e R' ((T.setVm s.vm).setFrames (.invoking m args :: below)) m args below meth c T [] 0 0 := by
  have htop : (T.setVm s.vm).topJava?.isSome := X.here.top
  have hF : ((T.setVm s.vm).setFrames (.invoking m args :: below)).frames = .invoking m args :: below := State.frames_setFrames _ (State.cur_lt_of_top htop)
  obtain ⟨g₀, hg0⟩ := Option.isSome_iff_exists.mp htop
  obtain ⟨r, hr⟩ := State.topJava?_eq_some.mp hg0
  have hl9 : e.platform.stackLimits (T.setVm s.vm).me = e.platform.stackLimits s.me := X.limits
  have hb9 : (T.setVm s.vm).me.stackBytes = s.me.stackBytes := X.bytes
  refine ⟨X.admits, X.cas, X.clock, hF, ?_, X.hears, X.method, X.code, X.here, X.tail, X.warmed, ?_, ?_, ?_⟩
  · have h := X.room
    have hU : ((T.setVm s.vm).setFrames (.invoking m args :: below)).localsInUse = s.localsInUse := by
      rw [State.localsInUse_invoking hF (meth := meth) (c := c) X.method X.code, State.localsInUse_invoking X.frames X.method X.code]
    simp only [State.hasRoom, Bool.and_eq_true, decide_eq_true_eq] at h ⊢
    obtain ⟨⟨⟨⟨h1, h2, h3, h4, h5, h6⟩, h7⟩, h8⟩, h9⟩ := h
    rw [X.frames, List.length_cons] at h2 h3
    have q1 := X.heapSize
    have q2 := X.used
    simp only [hF, hU, List.length_cons, State.stackLimits_setFrames, State.stackBytes_setFrames, hl9, hb9]
    refine ⟨⟨⟨⟨by omega, by omega, by omega, by omega, by omega, h6⟩, ?_⟩, ?_⟩, X.book⟩
    · show T.heap.size + R'.cells ≤ e.platform.maxCells
      omega
    · show T.slotsUsed + R'.slots ≤ e.platform.maxSlots
      omega
  · rw [State.stackLimits_setFrames]; rfl
  · rw [State.stackBytes_setFrames]; rfl
  · refine ⟨?_, Nat.le_refl _, Nat.le_refl _, ?_, ?_, fun a c9 h9 => ⟨c9, h9, rfl, rfl, fun _ _ => rfl⟩⟩
    · obtain ⟨t, ht, -⟩ := State.frames_cons hr
      show T.setVm s.vm = { ((T.setVm s.vm).setFrames (.invoking m args :: below)).setFrames (T.setVm s.vm).frames with heap := T.heap, slotsUsed := T.slotsUsed }
      rw [State.setFrames_setFrames, State.setFrames_self ht]
      rfl
    · show T.slotsUsed = T.slotsUsed + ((T.heap.toList.drop T.heap.size).map (·.slots.size)).sum
      rw [List.drop_eq_nil_of_le (Nat.le_of_eq Array.length_toList)]
      rfl
    · show ((T.heap.toList.drop T.heap.size).map (·.slots.size)).sum ≤ 0
      rw [List.drop_eq_nil_of_le (Nat.le_of_eq Array.length_toList)]
      exact Nat.le_refl _
/-- 'throw new E()': new; dup; invokespecial; athrow -/
theorem vx_throw0 {cc : ByteArray} {pc : Nat} (hexec : p.tables.exec = Jvm.exec) (hb : c.code = cc) (hl : l.stackTraces = false) {own cls : String} {names : List String} {ik ic mc ms : Nat} {A : Nat → Prop}
    (hown : s.vm.findClass own = some m.cls) (hcls : Bundle.fit cls = true) (hnames : ∀ n ∈ names, Bundle.fit n = true)
    (hk : (Cond.classLink own ik cls).before args s = true) (hini : (Cond.initialized cls).before args s = true) (hat : ∀ w ∈ vx_at0 own ic cls names, w.before args s = true)
    (hgood : ∀ w ∈ Cond.classLink own ik cls :: Cond.initialized cls :: vx_at0 own ic cls names, vx_ot w = true)
    (hU : vx_Zq Bundle.tN "UNASSIGNED_STACK" Bundle.steD A s s.heap) (hN : vx_Zq Bundle.tN "SUPPRESSED_SENTINEL" Bundle.listD A s s.heap) (hS : va_S A s.heap H locs) (hsize : ls.size = c.maxLocals)
    (d0 : decode cc pc = .ok (.new ik, 3)) (d3 : decode cc (pc + 3) = .ok (.dup, 1)) (d4 : decode cc (pc + 4) = .ok (.invokespecial ic, 3)) (d7 : decode cc (pc + 7) = .ok (.athrow, 1))
    (hout : ∀ x ∈ c.exceptionTable.toList, covers x (pc + 7) = false)
    (hRframes : names.length + 3 < R.frames) (hRlocals : (rest.map fun v => v.category).sum + (13 * (names.length + 1) + 42) ≤ R.locals) (hRcells : cells + 1 ≤ R.cells) (hRslots : slots + 6 ≤ R.slots) (hlocks : meth.locks = false)
    (hx : ∀ t : State, s.vm.Alike t.vm → H.size ≤ t.heap.size → (∀ q : Nat, q < H.size → t.heap[q]? = H[q]?) → XC cls s t)
    (hf : ∀ z ∈ locs, free z.base) (hc : cells + 1 ≤ mc) (hs : slots + 6 ≤ ms) :
    W p l e R s m args below meth c H locs cells slots (vx_MQ below Qc XC args s mc ms free) (F0 m pc ls rest) := by
  intro T hT X
  have htr : e.platform.stackTraces = false := (show e.platform.stackTraces = l.stackTraces by rw [X.admits.platform]).trans hl
  have Y := vx_rebase X (R' := { frames := R.frames, locals := R.locals, cells := 1, slots := 6 }) (Nat.le_refl _) (Nat.le_refl _) hRcells hRslots
  obtain ⟨s', hA⟩ : ∃ z, z = (T.setVm s.vm).setFrames (.invoking m args :: below) := ⟨_, rfl⟩
  rw [← hA] at Y
  have hvm : s'.vm = s.vm := by rw [hA]; rfl
  have hhp : s'.heap = H := by rw [hA]; exact hT
  have hW0 : s.WarmedH s'.vm := by rw [hvm]; exact State.WarmedH.refl s
  have hat' : ∀ w ∈ vx_at0 own ic cls names, w.before args s' = true := fun w hw => vx_ot_at hW0 hvm.symm (hgood w (List.mem_cons_of_mem _ (List.mem_cons_of_mem _ hw))) (hat w hw)
  have hk' : (Cond.classLink own ik cls).before args s' = true := vx_ot_at hW0 hvm.symm (hgood _ List.mem_cons_self) hk
  have hini' : (Cond.initialized cls).before args s' = true := vx_ot_at hW0 hvm.symm (hgood _ (List.mem_cons_of_mem _ List.mem_cons_self)) hini
  have hU' : vx_Zq Bundle.tN "UNASSIGNED_STACK" Bundle.steD A s' s'.heap := by rw [hhp]; exact vx_Zq.moved hW0.alike (hU.kept hS.2.1)
  have hN' : vx_Zq Bundle.tN "SUPPRESSED_SENTINEL" Bundle.listD A s' s'.heap := by rw [hhp]; exact vx_Zq.moved hW0.alike (hN.kept hS.2.1)
  have h : ∀ w ∈ Bundle.ownAtoms0 own ic cls names, w.before args s' = true := vx_own hat' (vx_isRefq hU'.1) (vx_isRefq hN'.1) hU'.2.word hN'.2.word
  have hown' : s'.vm.findClass own = some m.cls := by rw [hvm]; exact hown
  have hins : (Cond.instantiable cls 6).before args s' = true := h _ (by simp [Bundle.ownAtoms0])
  obtain ⟨vm₁, cX, kX, hfX, hkX, -, -, X₁, st1⟩ := Y.newCold hexec (own := own) (C := cls) (index := ik) (n := 6) hown' hk' hins hini'
    (g := F0 m pc ls rest) rfl (by rw [hb]; exact d0) (Nat.le_refl _) (Nat.le_refl _)
  generalize hT1 : (T.setVm vm₁).pushCell { cls := cX, slots := kX.instanceTypes.map defaultValue, vm := .none } = T1 at X₁ st1
  have hcat : (Value.ref T.heap.size).category = 1 := rfl
  have hcellA : T1.heap[T.heap.size]? = some (freshCell cX kX) := by rw [← hT1]; exact State.heap_pushCell_size _ _
  have d3' : decode c.code (pc + 3) = .ok (.dup, 1) := by rw [hb]; exact d3
  obtain ⟨U, hsteps, hrun, hend, hW, hsame, ce, hce, hO⟩ := X₁.ctorThrow0 hexec htr (own := own) (cls := cls) (names := names) (ic := ic) hown' hcls hnames h (fun x hx => nomatch hx) hfX hkX hcellA (by rw [hhp, hT]; exact Nat.le_refl _)
    (g := { method := m, pc := pc + 4, locals := ls, stack := .ref T.heap.size :: .ref T.heap.size :: rest, locked := none }) rfl hsize rfl rfl (rest := rest) rfl
    (by rw [hb]; exact d4) (by rw [hb]; exact d7) hout hRframes (by simp only [List.map_cons, List.sum_cons, hcat]; omega) hlocks
  obtain ⟨f1, f2⟩ := vx_frame hsame
  rw [hhp] at f1 f2
  have hWs : s.WarmedH U.vm := State.WarmedH.trans hW0 hW
  have hcl : s.vm.findClass cls = some ce.cls := by
    have h9 := hO.cls
    rw [hvm] at h9
    exact h9
  have hall : s.sameButNew ({ U with vm := s.vm } : State) locs mc ms := by
    subst hA
    obtain ⟨e1, e2⟩ := hsame
    rw [State.setFrames_setFrames] at e1
    have h2 : (T.setVm s.vm).sameButNew ({ U with vm := s.vm } : State) [] (0 + 1) (0 + 6) := ⟨e1, e2⟩
    have h3 := X.same.trans h2
    rw [List.append_nil] at h3
    exact h3.mono hc hs
  refine ⟨U, ?_, .threw T.heap.size, hrun, hend, Or.inr ⟨T.heap.size, rfl, cls, ce, locs, hx U hWs.alike f1 (fun q hq => f2 q hq (fun z hz => nomatch hz)), hce, hO.vm, hcl, hWs, hall, hf⟩⟩
  refine st1 _ ?_
  show Steps p.tables e below (T1.setTop { method := m, pc := pc + 3, locals := ls, stack := .ref T.heap.size :: rest, locked := none }) _
  jvm_step X₁.here [X₁.here.top, hexec, d3', Value.category]
  exact hsteps
/-- 'throw new E("text")': new; dup; ldc; invokespecial; athrow -/
theorem vx_throwS {cc : ByteArray} {pc : Nat} (hexec : p.tables.exec = Jvm.exec) (hb : c.code = cc) (hl : l.stackTraces = false) {own cls text : String} {names : List String} {ik is ic mc ms sa : Nat} {A : Nat → Prop}
    (hown : s.vm.findClass own = some m.cls) (hcls : Bundle.fit cls = true) (hnames : ∀ n ∈ names, Bundle.fit n = true)
    (hk : (Cond.classLink own ik cls).before args s = true) (hini : (Cond.initialized cls).before args s = true) (hstr : vk_R own is text sa s) (hat : ∀ w ∈ vx_atS own ic cls names, w.before args s = true)
    (hgood : ∀ w ∈ Cond.classLink own ik cls :: Cond.initialized cls :: vx_atS own ic cls names, vx_ot w = true)
    (hU : vx_Zq Bundle.tN "UNASSIGNED_STACK" Bundle.steD A s s.heap) (hN : vx_Zq Bundle.tN "SUPPRESSED_SENTINEL" Bundle.listD A s s.heap) (hS : va_S A s.heap H locs) (hsize : ls.size = c.maxLocals)
    (d0 : decode cc pc = .ok (.new ik, 3)) (d3 : decode cc (pc + 3) = .ok (.dup, 1)) (d4 : decode cc (pc + 4) = .ok (.ldc is, 2)) (d6 : decode cc (pc + 6) = .ok (.invokespecial ic, 3)) (d9 : decode cc (pc + 9) = .ok (.athrow, 1))
    (hout : ∀ x ∈ c.exceptionTable.toList, covers x (pc + 9) = false)
    (hRframes : names.length + 3 < R.frames) (hRlocals : (rest.map fun v => v.category).sum + (13 * (names.length + 1) + 43) ≤ R.locals) (hRcells : cells + 1 ≤ R.cells) (hRslots : slots + 6 ≤ R.slots) (hlocks : meth.locks = false)
    (hx : ∀ t : State, s.vm.Alike t.vm → H.size ≤ t.heap.size → (∀ q : Nat, q < H.size → t.heap[q]? = H[q]?) → XC cls s t)
    (hf : ∀ z ∈ locs, free z.base) (hc : cells + 1 ≤ mc) (hs : slots + 6 ≤ ms) :
    W p l e R s m args below meth c H locs cells slots (vx_MQ below Qc XC args s mc ms free) (F0 m pc ls rest) := by
  intro T hT X
  have htr : e.platform.stackTraces = false := (show e.platform.stackTraces = l.stackTraces by rw [X.admits.platform]).trans hl
  have Y := vx_rebase X (R' := { frames := R.frames, locals := R.locals, cells := 1, slots := 6 }) (Nat.le_refl _) (Nat.le_refl _) hRcells hRslots
  obtain ⟨s', hA⟩ : ∃ z, z = (T.setVm s.vm).setFrames (.invoking m args :: below) := ⟨_, rfl⟩
  rw [← hA] at Y
  have hvm : s'.vm = s.vm := by rw [hA]; rfl
  have hhp : s'.heap = H := by rw [hA]; exact hT
  have hW0 : s.WarmedH s'.vm := by rw [hvm]; exact State.WarmedH.refl s
  have hat' : ∀ w ∈ vx_atS own ic cls names, w.before args s' = true := fun w hw => vx_ot_at hW0 hvm.symm (hgood w (List.mem_cons_of_mem _ (List.mem_cons_of_mem _ hw))) (hat w hw)
  have hk' : (Cond.classLink own ik cls).before args s' = true := vx_ot_at hW0 hvm.symm (hgood _ List.mem_cons_self) hk
  have hini' : (Cond.initialized cls).before args s' = true := vx_ot_at hW0 hvm.symm (hgood _ (List.mem_cons_of_mem _ List.mem_cons_self)) hini
  have hU' : vx_Zq Bundle.tN "UNASSIGNED_STACK" Bundle.steD A s' s'.heap := by rw [hhp]; exact vx_Zq.moved hW0.alike (hU.kept hS.2.1)
  have hN' : vx_Zq Bundle.tN "SUPPRESSED_SENTINEL" Bundle.listD A s' s'.heap := by rw [hhp]; exact vx_Zq.moved hW0.alike (hN.kept hS.2.1)
  have h : ∀ w ∈ Bundle.ownAtoms own ic cls names, w.before args s' = true := vx_own hat' (vx_isRefq hU'.1) (vx_isRefq hN'.1) hU'.2.word hN'.2.word
  have hown' : s'.vm.findClass own = some m.cls := by rw [hvm]; exact hown
  have hins : (Cond.instantiable cls 6).before args s' = true := h _ (by simp [Bundle.ownAtoms])
  obtain ⟨vm₁, cX, kX, hfX, hkX, -, -, X₁, st1⟩ := Y.newCold hexec (own := own) (C := cls) (index := ik) (n := 6) hown' hk' hins hini'
    (g := F0 m pc ls rest) rfl (by rw [hb]; exact d0) (Nat.le_refl _) (Nat.le_refl _)
  generalize hT1 : (T.setVm vm₁).pushCell { cls := cX, slots := kX.instanceTypes.map defaultValue, vm := .none } = T1 at X₁ st1
  have hcat : (Value.ref T.heap.size).category = 1 := rfl
  have hcellA : T1.heap[T.heap.size]? = some (freshCell cX kX) := by rw [← hT1]; exact State.heap_pushCell_size _ _
  have d3' : decode c.code (pc + 3) = .ok (.dup, 1) := by rw [hb]; exact d3
  have d4' : decode c.code (pc + 4) = .ok (.ldc is, 2) := by rw [hb]; exact d4
  have hstr' : vk_R own is text sa s' := vk_R.warm hW0 hstr
  obtain ⟨U, hsteps, hrun, hend, hW, hsame, ce, hce, hO⟩ := X₁.ctorThrowS hexec htr (own := own) (cls := cls) (names := names) (ic := ic) hown' hcls hnames h (fun x hx => nomatch hx) hfX hkX hcellA (by rw [hhp, hT]; exact Nat.le_refl _) (msg := .ref sa) rfl
    (g := { method := m, pc := pc + 6, locals := ls, stack := .ref sa :: .ref T.heap.size :: .ref T.heap.size :: rest, locked := none }) rfl hsize rfl rfl (rest := rest) rfl
    (by rw [hb]; exact d6) (by rw [hb]; exact d9) hout hRframes (by simp only [List.map_cons, List.sum_cons, hcat]; omega) hlocks
  obtain ⟨f1, f2⟩ := vx_frame hsame
  rw [hhp] at f1 f2
  have hWs : s.WarmedH U.vm := State.WarmedH.trans hW0 hW
  have hcl : s.vm.findClass cls = some ce.cls := by
    have h9 := hO.cls
    rw [hvm] at h9
    exact h9
  have hall : s.sameButNew ({ U with vm := s.vm } : State) locs mc ms := by
    subst hA
    obtain ⟨e1, e2⟩ := hsame
    rw [State.setFrames_setFrames] at e1
    have h2 : (T.setVm s.vm).sameButNew ({ U with vm := s.vm } : State) [] (0 + 1) (0 + 6) := ⟨e1, e2⟩
    have h3 := X.same.trans h2
    rw [List.append_nil] at h3
    exact h3.mono hc hs
  refine ⟨U, ?_, .threw T.heap.size, hrun, hend, Or.inr ⟨T.heap.size, rfl, cls, ce, locs, hx U hWs.alike f1 (fun q hq => f2 q hq (fun z hz => nomatch hz)), hce, hO.vm, hcl, hWs, hall, hf⟩⟩
  refine st1 _ ?_
  show Steps p.tables e below (T1.setTop { method := m, pc := pc + 3, locals := ls, stack := .ref T.heap.size :: rest, locked := none }) _
  jvm_step X₁.here [X₁.here.top, hexec, d3', Value.category]
  exact X₁.ldcString hexec (own := own) (text := text) (index := is) (a := sa) hown' hstr'.1 hstr'.2
    (g := { method := m, pc := pc + 4, locals := ls, stack := .ref T.heap.size :: .ref T.heap.size :: rest, locked := none }) rfl d4' _ hsteps
/-- 'throw new E("text")', the text by a wide index -/
theorem vx_throwSW {cc : ByteArray} {pc : Nat} (hexec : p.tables.exec = Jvm.exec) (hb : c.code = cc) (hl : l.stackTraces = false) {own cls text : String} {names : List String} {ik is ic mc ms sa : Nat} {A : Nat → Prop}
    (hown : s.vm.findClass own = some m.cls) (hcls : Bundle.fit cls = true) (hnames : ∀ n ∈ names, Bundle.fit n = true)
    (hk : (Cond.classLink own ik cls).before args s = true) (hini : (Cond.initialized cls).before args s = true) (hstr : vk_R own is text sa s) (hat : ∀ w ∈ vx_atS own ic cls names, w.before args s = true)
    (hgood : ∀ w ∈ Cond.classLink own ik cls :: Cond.initialized cls :: vx_atS own ic cls names, vx_ot w = true)
    (hU : vx_Zq Bundle.tN "UNASSIGNED_STACK" Bundle.steD A s s.heap) (hN : vx_Zq Bundle.tN "SUPPRESSED_SENTINEL" Bundle.listD A s s.heap) (hS : va_S A s.heap H locs) (hsize : ls.size = c.maxLocals)
    (d0 : decode cc pc = .ok (.new ik, 3)) (d3 : decode cc (pc + 3) = .ok (.dup, 1)) (d4 : decode cc (pc + 4) = .ok (.ldc_w is, 3)) (d7 : decode cc (pc + 7) = .ok (.invokespecial ic, 3)) (d10 : decode cc (pc + 10) = .ok (.athrow, 1))
    (hout : ∀ x ∈ c.exceptionTable.toList, covers x (pc + 10) = false)
    (hRframes : names.length + 3 < R.frames) (hRlocals : (rest.map fun v => v.category).sum + (13 * (names.length + 1) + 43) ≤ R.locals) (hRcells : cells + 1 ≤ R.cells) (hRslots : slots + 6 ≤ R.slots) (hlocks : meth.locks = false)
    (hx : ∀ t : State, s.vm.Alike t.vm → H.size ≤ t.heap.size → (∀ q : Nat, q < H.size → t.heap[q]? = H[q]?) → XC cls s t)
    (hf : ∀ z ∈ locs, free z.base) (hc : cells + 1 ≤ mc) (hs : slots + 6 ≤ ms) :
    W p l e R s m args below meth c H locs cells slots (vx_MQ below Qc XC args s mc ms free) (F0 m pc ls rest) := by
  intro T hT X
  have htr : e.platform.stackTraces = false := (show e.platform.stackTraces = l.stackTraces by rw [X.admits.platform]).trans hl
  have Y := vx_rebase X (R' := { frames := R.frames, locals := R.locals, cells := 1, slots := 6 }) (Nat.le_refl _) (Nat.le_refl _) hRcells hRslots
  obtain ⟨s', hA⟩ : ∃ z, z = (T.setVm s.vm).setFrames (.invoking m args :: below) := ⟨_, rfl⟩
  rw [← hA] at Y
  have hvm : s'.vm = s.vm := by rw [hA]; rfl
  have hhp : s'.heap = H := by rw [hA]; exact hT
  have hW0 : s.WarmedH s'.vm := by rw [hvm]; exact State.WarmedH.refl s
  have hat' : ∀ w ∈ vx_atS own ic cls names, w.before args s' = true := fun w hw => vx_ot_at hW0 hvm.symm (hgood w (List.mem_cons_of_mem _ (List.mem_cons_of_mem _ hw))) (hat w hw)
  have hk' : (Cond.classLink own ik cls).before args s' = true := vx_ot_at hW0 hvm.symm (hgood _ List.mem_cons_self) hk
  have hini' : (Cond.initialized cls).before args s' = true := vx_ot_at hW0 hvm.symm (hgood _ (List.mem_cons_of_mem _ List.mem_cons_self)) hini
  have hU' : vx_Zq Bundle.tN "UNASSIGNED_STACK" Bundle.steD A s' s'.heap := by rw [hhp]; exact vx_Zq.moved hW0.alike (hU.kept hS.2.1)
  have hN' : vx_Zq Bundle.tN "SUPPRESSED_SENTINEL" Bundle.listD A s' s'.heap := by rw [hhp]; exact vx_Zq.moved hW0.alike (hN.kept hS.2.1)
  have h : ∀ w ∈ Bundle.ownAtoms own ic cls names, w.before args s' = true := vx_own hat' (vx_isRefq hU'.1) (vx_isRefq hN'.1) hU'.2.word hN'.2.word
  have hown' : s'.vm.findClass own = some m.cls := by rw [hvm]; exact hown
  have hins : (Cond.instantiable cls 6).before args s' = true := h _ (by simp [Bundle.ownAtoms])
  obtain ⟨vm₁, cX, kX, hfX, hkX, -, -, X₁, st1⟩ := Y.newCold hexec (own := own) (C := cls) (index := ik) (n := 6) hown' hk' hins hini'
    (g := F0 m pc ls rest) rfl (by rw [hb]; exact d0) (Nat.le_refl _) (Nat.le_refl _)
  generalize hT1 : (T.setVm vm₁).pushCell { cls := cX, slots := kX.instanceTypes.map defaultValue, vm := .none } = T1 at X₁ st1
  have hcat : (Value.ref T.heap.size).category = 1 := rfl
  have hcellA : T1.heap[T.heap.size]? = some (freshCell cX kX) := by rw [← hT1]; exact State.heap_pushCell_size _ _
  have d3' : decode c.code (pc + 3) = .ok (.dup, 1) := by rw [hb]; exact d3
  have d4' : decode c.code (pc + 4) = .ok (.ldc_w is, 3) := by rw [hb]; exact d4
  have hstr' : vk_R own is text sa s' := vk_R.warm hW0 hstr
  obtain ⟨U, hsteps, hrun, hend, hW, hsame, ce, hce, hO⟩ := X₁.ctorThrowS hexec htr (own := own) (cls := cls) (names := names) (ic := ic) hown' hcls hnames h (fun x hx => nomatch hx) hfX hkX hcellA (by rw [hhp, hT]; exact Nat.le_refl _) (msg := .ref sa) rfl
    (g := { method := m, pc := pc + 7, locals := ls, stack := .ref sa :: .ref T.heap.size :: .ref T.heap.size :: rest, locked := none }) rfl hsize rfl rfl (rest := rest) rfl
    (by rw [hb]; exact d7) (by rw [hb]; exact d10) hout hRframes (by simp only [List.map_cons, List.sum_cons, hcat]; omega) hlocks
  obtain ⟨f1, f2⟩ := vx_frame hsame
  rw [hhp] at f1 f2
  have hWs : s.WarmedH U.vm := State.WarmedH.trans hW0 hW
  have hcl : s.vm.findClass cls = some ce.cls := by
    have h9 := hO.cls
    rw [hvm] at h9
    exact h9
  have hall : s.sameButNew ({ U with vm := s.vm } : State) locs mc ms := by
    subst hA
    obtain ⟨e1, e2⟩ := hsame
    rw [State.setFrames_setFrames] at e1
    have h2 : (T.setVm s.vm).sameButNew ({ U with vm := s.vm } : State) [] (0 + 1) (0 + 6) := ⟨e1, e2⟩
    have h3 := X.same.trans h2
    rw [List.append_nil] at h3
    exact h3.mono hc hs
  refine ⟨U, ?_, .threw T.heap.size, hrun, hend, Or.inr ⟨T.heap.size, rfl, cls, ce, locs, hx U hWs.alike f1 (fun q hq => f2 q hq (fun z hz => nomatch hz)), hce, hO.vm, hcl, hWs, hall, hf⟩⟩
  refine st1 _ ?_
  show Steps p.tables e below (T1.setTop { method := m, pc := pc + 3, locals := ls, stack := .ref T.heap.size :: rest, locked := none }) _
  jvm_step X₁.here [X₁.here.top, hexec, d3', Value.category]
  exact X₁.ldcStringW hexec (own := own) (text := text) (index := is) (a := sa) hown' hstr'.1 hstr'.2
    (g := { method := m, pc := pc + 4, locals := ls, stack := .ref T.heap.size :: .ref T.heap.size :: rest, locked := none }) rfl d4' _ hsteps
end Ends
section Bodies
variable {l : Launch}
theorem vx_ofW {y : MethodName} {ws ws' : List Cond} {rm : Room} {Pc : Array Value → State → Prop} {Qc : Array Value → State → Outcome → State → Prop} {XC : String → State → State → Prop} {mc ms : Nat} {free : Addr → Prop} {cc : ByteArray} {maxL : Nat} {ret : Option FieldType}
    (hy : plainName y.cls = true) (hw : ws = Cond.code y cc maxL ret :: ws')
    (body : ∀ p e s m args below meth c s₁, BodyLoose p l y (headSpec ws rm) cc maxL ret e s m args below meth c s₁ → c.maxLocals = maxL → (∀ x ∈ c.exceptionTable.toList, False) → Pc args s →
      W p l e (headSpec ws rm).room s m args below meth c s.heap [] 0 0 (vx_MQ below Qc XC args s mc ms free) (entryFrame m args maxL)) : vx_Met l y ws rm Pc Qc XC mc ms free := by
  refine MetFree.of_bodyS (code := cc) (maxLocals := maxL) (ret := ret) hy ?_ ?_
  · intro args s m h hn
    obtain ⟨meth, c, h1, h2, h3, h4, h5, h6, -, -⟩ := Cond.code_spec hn (atoms_spec (ws := ws) h _ (by rw [hw]; exact List.mem_cons_self))
    exact ⟨meth, c, h1, h2, h3, h4, h5, h6⟩
  · intro p e s m args below meth c s₁ B hml hP _
    have hh0 : s₁.heap = s.heap := by rw [B.state]; rfl
    have ht : ∀ x ∈ c.exceptionTable.toList, False := by
      obtain ⟨meth9, c9, h1, h2, -, -, -, -, h7, -⟩ := Cond.code_spec B.named (atoms_spec (ws := ws) B.pre _ (by rw [hw]; exact List.mem_cons_self))
      cases Option.some.inj (h1.symm.trans B.method)
      cases Option.some.inj (h2.symm.trans (Stand.of_body B).code)
      intro x hx
      rw [Array.isEmpty_iff.mp h7] at hx
      cases hx
    obtain ⟨t, a1, o, b1, b2, b3⟩ := body p e s m args below meth c s₁ B hml ht hP s₁ hh0 (Stand.of_body B)
    exact ⟨t, o, a1, b1, b2, b3⟩
/-- the table of a body with handlers -/
theorem vx_table {p : Program} {x y : MethodName} {S : Spec} {cc bytes : ByteArray} {maxL maxL' : Nat} {ret ret' : Option FieldType} {e : Env} {s s₁ : State} {m : MethodId} {args : Array Value} {below : List Frame} {meth : Method} {c : Code} {hh : List (Nat × Nat × Nat × Nat)}
    (B : BodyLoose p l y S cc maxL ret e s m args below meth c s₁) (h : (Cond.codeWith y bytes maxL' ret' hh).before args s = true) : c.exceptionTable.toList = tableOf hh := by
  obtain ⟨m9, meth9, c9, hn9, h1, h2, -, -, h6, -⟩ := Cond.codeWith_spec h
  cases Option.some.inj (hn9.symm.trans B.named)
  cases Option.some.inj (h1.symm.trans B.method)
  cases Option.some.inj (h2.symm.trans (Stand.of_body B).code)
  rw [← h6, table_eq]
end Bodies
end VXA
/-! ===== END ===== -/
/-! ===== BEGIN a static call of a method with an exception table ===== -/
section VXS
variable {p : Program} {l : Launch} {e : Env} {R : Room} {s : State} {m : MethodId} {args : Array Value} {below : List Frame} {meth : Method} {c : Code} {T : State} {H : Heap} {locs : List Loc} {cells slots : Nat}
abbrev vx_CSW (R : Room) (s : State) (args : Array Value) (own : String) (index : Nat) (y : MethodName) (bytes : ByteArray) (maxL : Nat) (ret : Option FieldType) (hh : List (Nat × Nat × Nat × Nat)) (ws : List Cond) (rm : Room) (mc ms n : Nat) : Prop :=
  (rm.cells = mc ∧ rm.slots = ms ∧ rm.frames + 1 ≤ R.frames ∧ 8 + (maxL + 11) + rm.locals ≤ R.locals ∧ (∀ w ∈ ws, ∀ (a' : Array Value) (U : State), s.WarmedH U.vm → w.before a' U = true) ∧ Cond.codeWith y bytes maxL ret hh ∈ ws) ∧
  (Cond.codeWith y bytes maxL ret hh).before args s = true ∧ (Cond.initialized y.cls).before args s = true ∧ (y.cls ≠ "java/lang/invoke/MethodHandle" ∧ y.cls ≠ "java/lang/invoke/VarHandle") ∧
  (∀ sig, parseMethodDescriptor y.desc = some sig → n = sig.parameters.length) ∧ (Cond.methodLink own index y).before args s = true ∧ (Cond.static y).before args s = true
theorem vx_cwSW {own : String} {index maxL mc ms : Nat} {y : MethodName} {bytes : ByteArray} {ret : Option FieldType} {hh : List (Nat × Nat × Nat × Nat)} {Ts ws ws' : List Cond} {rm : Room} (n : Nat) (ht : ∀ w ∈ Ts, w.before args s = true) (hT : GoodIn Ts (va_wsS own index y ws)) (hw : ws = Cond.codeWith y bytes maxL ret hh :: ws') (hrc : rm.cells = mc) (hrs : rm.slots = ms)
    (hd : y.cls ≠ "java/lang/invoke/MethodHandle" ∧ y.cls ≠ "java/lang/invoke/VarHandle" ∧ (parseMethodDescriptor y.desc).map (fun d => d.parameters.length) = some n) (hR : rm.frames + 1 ≤ R.frames ∧ 8 + (maxL + 11) + rm.locals ≤ R.locals) :
    vx_CSW R s args own index y bytes maxL ret hh ws rm mc ms n := by
  have ok : ∀ w ∈ va_wsS own index y ws, w.before args s = true := fun w h => ht w (hT w h).1
  have hG : GoodIn Ts ws := fun w h => hT w (by unfold va_wsS; exact List.mem_append_right _ h)
  have hc : Cond.codeWith y bytes maxL ret hh ∈ ws := by rw [hw]; exact List.mem_cons_self
  refine ⟨⟨hrc, hrs, hR.1, hR.2, pay_in ht hG, hc⟩, ht _ (hG _ hc).1, ok _ (by simp [va_wsS]), ⟨hd.1, hd.2.1⟩, fun sig h => ?_, ok _ (by simp [va_wsS]), ok _ (by simp [va_wsS])⟩
  have h2 := hd.2.2
  rw [h] at h2
  exact (Option.some.inj h2).symm
theorem vx_callSW (X : Stand p l e R s m args below meth c T locs cells slots) (hexec : p.tables.exec = Jvm.exec) {own : String} {index : Nat} {y : MethodName} {bytes : ByteArray} {maxL : Nat} {ret : Option FieldType} {hh : List (Nat × Nat × Nat × Nat)}
    (hown : s.vm.findClass own = some m.cls) (hlink : (Cond.methodLink own index y).before args s = true) (hstat : (Cond.static y).before args s = true) (hinit : (Cond.initialized y.cls).before args s = true)
    (hcode : (Cond.codeWith y bytes maxL ret hh).before args s = true) (hy : y.cls ≠ "java/lang/invoke/MethodHandle" ∧ y.cls ≠ "java/lang/invoke/VarHandle")
    {W9 : Nat} {Pre : Pt → Array Value → Prop} {Post : Pt → Array Value → Option Value → Pt → Prop} (hK : Back l R p e below s args y 3 W9 Pre Post)
    {g : JFrame} (hg : g.method = m) (hsize : g.locals.size = c.maxLocals) {argsL rest : List Value} (hlen : ∀ sig, parseMethodDescriptor y.desc = some sig → argsL.length = sig.parameters.length)
    (hstack : g.stack = argsL.reverse ++ rest) (hW : 2 * g.monitorRoom + (rest.map fun v => v.category).sum ≤ W9) (hdg : decode c.code g.pc = .ok (.invokestatic index, 3))
    (hpre : ∀ vm₁, s.WarmedH vm₁ → Pre ⟨T.setVm vm₁, locs, cells, slots⟩ argsL.toArray) :
    ∃ (v : Option Value) (vm₁ : Vm) (B : Pt), s.WarmedH vm₁ ∧ Stand p l e R s m args below meth c B.U B.locs B.cells B.slots ∧ Post ⟨T.setVm vm₁, locs, cells, slots⟩ argsL.toArray v B ∧
      ∀ target, Steps p.tables e below (B.U.setTop { g with pc := g.pc + 3, stack := v.toList ++ rest }) target → Steps p.tables e below (T.setTop g) target := by
  obtain ⟨mk, methM, cM, hnamed, hmethM, -, -, -, -, -, -, hsigM⟩ := Cond.codeWith_spec hcode
  have hstatic : methM.isStatic = true := Cond.static_spec hnamed hmethM hstat
  obtain ⟨kP, hkP, -⟩ := className_of_methodNamed hnamed
  have hinitP : kP.init = .initialized := Cond.initialized_spec (findClass_of_methodNamed hnamed) hkP hinit
  obtain ⟨vm₁, X₁, hstep₁⟩ := X.invokestatic hexec hown hlink hnamed hmethM hstatic hkP hinitP hy (g := g) hg (argsL := argsL) (rest := rest) (hlen _ hsigM) hstack hdg
  obtain ⟨v, B, X', hpost, hsteps⟩ := hK m meth c ⟨T.setVm vm₁, locs, cells, slots⟩ { g with stack := rest } (.invokestatic index) mk argsL.toArray X₁ hg hsize hdg hW (X₁.named hnamed) (hpre vm₁ X₁.warmed)
  exact ⟨v, vm₁, B, X₁.warmed, X', hpost, fun target h => hstep₁ _ fun acts => by rw [doInvoke_state]; exact hsteps.trans h⟩
theorem vx_runSW {y : MethodName} {bytes cc : ByteArray} {maxL nL mc ms n index : Nat} {ret : Option FieldType} {hh : List (Nat × Nat × Nat × Nat)} {ws : List Cond} {rm : Room} {Pc : Array Value → State → Prop} {Qc : Array Value → State → Outcome → State → Prop} {free : Addr → Prop} {Ts : List Cond} {own : String} {As rest : List Value} {g : JFrame}
    (S : CallFix p m c cc nL s args Ts own) (hM : Met l y ws rm Pc Qc mc ms free) (cw : vx_CSW R s args own index y bytes maxL ret hh ws rm mc ms n) (hp : PreS s H Pc As)
    (hg : g.method = m) (hn : As.length = n) (hsize : g.locals.size = nL) (hstack : g.stack = As.reverse ++ rest) (hW : 2 * g.monitorRoom + (rest.map fun v => v.category).sum ≤ 8) (hdg : decode cc g.pc = .ok (.invokestatic index, 3)) (hf : cells + mc ≤ R.cells ∧ slots + ms ≤ R.slots) :
    va_Run p l e R s m args below meth c H locs cells slots mc ms g rest (Qc As.toArray) (free) := by
  obtain ⟨⟨hrc, hrs, hfr, hlo, hws, hcw⟩, hcode, hini, hy, hlen, hl, hstt⟩ := cw
  have hK : Back l R p e below s args y 3 8 (PreOf R mc ms Pc) (PostOf Qc mc ms free) := va_backW (hh := hh) (bytes := bytes) (maxL := maxL) (ret := ret) hM hp.1 hrc hrs hfr hlo hws hcw (fun a' U hW => word_at hW (Or.inl (by first | rfl | simp [Cond.onTables, Cond.keeps, Cond.steady])) hini)
  obtain ⟨hx, hb, hml, ho, -⟩ := S
  intro T hT X
  obtain ⟨v, vm₁, ⟨U', l2, c2, s2⟩, hW₁, X', ⟨g', mk, t, L, e1, e2, hq, h1, hL, h2, h3⟩, st⟩ := vx_callSW X hx (hh := hh) (bytes := bytes) (maxL := maxL) (ret := ret) ho hl hstt hini hcode hy hK hg (hsize.trans hml.symm) (argsL := As) (rest := rest) (fun sig h => hn.trans (hlen sig h)) hstack hW (by rw [hb]; exact hdg)
    (fun vm₁ hW₁ => ⟨hf.1, hf.2, hp.2 (T.setVm vm₁) hT hW₁⟩)
  dsimp only [Pt.U, Pt.locs, Pt.cells, Pt.slots] at X' e1 e2 h1 h2 h3 st
  subst h1; subst h2; subst h3
  exact ⟨v, (T.setVm vm₁).calling g' mk As.toArray, t, U', L, hT, X', hL, e1, e2, hq, st⟩
/-- not caught here, past rows that name other classes: it goes on to the caller -/
theorem vx_outP {p : Program} {l : Launch} {e : Env} {R : Room} {s : State} {m : MethodId} {args : Array Value} {below : List Frame} {meth : Method} {c : Code} {H : Heap} {locs : List Loc} {cells slots : Nat} {free : Addr → Prop} {ls : Array Slot} {rest : List Value} {Qc : Array Value → State → Outcome → State → Prop} {XC : String → State → State → Prop}
    {pc : Nat} {own E : String} {ce : Cell} {q : Addr} {mc ms : Nat} (hown : s.vm.findClass own = some m.cls) (hlocks : meth.locks = false)
    (hpass : ∀ z ∈ c.exceptionTable.toList, covers z pc = false ∨ (z.catchType ≠ 0 ∧ ∃ nm : String, (Cond.classLink own z.catchType nm).before args s = true ∧ va_Nc E nm s)) (hcell : H[q]? = some ce) (hv : ce.vm = .none) (hcl : s.vm.findClass E = some ce.cls)
    (hx : ∀ t : State, t.heap = H → s.vm.Alike t.vm → XC E s t) (hf : ∀ z ∈ locs, free z.base) (hc : cells ≤ mc) (hs : slots ≤ ms) :
    vx_W p l e R s m args below meth c H locs cells slots (vx_MQ below Qc XC args s mc ms free) (F0 m pc ls rest) q := by
  intro T hT X
  have hpl : e.platform.magicAccessors = ({} : Platform).magicAccessors := by rw [X.admits.platform]
  obtain ⟨vm', hW', X', st⟩ := X.outThrough hlocks q (g := F0 m pc ls rest) rfl rfl rfl (cell := ce) (by rw [hT]; exact hcell) (by rw [hv]; rfl)
    (by obtain ⟨k9, h9, -⟩ := Vm.findClass_spec hcl; exact ⟨k9, h9⟩) (fun z hz => by
      rcases hpass z hz with h | ⟨hz0, nm, hl1, hn1⟩
      · exact Or.inl h
      · obtain ⟨c6, hc6, hcl6⟩ := Cond.classLink_spec hown hl1 e.platform hpl
        obtain ⟨a8, b8, h1, h2, h3⟩ := hn1
        cases Option.some.inj (h1.symm.trans hcl)
        cases Option.some.inj (h2.symm.trans hc6)
        exact Or.inr ⟨hz0, _, hcl6, h3⟩)
  obtain ⟨g₀, hfr⟩ := X'.frames_eq
  have hcell9 : ((T.setVm vm').setFrames (.throwing q :: below)).heap[q]? = some ce := by
    show T.heap[q]? = some ce
    rw [hT]; exact hcell
  have hend : Ended ((T.setVm vm').setFrames (.throwing q :: below)) below (.threw q) := State.frames_setFrames _ (State.cur_lt_of_frames hfr)
  refine ⟨(T.setVm vm').setFrames (.throwing q :: below), ?_, .threw q, X'.here.running, hend, Or.inr ⟨q, rfl, E, ce, locs, hx _ hT (X'.ends _).1.alike, hcell9, hv, hcl, (X'.ends _).1, (X'.ends _).2.mono hc hs, hf⟩⟩
  rw [X.pushThrowing_eq]
  exact st
/-- a thing of a world lies in the heap -/
theorem vx_lt {D : va_G} {cl : List vw_C} {ws : va_W} {H1 : Heap} (h : va_P D cl ws H1) {k : Nat} {q : Nat × va_E} (hk : ws[k]? = some q) : q.1 < H1.size := (h k q hk).lt
end VXS
/-! ===== END ===== -/
/-! ===== BEGIN methods with a table of their own: called by a name, returning or throwing ===== -/
section VXH
/-! vx_backW, vx_callVX, vx_callSX, vx_callVW, vx_runVW, vx_runVX, vx_runSX, vx_ofWH follow the same proofs as their sisters above (Free/Laws.lean, Shelf42/LK1.lean); vx_outP calls Shelf42/NT130.lean (outThrough). -/
section
variable {l : Launch} {R : Room} {p : Program} {e : Env} {below : List Frame} {s : State} {sargs : Array Value} {y : MethodName} {len W9 : Nat}
theorem vx_backW {ws : List Cond} {rm : Room} {Pc : Array Value → State → Prop} {Qc : Array Value → State → Outcome → State → Prop} {XC : String → State → State → Prop} {mc ms : Nat} {free : Addr → Prop} {bytes : ByteArray} {maxL : Nat} {ret : Option FieldType} {hh : List (Nat × Nat × Nat × Nat)}
    (hM : vx_Met l y ws rm Pc Qc XC mc ms free) (hblind : FrameBlind Pc) (hrc : rm.cells = mc) (hrs : rm.slots = ms)
    (hframes : rm.frames + 1 ≤ R.frames) (hlocals : W9 + (maxL + 11) + rm.locals ≤ R.locals)
    (hws : ∀ w ∈ ws, ∀ a' U, s.WarmedH U.vm → w.before a' U = true) (hcode : Cond.codeWith y bytes maxL ret hh ∈ ws) (hinit : ∀ a' U, s.WarmedH U.vm → (Cond.initialized y.cls).before a' U = true) :
    vx_Back l R p e below s sargs y len W9 (PreOf R mc ms Pc) (PostOf Qc mc ms free) (vx_Post XC mc ms free) := by
  intro m meth c A g ig mk a X hg hsize hdg hW hn hp
  have h1 : (headSpec ws rm).pre.before a A.U = true := atoms_intro fun w hw => hws w hw _ _ X.warmed
  have h2 : (Cond.codeWith y bytes maxL ret hh).before a A.U = true := hws _ hcode _ _ X.warmed
  have h3 : (Cond.initialized y.cls).before a A.U = true := hinit _ _ X.warmed
  have h4 : A.cells + (headSpec ws rm).room.cells ≤ R.cells := by rw [show (headSpec ws rm).room.cells = mc from hrc]; exact hp.1
  have h5 : A.slots + (headSpec ws rm).room.slots ≤ R.slots := by rw [show (headSpec ws rm).room.slots = ms from hrs]; exact hp.2.1
  have hPc : Pc a (A.U.calling g mk a) := hblind _ _ _ _ hp.2.2
  obtain ⟨U, Ls, c0, s0⟩ := A
  dsimp only [Pt.U, Pt.locs, Pt.cells, Pt.slots] at h1 h2 h3 h4 h5 X hn hPc ⊢
  obtain ⟨m9, methY, cY, hn9, hmY, hcY, -, hlY, -⟩ := Cond.codeWith_spec h2
  cases Option.some.inj (hn9.symm.trans hn)
  obtain ⟨kY, hkY, -⟩ := className_of_methodNamed hn
  have hinitY : kY.init = .initialized := Cond.initialized_spec (findClass_of_methodNamed hn) hkY h3
  have h : At U g.method c below := by rw [hg]; exact X.here
  have hlocals9 : W9 + (maxL + 11) + (headSpec ws rm).room.locals ≤ R.locals := hlocals
  have happ : (headSpec ws rm).appliesLoose y e.platform (U.calling g mk a) = true :=
    Spec.appliesLoose_calling (g := g) h hdg hn hkY hinitY
      (X.room_calling (g := g) (R' := (headSpec ws rm).room) hsize hmY hcY hframes (by rw [hlY]; omega) h4 h5) h1
  obtain ⟨mid, hmid⟩ := h.above
  have hfr : (U.setTop g).frames = (.java g :: mid) ++ below := by rw [State.frames_setTop' g h.top, hmid]; rfl
  obtain ⟨o, s₂, hsteps, -, hend, hq⟩ := Steps.callFree hM p X.admits X.cas X.clock (acts := []) hfr happ hPc trivial
  have hq' : vx_Q Qc XC mc ms free a (U.calling g mk a) o s₂ := hq
  rw [State.frames_setTop' g h.top] at hend
  obtain ⟨g₀, hg0⟩ := Option.isSome_iff_exists.mp h.top
  obtain ⟨r, hr⟩ := State.topJava?_eq_some.mp hg0
  have hr' : (({ U with heap := s₂.heap, slotsUsed := s₂.slotsUsed } : State).setVm s₂.vm).frames = .java g₀ :: r := hr
  rcases hq' with ⟨hqc, L, hfe, hL⟩ | ⟨q, rfl, E, ce, L, hx, hce, hcv, hcl, hW₂, hsm, hL⟩
  · obtain ⟨⟨v, rfl⟩, hW₂, e2, q2, q3, q4, q5, q6⟩ := id hfe
    have e3 : s₂ = ({ (U.calling g mk a).setFrames s₂.frames with heap := s₂.heap, slotsUsed := s₂.slotsUsed } : State).setVm s₂.vm := by
      have : s₂ = ({ s₂ with vm := (U.calling g mk a).vm } : State).setVm s₂.vm := rfl
      rw [e2] at this
      exact this
    obtain ⟨c₂, i₂, len₂, hc₂, hd₂, hf₂⟩ := hend
    have hW' : U.WarmedH s₂.vm := hW₂
    have hcc : c₂ = c := by
      have h1 : s₂.code? g.method = U.code? g.method := by
        rw [State.code?_eq, State.code?_eq, hW'.alike.method?]
      exact Option.some.inj (hc₂.symm.trans (h1.trans h.code))
    subst hcc
    have hlen : len₂ = len := by rw [hdg] at hd₂; cases hd₂; rfl
    subst hlen
    have hs₂ : s₂ = (({ U with heap := s₂.heap, slotsUsed := s₂.slotsUsed } : State).setVm s₂.vm).setTop { g with pc := g.pc + len₂, stack := v.toList ++ g.stack } := by
      refine e3.trans ?_
      rw [hf₂, State.calling_eq h.top, State.setFrames_setFrames, State.setTop_of_frames _ hr', hr]
      rfl
    have hsame : U.sameButNew ({ U with heap := s₂.heap, slotsUsed := s₂.slotsUsed } : State) L mc ms := by
      refine ⟨?_, q2, q3, q4, q5, q6⟩
      obtain ⟨t, ht, -⟩ := State.frames_cons hr
      show ({ U with heap := s₂.heap, slotsUsed := s₂.slotsUsed } : State) = { U.setFrames U.frames with heap := s₂.heap, slotsUsed := s₂.slotsUsed }
      rw [State.setFrames_self ht]
    subst hg
    refine Or.inl ⟨v, ⟨(({ U with heap := s₂.heap, slotsUsed := s₂.slotsUsed } : State).setVm s₂.vm), Ls ++ L, c0 + mc, s0 + ms⟩,
      ⟨X.admits, X.cas, X.clock, X.frames, X.room, X.hears, X.method, X.code, (X.here.setHeapUsed s₂.heap s₂.slotsUsed).setVm hW'.alike, X.tail, State.WarmedH.trans X.warmed hW', X.limits, X.bytes, X.same.trans (hsame.setVm s.vm)⟩,
      ⟨g, mk, s₂, L, rfl, rfl, hqc, rfl, hL, rfl, rfl⟩, ?_⟩
    show Steps p.tables e below _ ((({ U with heap := s₂.heap, slotsUsed := s₂.slotsUsed } : State).setVm s₂.vm).setTop { g with pc := g.pc + len₂, stack := v.toList ++ g.stack })
    rw [← hs₂]
    exact hsteps
  · obtain ⟨e2, q2, q3, q4, q5, q6⟩ := id hsm
    have e3 : s₂ = ({ (U.calling g mk a).setFrames s₂.frames with heap := s₂.heap, slotsUsed := s₂.slotsUsed } : State).setVm s₂.vm := by
      have : s₂ = ({ s₂ with vm := (U.calling g mk a).vm } : State).setVm s₂.vm := rfl
      rw [e2] at this
      exact this
    have hf₂ : s₂.frames = .throwing q :: .java g :: U.frames.tail := hend
    have hW' : U.WarmedH s₂.vm := hW₂
    have hs₂ : s₂ = ((({ U with heap := s₂.heap, slotsUsed := s₂.slotsUsed } : State).setVm s₂.vm).setTop g).pushFrame (.throwing q) := by
      refine e3.trans ?_
      rw [hf₂, State.calling_eq h.top, State.setFrames_setFrames, State.pushFrame, State.frames_setTop _ hr', State.setTop_of_frames _ hr', State.setFrames_setFrames, hr]
      rfl
    have hsame : U.sameButNew ({ U with heap := s₂.heap, slotsUsed := s₂.slotsUsed } : State) L mc ms := by
      refine ⟨?_, q2, q3, q4, q5, q6⟩
      obtain ⟨t, ht, -⟩ := State.frames_cons hr
      show ({ U with heap := s₂.heap, slotsUsed := s₂.slotsUsed } : State) = { U.setFrames U.frames with heap := s₂.heap, slotsUsed := s₂.slotsUsed }
      rw [State.setFrames_self ht]
    subst hg
    refine Or.inr ⟨q, ⟨(({ U with heap := s₂.heap, slotsUsed := s₂.slotsUsed } : State).setVm s₂.vm), Ls ++ L, c0 + mc, s0 + ms⟩,
      ⟨X.admits, X.cas, X.clock, X.frames, X.room, X.hears, X.method, X.code, (X.here.setHeapUsed s₂.heap s₂.slotsUsed).setVm hW'.alike, X.tail, State.WarmedH.trans X.warmed hW', X.limits, X.bytes, X.same.trans (hsame.setVm s.vm)⟩,
      ⟨g, mk, s₂, L, E, ce, rfl, rfl, hx, hce, hcv, hcl, rfl, hL, rfl, rfl⟩, ?_⟩
    show Steps p.tables e below _ (((({ U with heap := s₂.heap, slotsUsed := s₂.slotsUsed } : State).setVm s₂.vm).setTop g).pushFrame (.throwing q))
    rw [← hs₂]
    exact hsteps
end
variable {p : Program} {l : Launch} {e : Env} {R : Room} {s : State} {m : MethodId} {args : Array Value} {below : List Frame} {meth : Method} {c : Code} {T : State} {H : Heap} {locs : List Loc} {cells slots : Nat}
theorem vx_callVX (X : Stand p l e R s m args below meth c T locs cells slots) (hexec : p.tables.exec = Jvm.exec) {own C : String} {index : Nat} {y : MethodName} {bytes : ByteArray} {maxL : Nat} {ret : Option FieldType} {hh : List (Nat × Nat × Nat × Nat)}
    (hown : s.vm.findClass own = some m.cls) (hlink : (Cond.methodLink own index y).before args s = true) (hinst : (Cond.instanceMethod y).before args s = true) (hsel : (Cond.selects C y y).before args s = true)
    (hcode : (Cond.codeWith y bytes maxL ret hh).before args s = true) (hy : y.cls ≠ "java/lang/invoke/MethodHandle" ∧ y.cls ≠ "java/lang/invoke/VarHandle")
    {W9 : Nat} {Pre : Pt → Array Value → Prop} {Post : Pt → Array Value → Option Value → Pt → Prop} {PostX : Pt → Array Value → Addr → Pt → Prop} (hK : vx_Back l R p e below s args y 3 W9 Pre Post PostX)
    {b : Addr} {cellB : Cell} (hcell : T.heap[b]? = some cellB) (hobj : cellB.vm.isStatics = false) (hcls : s.vm.findClass C = some cellB.cls)
    {g : JFrame} (hg : g.method = m) (hsize : g.locals.size = c.maxLocals) {argsL rest : List Value} (hlen : ∀ sig, parseMethodDescriptor y.desc = some sig → argsL.length = sig.parameters.length)
    (hstack : g.stack = argsL.reverse ++ .ref b :: rest) (hW : 2 * g.monitorRoom + (rest.map fun v => v.category).sum ≤ W9) (hdg : decode c.code g.pc = .ok (.invokevirtual index, 3))
    (hpre : ∀ vm₁, s.WarmedH vm₁ → Pre ⟨T.setVm vm₁, locs, cells, slots⟩ (Value.ref b :: argsL).toArray) :
    (∃ (v : Option Value) (vm₁ : Vm) (B : Pt), s.WarmedH vm₁ ∧ Stand p l e R s m args below meth c B.U B.locs B.cells B.slots ∧ Post ⟨T.setVm vm₁, locs, cells, slots⟩ (Value.ref b :: argsL).toArray v B ∧
      ∀ target, Steps p.tables e below (B.U.setTop { g with pc := g.pc + 3, stack := v.toList ++ rest }) target → Steps p.tables e below (T.setTop g) target) ∨
    (∃ (q : Addr) (vm₁ : Vm) (B : Pt), s.WarmedH vm₁ ∧ Stand p l e R s m args below meth c B.U B.locs B.cells B.slots ∧ PostX ⟨T.setVm vm₁, locs, cells, slots⟩ (Value.ref b :: argsL).toArray q B ∧
      Steps p.tables e below (T.setTop g) ((B.U.setTop { g with stack := rest }).pushFrame (.throwing q))) := by
  obtain ⟨mk, methM, hnamed, hmethM, hstM, habM⟩ := Cond.instanceMethod_spec hinst
  obtain ⟨m8, methM', cM, hn8, hmethM', -, -, -, -, -, -, hsigM⟩ := Cond.codeWith_spec hcode
  cases Option.some.inj (hn8.symm.trans hnamed)
  cases hmethM.symm.trans hmethM'
  obtain ⟨c2, r2, m2, q1, q2, q3, q4, kP, hkP, hkPi⟩ := Cond.selects_spec hsel
  cases hcls.symm.trans q1
  cases (State.methodFound?_of_named hnamed hy).symm.trans q2
  cases hnamed.symm.trans q3
  have hselP : selectMethod e.platform s.vm cellB.cls mk = .method mk := by rw [Launch.admits_selectMethod X.admits]; exact q4
  obtain ⟨vm₁, X₁, hstep₁⟩ := X.invokevirtual hexec hown hlink hnamed hmethM hstM hkP hkPi hy (a := b) (cell := cellB) hcell
    (fun z h => by rw [h] at hobj; cases hobj) hselP hmethM habM hkP hkPi (g := g) hg (argsL := argsL) (rest := rest) (hlen _ hsigM) hstack hdg
  rcases hK m meth c ⟨T.setVm vm₁, locs, cells, slots⟩ { g with stack := rest } (.invokevirtual index) mk (Value.ref b :: argsL).toArray X₁ hg hsize hdg hW (X₁.named hnamed) (hpre vm₁ X₁.warmed) with ⟨v, B, X', hpost, hsteps⟩ | ⟨q, B, X', hpost, hsteps⟩
  · exact Or.inl ⟨v, vm₁, B, X₁.warmed, X', hpost, fun target h => hstep₁ _ fun acts => by rw [doInvoke_state]; exact hsteps.trans h⟩
  · exact Or.inr ⟨q, vm₁, B, X₁.warmed, X', hpost, hstep₁ _ fun acts => by rw [doInvoke_state]; exact hsteps⟩
theorem vx_callSX (X : Stand p l e R s m args below meth c T locs cells slots) (hexec : p.tables.exec = Jvm.exec) {own : String} {index : Nat} {y : MethodName} {bytes : ByteArray} {maxL : Nat} {ret : Option FieldType} {hh : List (Nat × Nat × Nat × Nat)}
    (hown : s.vm.findClass own = some m.cls) (hlink : (Cond.methodLink own index y).before args s = true) (hstat : (Cond.static y).before args s = true) (hinit : (Cond.initialized y.cls).before args s = true)
    (hcode : (Cond.codeWith y bytes maxL ret hh).before args s = true) (hy : y.cls ≠ "java/lang/invoke/MethodHandle" ∧ y.cls ≠ "java/lang/invoke/VarHandle")
    {W9 : Nat} {Pre : Pt → Array Value → Prop} {Post : Pt → Array Value → Option Value → Pt → Prop} {PostX : Pt → Array Value → Addr → Pt → Prop} (hK : vx_Back l R p e below s args y 3 W9 Pre Post PostX)
    {g : JFrame} (hg : g.method = m) (hsize : g.locals.size = c.maxLocals) {argsL rest : List Value} (hlen : ∀ sig, parseMethodDescriptor y.desc = some sig → argsL.length = sig.parameters.length)
    (hstack : g.stack = argsL.reverse ++ rest) (hW : 2 * g.monitorRoom + (rest.map fun v => v.category).sum ≤ W9) (hdg : decode c.code g.pc = .ok (.invokestatic index, 3))
    (hpre : ∀ vm₁, s.WarmedH vm₁ → Pre ⟨T.setVm vm₁, locs, cells, slots⟩ argsL.toArray) :
    (∃ (v : Option Value) (vm₁ : Vm) (B : Pt), s.WarmedH vm₁ ∧ Stand p l e R s m args below meth c B.U B.locs B.cells B.slots ∧ Post ⟨T.setVm vm₁, locs, cells, slots⟩ argsL.toArray v B ∧
      ∀ target, Steps p.tables e below (B.U.setTop { g with pc := g.pc + 3, stack := v.toList ++ rest }) target → Steps p.tables e below (T.setTop g) target) ∨
    (∃ (q : Addr) (vm₁ : Vm) (B : Pt), s.WarmedH vm₁ ∧ Stand p l e R s m args below meth c B.U B.locs B.cells B.slots ∧ PostX ⟨T.setVm vm₁, locs, cells, slots⟩ argsL.toArray q B ∧
      Steps p.tables e below (T.setTop g) ((B.U.setTop { g with stack := rest }).pushFrame (.throwing q))) := by
  obtain ⟨mk, methM, cM, hnamed, hmethM, -, -, -, -, -, -, hsigM⟩ := Cond.codeWith_spec hcode
  have hstatic : methM.isStatic = true := Cond.static_spec hnamed hmethM hstat
  obtain ⟨kP, hkP, -⟩ := className_of_methodNamed hnamed
  have hinitP : kP.init = .initialized := Cond.initialized_spec (findClass_of_methodNamed hnamed) hkP hinit
  obtain ⟨vm₁, X₁, hstep₁⟩ := X.invokestatic hexec hown hlink hnamed hmethM hstatic hkP hinitP hy (g := g) hg (argsL := argsL) (rest := rest) (hlen _ hsigM) hstack hdg
  rcases hK m meth c ⟨T.setVm vm₁, locs, cells, slots⟩ { g with stack := rest } (.invokestatic index) mk argsL.toArray X₁ hg hsize hdg hW (X₁.named hnamed) (hpre vm₁ X₁.warmed) with ⟨v, B, X', hpost, hsteps⟩ | ⟨q, B, X', hpost, hsteps⟩
  · exact Or.inl ⟨v, vm₁, B, X₁.warmed, X', hpost, fun target h => hstep₁ _ fun acts => by rw [doInvoke_state]; exact hsteps.trans h⟩
  · exact Or.inr ⟨q, vm₁, B, X₁.warmed, X', hpost, hstep₁ _ fun acts => by rw [doInvoke_state]; exact hsteps⟩
theorem vx_callVW (X : Stand p l e R s m args below meth c T locs cells slots) (hexec : p.tables.exec = Jvm.exec) {own C : String} {index : Nat} {y : MethodName} {bytes : ByteArray} {maxL : Nat} {ret : Option FieldType} {hh : List (Nat × Nat × Nat × Nat)}
    (hown : s.vm.findClass own = some m.cls) (hlink : (Cond.methodLink own index y).before args s = true) (hinst : (Cond.instanceMethod y).before args s = true) (hsel : (Cond.selects C y y).before args s = true)
    (hcode : (Cond.codeWith y bytes maxL ret hh).before args s = true) (hy : y.cls ≠ "java/lang/invoke/MethodHandle" ∧ y.cls ≠ "java/lang/invoke/VarHandle")
    {W9 : Nat} {Pre : Pt → Array Value → Prop} {Post : Pt → Array Value → Option Value → Pt → Prop} (hK : Back l R p e below s args y 3 W9 Pre Post)
    {b : Addr} {cellB : Cell} (hcell : T.heap[b]? = some cellB) (hobj : cellB.vm.isStatics = false) (hcls : s.vm.findClass C = some cellB.cls)
    {g : JFrame} (hg : g.method = m) (hsize : g.locals.size = c.maxLocals) {argsL rest : List Value} (hlen : ∀ sig, parseMethodDescriptor y.desc = some sig → argsL.length = sig.parameters.length)
    (hstack : g.stack = argsL.reverse ++ .ref b :: rest) (hW : 2 * g.monitorRoom + (rest.map fun v => v.category).sum ≤ W9) (hdg : decode c.code g.pc = .ok (.invokevirtual index, 3))
    (hpre : ∀ vm₁, s.WarmedH vm₁ → Pre ⟨T.setVm vm₁, locs, cells, slots⟩ (Value.ref b :: argsL).toArray) :
    ∃ (v : Option Value) (vm₁ : Vm) (B : Pt), s.WarmedH vm₁ ∧ Stand p l e R s m args below meth c B.U B.locs B.cells B.slots ∧ Post ⟨T.setVm vm₁, locs, cells, slots⟩ (Value.ref b :: argsL).toArray v B ∧
      ∀ target, Steps p.tables e below (B.U.setTop { g with pc := g.pc + 3, stack := v.toList ++ rest }) target → Steps p.tables e below (T.setTop g) target := by
  obtain ⟨mk, methM, hnamed, hmethM, hstM, habM⟩ := Cond.instanceMethod_spec hinst
  obtain ⟨m8, methM', cM, hn8, hmethM', -, -, -, -, -, -, hsigM⟩ := Cond.codeWith_spec hcode
  cases Option.some.inj (hn8.symm.trans hnamed)
  cases hmethM.symm.trans hmethM'
  obtain ⟨c2, r2, m2, q1, q2, q3, q4, kP, hkP, hkPi⟩ := Cond.selects_spec hsel
  cases hcls.symm.trans q1
  cases (State.methodFound?_of_named hnamed hy).symm.trans q2
  cases hnamed.symm.trans q3
  have hselP : selectMethod e.platform s.vm cellB.cls mk = .method mk := by rw [Launch.admits_selectMethod X.admits]; exact q4
  obtain ⟨vm₁, X₁, hstep₁⟩ := X.invokevirtual hexec hown hlink hnamed hmethM hstM hkP hkPi hy (a := b) (cell := cellB) hcell
    (fun z h => by rw [h] at hobj; cases hobj) hselP hmethM habM hkP hkPi (g := g) hg (argsL := argsL) (rest := rest) (hlen _ hsigM) hstack hdg
  obtain ⟨v, B, X', hpost, hsteps⟩ := hK m meth c ⟨T.setVm vm₁, locs, cells, slots⟩ { g with stack := rest } (.invokevirtual index) mk (Value.ref b :: argsL).toArray X₁ hg hsize hdg hW (X₁.named hnamed) (hpre vm₁ X₁.warmed)
  exact ⟨v, vm₁, B, X₁.warmed, X', hpost, fun target h => hstep₁ _ fun acts => by rw [doInvoke_state]; exact hsteps.trans h⟩
abbrev vx_CVW (R : Room) (s : State) (args : Array Value) (own C : String) (index : Nat) (y : MethodName) (bytes : ByteArray) (maxL : Nat) (ret : Option FieldType) (hh : List (Nat × Nat × Nat × Nat)) (ws : List Cond) (rm : Room) (mc ms n : Nat) : Prop :=
  (rm.cells = mc ∧ rm.slots = ms ∧ rm.frames + 1 ≤ R.frames ∧ 8 + (maxL + 11) + rm.locals ≤ R.locals ∧ (∀ w ∈ ws, ∀ (a' : Array Value) (U : State), s.WarmedH U.vm → w.before a' U = true) ∧ Cond.codeWith y bytes maxL ret hh ∈ ws) ∧
  (Cond.codeWith y bytes maxL ret hh).before args s = true ∧ (Cond.initialized y.cls).before args s = true ∧ (y.cls ≠ "java/lang/invoke/MethodHandle" ∧ y.cls ≠ "java/lang/invoke/VarHandle") ∧
  (∀ sig, parseMethodDescriptor y.desc = some sig → n = sig.parameters.length) ∧ (Cond.methodLink own index y).before args s = true ∧ (Cond.instanceMethod y).before args s = true ∧ (Cond.selects C y y).before args s = true
theorem vx_cwVW {own C : String} {index maxL mc ms : Nat} {y : MethodName} {bytes : ByteArray} {ret : Option FieldType} {hh : List (Nat × Nat × Nat × Nat)} {Ts ws ws' : List Cond} {rm : Room} (n : Nat) (ht : ∀ w ∈ Ts, w.before args s = true) (hT : GoodIn Ts (wsV own index C y ws)) (hw : ws = Cond.codeWith y bytes maxL ret hh :: ws') (hrc : rm.cells = mc) (hrs : rm.slots = ms)
    (hd : y.cls = C ∧ y.cls ≠ "java/lang/invoke/MethodHandle" ∧ y.cls ≠ "java/lang/invoke/VarHandle" ∧ (parseMethodDescriptor y.desc).map (fun d => d.parameters.length) = some n) (hR : rm.frames + 1 ≤ R.frames ∧ 8 + (maxL + 11) + rm.locals ≤ R.locals) :
    vx_CVW R s args own C index y bytes maxL ret hh ws rm mc ms n := by
  obtain ⟨hC, hd⟩ := hd
  subst hC
  have ok : ∀ w ∈ wsV own index y.cls y ws, w.before args s = true := fun w h => ht w (hT w h).1
  have hG : GoodIn Ts ws := fun w h => hT w (by unfold wsV; exact List.mem_append_right _ h)
  have hc : Cond.codeWith y bytes maxL ret hh ∈ ws := by rw [hw]; exact List.mem_cons_self
  refine ⟨⟨hrc, hrs, hR.1, hR.2, pay_in ht hG, hc⟩, ht _ (hG _ hc).1, ok _ (by simp [wsV]), ⟨hd.1, hd.2.1⟩, fun sig h => ?_, ok _ (by simp [wsV]), ok _ (by simp [wsV]), ok _ (by simp [wsV])⟩
  have h2 := hd.2.2
  rw [h] at h2
  exact (Option.some.inj h2).symm
theorem vx_runVW {y : MethodName} {bytes cc : ByteArray} {maxL nL mc ms n index : Nat} {ret : Option FieldType} {hh : List (Nat × Nat × Nat × Nat)} {ws : List Cond} {rm : Room} {Pc : Array Value → State → Prop} {Qc : Array Value → State → Outcome → State → Prop} {free : Addr → Prop} {Ts : List Cond} {own C : String} {b : Addr} {As rest : List Value} {g : JFrame}
    (S : CallFix p m c cc nL s args Ts own) (hM : Met l y ws rm Pc Qc mc ms free) (cw : vx_CVW R s args own C index y bytes maxL ret hh ws rm mc ms n) (hp : PreV s H C b Pc As)
    (hg : g.method = m) (hn : As.length = n) (hsize : g.locals.size = nL) (hstack : g.stack = As.reverse ++ .ref b :: rest) (hW : 2 * g.monitorRoom + (rest.map fun v => v.category).sum ≤ 8) (hdg : decode cc g.pc = .ok (.invokevirtual index, 3)) (hf : cells + mc ≤ R.cells ∧ slots + ms ≤ R.slots) :
    va_Run p l e R s m args below meth c H locs cells slots mc ms g rest (Qc (Value.ref b :: As).toArray) free := by
  obtain ⟨⟨hrc, hrs, hfr, hlo, hws, hcw⟩, hcode, hini, hy, hlen, hl, hin, hse⟩ := cw
  have hK : Back l R p e below s args y 3 8 (PreOf R mc ms Pc) (PostOf Qc mc ms free) := va_backW (hh := hh) (bytes := bytes) (maxL := maxL) (ret := ret) hM hp.1 hrc hrs hfr hlo hws hcw (fun a' U hW => word_at hW (Or.inl (by first | rfl | simp [Cond.onTables, Cond.keeps, Cond.steady])) hini)
  obtain ⟨hx, hb, hml, ho, -⟩ := S
  obtain ⟨-, ⟨cellB, hcB, hoB, hclB⟩, hPc⟩ := hp
  intro T hT X
  obtain ⟨v, vm₁, ⟨U', l2, c2, s2⟩, hW₁, X', ⟨g', mk, t, L, e1, e2, hq, h1, hL, h2, h3⟩, st⟩ := vx_callVW X hx (C := C) (hh := hh) (bytes := bytes) (maxL := maxL) (ret := ret) ho hl hin hse hcode hy hK (by rw [hT]; exact hcB) hoB hclB hg (hsize.trans hml.symm) (argsL := As) (rest := rest) (fun sig h => hn.trans (hlen sig h)) hstack hW (by rw [hb]; exact hdg)
    (fun vm₁ hW₁ => ⟨hf.1, hf.2, hPc (T.setVm vm₁) hT hW₁⟩)
  dsimp only [Pt.U, Pt.locs, Pt.cells, Pt.slots] at X' e1 e2 h1 h2 h3 st
  subst h1; subst h2; subst h3
  exact ⟨v, (T.setVm vm₁).calling g' mk (Value.ref b :: As).toArray, t, U', L, hT, X', hL, e1, e2, hq, st⟩
section
variable {y : MethodName} {bytes cc : ByteArray} {maxL nL mc ms n index : Nat} {ret : Option FieldType} {ws : List Cond} {rm : Room} {Pc : Array Value → State → Prop} {Qc : Array Value → State → Outcome → State → Prop} {XC : String → State → State → Prop} {free : Addr → Prop} {Ts : List Cond} {own C : String} {b : Addr} {As rest : List Value} {g : JFrame}
theorem vx_runVX {hh : List (Nat × Nat × Nat × Nat)} (S : CallFix p m c cc nL s args Ts own) (hM : vx_Met l y ws rm Pc Qc XC mc ms free) (cw : vx_CVW R s args own C index y bytes maxL ret hh ws rm mc ms n) (hp : PreV s H C b Pc As)
    (hg : g.method = m) (hn : As.length = n) (hsize : g.locals.size = nL) (hstack : g.stack = As.reverse ++ .ref b :: rest) (hW : 2 * g.monitorRoom + (rest.map fun v => v.category).sum ≤ 8) (hdg : decode cc g.pc = .ok (.invokevirtual index, 3)) (hf : cells + mc ≤ R.cells ∧ slots + ms ≤ R.slots) :
    vx_Run p l e R s m args below meth c H locs cells slots mc ms g rest (Qc (Value.ref b :: As).toArray) XC free := by
  obtain ⟨⟨hrc, hrs, hfr, hlo, hws, hcw⟩, hcode, hini, hy, hlen, hl, hin, hse⟩ := cw
  have hK : vx_Back l R p e below s args y 3 8 (PreOf R mc ms Pc) (PostOf Qc mc ms free) (vx_Post XC mc ms free) := vx_backW (hh := hh) (bytes := bytes) (maxL := maxL) (ret := ret) hM hp.1 hrc hrs hfr hlo hws hcw (fun a' U hW => word_at hW (Or.inl (by first | rfl | simp [Cond.onTables, Cond.keeps, Cond.steady])) hini)
  obtain ⟨hx, hb, hml, ho, -⟩ := S
  obtain ⟨-, ⟨cellB, hcB, hoB, hclB⟩, hPc⟩ := hp
  intro T hT X
  rcases vx_callVX X hx (C := C) (hh := hh) (bytes := bytes) (maxL := maxL) (ret := ret) ho hl hin hse hcode hy hK (by rw [hT]; exact hcB) hoB hclB hg (hsize.trans hml.symm) (argsL := As) (rest := rest) (fun sig h => hn.trans (hlen sig h)) hstack hW (by rw [hb]; exact hdg)
    (fun vm₁ hW₁ => ⟨hf.1, hf.2, hPc (T.setVm vm₁) hT hW₁⟩) with ⟨v, vm₁, ⟨U', l2, c2, s2⟩, hW₁, X', ⟨g', mk, t, L, e1, e2, hq, h1, hL, h2, h3⟩, st⟩ | ⟨q, vm₁, ⟨U', l2, c2, s2⟩, hW₁, X', ⟨g', mk, t, L, E, ce, e1, e2, hq, hce, hcv, hcl, h1, hL, h2, h3⟩, st⟩
  · dsimp only [Pt.U, Pt.locs, Pt.cells, Pt.slots] at X' e1 e2 h1 h2 h3 st
    subst h1; subst h2; subst h3
    exact Or.inl ⟨v, (T.setVm vm₁).calling g' mk (Value.ref b :: As).toArray, t, U', L, hT, X', hL, e1, e2, hq, st⟩
  · dsimp only [Pt.U, Pt.locs, Pt.cells, Pt.slots] at X' e1 e2 h1 h2 h3 st hcl
    subst h1; subst h2; subst h3
    exact Or.inr ⟨q, (T.setVm vm₁).calling g' mk (Value.ref b :: As).toArray, t, U', L, E, ce, hT, X', hL, e1, e2, hq, hce, hcv, vx_cls hW₁ hcl, st⟩
theorem vx_runSX {hh : List (Nat × Nat × Nat × Nat)} (S : CallFix p m c cc nL s args Ts own) (hM : vx_Met l y ws rm Pc Qc XC mc ms free) (cw : vx_CSW R s args own index y bytes maxL ret hh ws rm mc ms n) (hp : PreS s H Pc As)
    (hg : g.method = m) (hn : As.length = n) (hsize : g.locals.size = nL) (hstack : g.stack = As.reverse ++ rest) (hW : 2 * g.monitorRoom + (rest.map fun v => v.category).sum ≤ 8) (hdg : decode cc g.pc = .ok (.invokestatic index, 3)) (hf : cells + mc ≤ R.cells ∧ slots + ms ≤ R.slots) :
    vx_Run p l e R s m args below meth c H locs cells slots mc ms g rest (Qc As.toArray) XC free := by
  obtain ⟨⟨hrc, hrs, hfr, hlo, hws, hcw⟩, hcode, hini, hy, hlen, hl, hstt⟩ := cw
  have hK : vx_Back l R p e below s args y 3 8 (PreOf R mc ms Pc) (PostOf Qc mc ms free) (vx_Post XC mc ms free) := vx_backW (hh := hh) (bytes := bytes) (maxL := maxL) (ret := ret) hM hp.1 hrc hrs hfr hlo hws hcw (fun a' U hW => word_at hW (Or.inl (by first | rfl | simp [Cond.onTables, Cond.keeps, Cond.steady])) hini)
  obtain ⟨hx, hb, hml, ho, -⟩ := S
  intro T hT X
  rcases vx_callSX X hx (hh := hh) (bytes := bytes) (maxL := maxL) (ret := ret) ho hl hstt hini hcode hy hK hg (hsize.trans hml.symm) (argsL := As) (rest := rest) (fun sig h => hn.trans (hlen sig h)) hstack hW (by rw [hb]; exact hdg)
    (fun vm₁ hW₁ => ⟨hf.1, hf.2, hp.2 (T.setVm vm₁) hT hW₁⟩) with ⟨v, vm₁, ⟨U', l2, c2, s2⟩, hW₁, X', ⟨g', mk, t, L, e1, e2, hq, h1, hL, h2, h3⟩, st⟩ | ⟨q, vm₁, ⟨U', l2, c2, s2⟩, hW₁, X', ⟨g', mk, t, L, E, ce, e1, e2, hq, hce, hcv, hcl, h1, hL, h2, h3⟩, st⟩
  · dsimp only [Pt.U, Pt.locs, Pt.cells, Pt.slots] at X' e1 e2 h1 h2 h3 st
    subst h1; subst h2; subst h3
    exact Or.inl ⟨v, (T.setVm vm₁).calling g' mk As.toArray, t, U', L, hT, X', hL, e1, e2, hq, st⟩
  · dsimp only [Pt.U, Pt.locs, Pt.cells, Pt.slots] at X' e1 e2 h1 h2 h3 st hcl
    subst h1; subst h2; subst h3
    exact Or.inr ⟨q, (T.setVm vm₁).calling g' mk As.toArray, t, U', L, E, ce, hT, X', hL, e1, e2, hq, hce, hcv, vx_cls hW₁ hcl, st⟩
end
end VXH
theorem vx_ofWH {l : Launch} {y : MethodName} {ws ws' : List Cond} {rm : Room} {Pc : Array Value → State → Prop} {Qc : Array Value → State → Outcome → State → Prop} {XC : String → State → State → Prop} {mc ms : Nat} {free : Addr → Prop} {cc : ByteArray} {maxL : Nat} {ret : Option FieldType} {hh : List (Nat × Nat × Nat × Nat)}
    (hy : plainName y.cls = true) (hw : ws = Cond.codeWith y cc maxL ret hh :: ws')
    (body : ∀ p e s m args below meth c s₁, BodyLoose p l y (headSpec ws rm) cc maxL ret e s m args below meth c s₁ → c.maxLocals = maxL → Pc args s →
      W p l e (headSpec ws rm).room s m args below meth c s.heap [] 0 0 (vx_MQ below Qc XC args s mc ms free) (entryFrame m args maxL)) : vx_Met l y ws rm Pc Qc XC mc ms free := by
  refine MetFree.of_bodyS (code := cc) (maxLocals := maxL) (ret := ret) hy ?_ ?_
  · intro args s m h hn
    obtain ⟨m9, meth, c, hn9, h1, h2, h3, h4, -, h5, h6, -⟩ := Cond.codeWith_spec (atoms_spec (ws := ws) h _ (by rw [hw]; exact List.mem_cons_self))
    cases hn.symm.trans hn9
    exact ⟨meth, c, h1, h2, h3, h4, h5, h6⟩
  · intro p e s m args below meth c s₁ B hml hP _
    have hh0 : s₁.heap = s.heap := by rw [B.state]; rfl
    obtain ⟨t, a1, o, b1, b2, b3⟩ := body p e s m args below meth c s₁ B hml hP s₁ hh0 (Stand.of_body B)
    exact ⟨t, o, a1, b1, b2, b3⟩
/-! ===== END ===== -/
/-! ===== BEGIN what the machine throws by itself, no traces kept ===== -/
section VXM
set_option maxHeartbeats 1000000 in
/-- the machine throws cls with the message text, no traces kept: from its note over the frame g to 'throwing' over the same frame (follows the proofs of Stand.vmThrowsMessage, Shelf/KitTracedVmS.lean, and Stand.throwsMessageColdBareV, StandMessageColdV.lean, without the step out of the frame) -/
theorem vx_vmAt {p : Program} {l : Launch} {e : Env} {R : Room} {s : State} {m₀ : MethodId} {args : Array Value} {below : List Frame} {meth : Method} {c : Code} {W : State} {locs : List Loc} {cells slots : Nat}
    (X : Stand p l e R s m₀ args below meth c W locs cells slots) (hexec : p.tables.exec = Jvm.exec) (htr : e.platform.stackTraces = false) {cls : String} {names : List String} {text : String}
    (hcls : Bundle.fit cls = true) (hnames : ∀ n ∈ names, Bundle.fit n = true) (hsoe : (cls == "java/lang/StackOverflowError") = false) (hoom : (cls == "java/lang/OutOfMemoryError") = false)
    (h : ∀ a ∈ Bundle.messageArmAtoms cls names, a.before args s = true)
    (hlocs : ∀ x ∈ locs, ∀ cell, s.heap[x.base]? = some cell → cell.vm.isStatics = false)
    (htext : (text == notModelled) = false) (hlimit : ¬ (stringBytes (stringToUtf16 text)).size > e.platform.arrayLengthLimit) (hheap : ¬ (stringBytes (stringToUtf16 text)).size * componentBytes .byte > e.platform.maxHeapBytes)
    {g : JFrame} (hg : g.method = m₀) (hsize : g.locals.size = c.maxLocals)
    (hRframes : names.length + 4 < R.frames) (hRlocals : 2 * g.monitorRoom + (g.stack.map fun v => v.category).sum + 10240 ≤ R.locals) (hshort : 13 * names.length + 55 ≤ 10240)
    (hRcells : cells + 3 ≤ R.cells) (hRslots : slots + ((stringBytes (stringToUtf16 text)).size + 4 + 6) ≤ R.slots) (hlocks : meth.locks = false) :
    ∃ (S : State) (q : Addr) (ce : Cell), (∀ target, Steps p.tables e below ((S.setTop g).pushFrame (.throwing q)) target → Steps p.tables e below ((W.setTop g).pushFrame (.throwNew cls (some text) none)) target) ∧
      Stand p l e R s m₀ args below meth c S locs (cells + 3) (slots + ((stringBytes (stringToUtf16 text)).size + 4 + 6)) ∧ S.heap[q]? = some ce ∧ s.vm.findClass cls = some ce.cls ∧ ce.vm = .none := by
  have howns : e.platform.frameOwnsMonitors = true := by rw [X.admits.platform]
  have hfin : e.platform.finalization = false := by rw [X.admits.platform]
  have hpl : e.platform.magicAccessors = ({} : Platform).magicAccessors := by rw [X.admits.platform]
  have a : ∀ x, x ∈ Bundle.messageArmAtoms cls names → x.holds args s none s [] = true := fun x hx => h x hx
  obtain ⟨T, Z0, L, -, Y⟩ := ThrowableC.of_atoms (args := args) howns hfin hpl (fun x hx => h x (by simp [Bundle.messageArmAtoms, hx]))
  obtain ⟨Z, M, LZ, LM, hnZ⟩ := Init0T.ofS_atoms (args := args) hpl L Y (fun x hx => h x (by simp [Bundle.messageArmAtoms, hx]))
  obtain ⟨P1, Ps, hlen, L1, hL, hP1m, hlink1, hlink⟩ := Bundle.chainS (args := args) hpl hnZ names cls hcls hnames (fun x hx => h x (by simp [Bundle.messageArmAtoms, hx]))
  obtain ⟨Zs, LZs, hn4, hfitv, hfitc⟩ := StringT.of_atoms (args := args) (fun x hx => h x (by simp [Bundle.messageArmAtoms, hx]))
  have hfound : s.vm.findClass cls = some P1.m.cls := findClass_of_methodNamed hP1m
  obtain ⟨c1, kX, hc1, hk, hord, -, -, hn6⟩ := Cond.instantiable_spec (a (.instantiable cls 6) (by simp [Bundle.messageArmAtoms]))
  cases Option.some.inj (hc1.symm.trans hfound)
  have hinit := Cond.initialized_spec hfound hk (a (.initialized cls) (by simp [Bundle.messageArmAtoms]))
  have hctor : kX.findMethod "<init>" "(Ljava/lang/String;)V" = some P1.m.idx := findMethod_of_methodNamed hP1m hk
  have hsel0 : selectMethod e.platform s.vm P1.m.cls T.fill0 = .method T.fill0 := by
    obtain ⟨c2, r2, m2, q1, q2, q3, q4, -⟩ := Cond.selects_spec (a (.selects cls Bundle.tFill0 Bundle.tFill0) (by simp [Bundle.messageArmAtoms]))
    cases Option.some.inj (q1.symm.trans hfound)
    cases Option.some.inj (q2.symm.trans (State.methodFound?_of_named Y.fill0 (by decide)))
    cases Option.some.inj (q3.symm.trans Y.fill0)
    rw [Launch.admits_selectMethod X.admits]; exact q4
  have hselF : selectMethod e.platform s.vm P1.m.cls T.fill = .method T.fill := by
    obtain ⟨c2, r2, m2, q1, q2, q3, q4, -⟩ := Cond.selects_spec (a (.selects cls Bundle.tFill Bundle.tFill) (by simp [Bundle.messageArmAtoms]))
    cases Option.some.inj (q1.symm.trans hfound)
    cases Option.some.inj (q2.symm.trans (State.methodFound?_of_named Y.fill (by decide)))
    cases Option.some.inj (q3.symm.trans Y.fill)
    rw [Launch.admits_selectMethod X.admits]; exact q4
  obtain ⟨cellS0, hcS0, hiss⟩ := Y.statics
  obtain ⟨u0, hu0⟩ := Cond.staticRefV Y.unassigned L.unassignedStatic L.statics hcS0 hiss (a (.isRef (.static Bundle.tN "UNASSIGNED_STACK" Bundle.steD)) (by simp [Bundle.messageArmAtoms]))
  obtain ⟨sen, hsen⟩ := Cond.staticRefV Y.sentinel L.sentinelStatic L.statics hcS0 hiss (a (.isRef (.static Bundle.tN "SUPPRESSED_SENTINEL" Bundle.listD)) (by simp [Bundle.messageArmAtoms]))
  obtain ⟨ci198, i198, fB, hk198, hg198, ha198, hsB, -, hnB, htB, hffB⟩ := Cond.ownField (t := .object "java/lang/Object") Y.found L.cls (by decide +kernel) (a (.fieldLink Bundle.tN 198 Bundle.tN "backtrace" "Ljava/lang/Object;") (by simp [Bundle.messageArmAtoms])) (a (.lays Bundle.tN Bundle.tN "backtrace" "Ljava/lang/Object;") (by simp [Bundle.messageArmAtoms])) e.platform hpl
  obtain ⟨cellS, hcS', heS, -, hkeep⟩ := X.same.2.2.2.2.2 T.aS cellS0 hcS0
  have hcellS : W.heap[T.aS]? = some cellS := hcS'
  have hout' : ∀ i, (⟨T.aS, i⟩ : Loc) ∉ locs := fun i hmem => by
    have := hlocs _ hmem cellS0 hcS0
    rw [hiss] at this; cases this
  have hknownS : cellS.vm ≠ .unknown := by
    rw [heS]; intro hu
    rw [show cellS0.vm = .unknown from hu] at hiss
    cases hiss
  have hvU : cellS.slots[T.fUnassigned.slot]? = some u0.v := by rw [hkeep _ (hout' _)]; exact hu0
  have hvSen : cellS.slots[T.fSentinel.slot]? = some sen.v := by rw [hkeep _ (hout' _)]; exact hsen
  obtain ⟨iM, hffM⟩ := Y.msg
  obtain ⟨tyC, dC, hdC, hdnC⟩ := Cond.laysAt hfound hk Y.cause (a (.lays cls Bundle.tN "cause" "Ljava/lang/Throwable;") (by simp [Bundle.messageArmAtoms]))
  obtain ⟨tyS, dS, hdS, hdnS⟩ := Cond.laysAt hfound hk Y.stack (a (.lays cls Bundle.tN "stackTrace" Bundle.steD) (by simp [Bundle.messageArmAtoms]))
  obtain ⟨tyP, dP, hdP, hdnP⟩ := Cond.laysAt hfound hk Y.supp (a (.lays cls Bundle.tN "suppressedExceptions" Bundle.listD) (by simp [Bundle.messageArmAtoms]))
  obtain ⟨tyM, dM, hdM, hdnM⟩ := Cond.laysAt hfound hk hffM (a (.lays cls Bundle.tN "detailMessage" "Ljava/lang/String;") (by simp [Bundle.messageArmAtoms]))
  obtain ⟨tyB, dB, hdB, hdnB⟩ := Cond.laysAt hfound hk hffB (a (.lays cls Bundle.tN "backtrace" "Ljava/lang/Object;") (by simp [Bundle.messageArmAtoms]))
  have bC := Cond.laysApart hdB hdC hdnB hdnC (by rw [hnB, Y.causeName]; decide)
  have bS := Cond.laysApart hdB hdS hdnB hdnS (by rw [hnB, Y.stackName]; decide)
  have bP := Cond.laysApart hdB hdP hdnB hdnP (by rw [hnB, Y.suppName]; decide)
  have hbk : ((preparedCellV T.toThrowableT (freshCell P1.m.cls kX) (W.heap.size + 2) u0 sen).withEntry W.cur).slots[fB.slot]? = some .null := by
    have := fresh_default (c := P1.m.cls) tyB
    rw [htB] at this
    simpa [preparedCellV, Cell.setSlot, Cell.withEntry, Array.getElem?_setIfInBounds, bC, bS, bP, bC.symm, bS.symm, bP.symm, defaultValue] using this
  have tkC := Takes.of_laid (v := .ref (W.heap.size + 2)) hk hord tyC (by rw [Y.causeType]; rfl)
  have tkS := Takes.of_laid (v := u0.v) hk hord tyS (by rw [Y.stackType]; exact fits_refV_array _ u0)
  have tkP := Takes.of_laid (v := sen.v) hk hord tyP (by rw [Y.suppType]; exact fits_refV_object _ sen)
  have tkM := Takes.of_laid (v := .ref (W.heap.size + 1)) hk hord tyM (by rw [Y.msgType]; rfl)
  have hskip : SkipFacts T e.platform s (fun u => u) u0 ((preparedCellV T.toThrowableT (freshCell P1.m.cls kX) (W.heap.size + 2) u0 sen).withEntry W.cur) := ⟨{ ci198 := ci198, i198 := i198, fBack := fB }, ⟨hk198, hg198, ha198, hsB⟩, hbk, fun _ _ => rfl⟩
  have h0 : At W g.method c below := by rw [hg]; exact X.here
  obtain ⟨hbeyond, hfreeW⟩ := X.vmMayThrow hsize (.throwNew cls (some text) none) (fun f hf => by cases hf) rfl hRlocals
  have hfr' : W.frames.length + Ps.length + 4 < (e.platform.stackLimits W.me).1 := by have := X.framesAbove hRframes; omega
  have hwd' : (stackUse (.java g :: W.frames.tail)).2 + 13 * Ps.length + 55 ≤ (e.platform.stackLimits W.me).2 := by have := X.stackAbove hsize (K := 13 * Ps.length + 55) (by omega); omega
  have hslots : W.slotsUsed + (stringBytes (stringToUtf16 text)).size + Zs.kS.instanceTypes.size + kX.instanceTypes.size ≤ e.platform.maxSlots := by
    have := X.slotsAbove hRslots
    rw [hn4, hn6]
    omega
  obtain ⟨vm', hW', st⟩ := Steps.vmThrowsMessageColdByV p (s₀ := s) (S := W) (g := g) h0 hexec T L Z LZ M LM X.warmed (t := W.cur) rfl Zs LZs P1 L1 Ps hL hlink1 hlink hsoe hoom hfound hk hinit hord hctor
    (Launch.admits_hotImplicitExceptions X.admits) hbeyond hfreeW htext hlimit hheap (X.cellsAbove hRcells) hslots (hfitv _) (hfitc _)
    (Nn := fun u => u) heapOnly_id (fun _ _ => rfl) (fun _ => rfl) (fun u x y => setCell_twice _ _ _ _) (fun _ => Nat.le_refl _) (cN := ((preparedCellV T.toThrowableT (freshCell P1.m.cls kX) (W.heap.size + 2) u0 sen).withEntry W.cur))
    hsel0 hcellS hknownS hvU tkS (fun _ hu => hu) (fun _ hu => hu) rfl rfl rfl (by simp [preparedCellV, Cell.setSlot, Cell.withEntry]) hskip (fun _ _ hA hW _ hroom _ hrest => L.nativeOff p htr hA hW hroom hrest) hselF hvSen tkC tkP tkM Y.objLocals rfl hfr' hwd'
  rw [plainBareV_eq T.toThrowableT (W.heap.size + 2) u0 sen (.ref (W.heap.size + 1)) W.cur rfl rfl] at st
  obtain ⟨-, -, w3, w4, -, -, -⟩ := withThrown_facts e.platform W Zs text P1.m.cls kX
  have X3 := ((X.pushed (bytesOf Zs.cB (stringToUtf16 text))).pushed (stringAt Zs.cS Zs.kS Zs.fv Zs.fc (stringToUtf16 text) W.heap.size)).pushed (freshCell P1.m.cls kX)
  rw [← withString_eq] at X3
  have X4 := X3.noted hW'
  have ha : (W.heap.size + 2) < ((withThrown W Zs text P1.m.cls kX).setVm vm').heap.size := by show _ < (withThrown W Zs text P1.m.cls kX).heap.size; rw [w3]; omega
  have hcell : ((withThrown W Zs text P1.m.cls kX).setVm vm').heap[(W.heap.size + 2)]? = some (freshCell P1.m.cls kX) := w4
  have X5 := ((((X4.stored hcell T.fCause.slot (.ref (W.heap.size + 2))).storedAgain ha T.fStack.slot u0.v).storedAgain ha T.fSupp.slot sen.v).storedAgain ha T.fStack.slot u0.v).storedAgain ha T.fMsg.slot (.ref (W.heap.size + 1))
  obtain ⟨g₁, hfrM⟩ := X5.frames_eq
  have hU : ((((withThrown W Zs text P1.m.cls kX).setVm vm').setCell (W.heap.size + 2) (plainBareV T.toThrowableT (freshCell P1.m.cls kX) (W.heap.size + 2) u0 sen (.ref (W.heap.size + 1)))).setTop g).pushFrame (.throwing (W.heap.size + 2)) = (((withThrown W Zs text P1.m.cls kX).setVm vm').setCell (W.heap.size + 2) (plainBareV T.toThrowableT (freshCell P1.m.cls kX) (W.heap.size + 2) u0 sen (.ref (W.heap.size + 1)))).setFrames (.throwing (W.heap.size + 2) :: .java g :: below) := by
    rw [State.pushFrame, State.frames_setTop _ hfrM, State.setTop_of_frames _ hfrM, State.setFrames_setFrames]
  have b1 : (bytesOf Zs.cB (stringToUtf16 text)).slots.size = (stringBytes (stringToUtf16 text)).size := by
    rw [(Cell.writeAll_facts _ _).2.2]; simp [bytes0]
  have b2 : (stringAt Zs.cS Zs.kS Zs.fv Zs.fc (stringToUtf16 text) W.heap.size).slots.size = 4 := by simp [string0, Cell.setSlot, hn4]
  have b3 : (freshCell P1.m.cls kX).slots.size = 6 := by simp [hn6]
  rw [b1, b2, b3] at X5
  have e9 : slots + (stringBytes (stringToUtf16 text)).size + 4 + 6 = slots + ((stringBytes (stringToUtf16 text)).size + 4 + 6) := by omega
  rw [e9] at X5
  simp only [List.append_assoc, List.cons_append, List.nil_append] at X5
  refine ⟨((withThrown W Zs text P1.m.cls kX).setVm vm').setCell (W.heap.size + 2) (plainBareV T.toThrowableT (freshCell P1.m.cls kX) (W.heap.size + 2) u0 sen (.ref (W.heap.size + 1))), W.heap.size + 2, _, fun target ht => st _ (by rw [X.tail, ← hU]; exact ht),
    X5.forget (fun y hy => ?_), heapAt_setCell_self _ ha, hfound, rfl⟩
  simp only [List.mem_cons, List.not_mem_nil, or_false] at hy
  have hge : s.heap.size ≤ W.heap.size := X.same.2.1
  rcases hy with rfl | rfl | rfl | rfl | rfl <;> exact Nat.le_trans hge (Nat.le_add_right _ 2)
set_option maxHeartbeats 1000000 in
/-- the machine throws NullPointerException, no traces kept: from its note over the frame g to 'throwing' over the same frame (follows the proof of Stand.vmThrowsNpe, Shelf42/KT2.lean; throwsNpeColdBareVAt, Shelf42/NT91.lean, called) -/
theorem vx_npeAt {p : Program} {l : Launch} {e : Env} {R : Room} {s : State} {m₀ : MethodId} {args : Array Value} {below : List Frame} {meth : Method} {c : Code} {W : State} {locs : List Loc} {cells slots : Nat}
    (X : Stand p l e R s m₀ args below meth c W locs cells slots) (hexec : p.tables.exec = Jvm.exec) (htr : e.platform.stackTraces = false) {n : Nat}
    (h : ∀ a ∈ Bundle.npeArmAtoms n, a.before args s = true)
    (hlocs : ∀ x ∈ locs, ∀ cell, s.heap[x.base]? = some cell → cell.vm.isStatics = false)
    {g : JFrame} (hg : g.method = m₀) (hsize : g.locals.size = c.maxLocals)
    (hRframes : 7 < R.frames) (hRlocals : 2 * g.monitorRoom + (g.stack.map fun v => v.category).sum + 10240 ≤ R.locals)
    (hRcells : cells + 1 ≤ R.cells) (hRslots : slots + n ≤ R.slots) (hlocks : meth.locks = false) :
    ∃ (S : State) (q : Addr) (ce : Cell), (∀ target, Steps p.tables e below ((S.setTop g).pushFrame (.throwing q)) target → Steps p.tables e below ((W.setTop g).pushFrame (.throwNew "java/lang/NullPointerException" none none)) target) ∧
      Stand p l e R s m₀ args below meth c S locs (cells + 1) (slots + n) ∧ S.heap[q]? = some ce ∧ s.vm.findClass "java/lang/NullPointerException" = some ce.cls ∧ ce.vm = .none := by
  have howns : e.platform.frameOwnsMonitors = true := by rw [X.admits.platform]
  have hfin : e.platform.finalization = false := by rw [X.admits.platform]
  have hpl : e.platform.magicAccessors = ({} : Platform).magicAccessors := by rw [X.admits.platform]
  have hpl2 : e.platform.arrayCloneIsPublic = true := by rw [X.admits.platform]
  have a' : ∀ x, x ∈ Bundle.npeArmAtoms n → x.holds args s none s [] = true := fun x hx => h x hx
  obtain ⟨T, Z, L, LZ, Y⟩ := ThrowableC.of_atoms (args := args) howns hfin hpl (fun x hx => h x (by simp [Bundle.npeArmAtoms, hx]))
  obtain ⟨N, LN, hcN, hnNF, hordN, hffS⟩ := NpeC.of_atoms (args := args) hpl hpl2 L Y (fun x hx => h x (by simp [Bundle.npeArmAtoms, hx]))
  obtain ⟨P1, L1, hP1m, hP1s⟩ := PassC.of_atoms (args := args) (s := s) hpl (X := Bundle.nN) (Y := Bundle.rN) (by decide) (by decide) LibCode.NullPointerException.Init0.at_0 LibCode.NullPointerException.Init0.at_1 LibCode.NullPointerException.Init0.at_4 (fun x hx => h x (by simp [Bundle.npeArmAtoms, hx]))
  obtain ⟨PR, LR, hPRm, hPRs⟩ := PassC.of_atoms (args := args) (s := s) hpl (X := Bundle.rN) (Y := Bundle.eN) (by decide) (by decide) LibCode.RuntimeException.Init0.at_0 LibCode.RuntimeException.Init0.at_1 LibCode.RuntimeException.Init0.at_4 (fun x hx => h x (by simp [Bundle.npeArmAtoms, hx]))
  obtain ⟨PE, LEx, hPEm, hPEs⟩ := PassC.of_atoms (args := args) (s := s) hpl (X := Bundle.eN) (Y := Bundle.tN) (by decide) (by decide) LibCode.Exception.Init0.at_0 LibCode.Exception.Init0.at_1 LibCode.Exception.Init0.at_4 (fun x hx => h x (by simp [Bundle.npeArmAtoms, hx]))
  have hfound : s.vm.findClass Bundle.nN = some P1.m.cls := findClass_of_methodNamed hP1m
  have ecls : N.cN = P1.m.cls := Option.some.inj (hcN.symm.trans hfound)
  have hk : s.vm.classes[P1.m.cls]? = some N.kN := by rw [← ecls]; exact LN.cls
  have hinit := Cond.initialized_spec hfound hk (a' (.initialized Bundle.nN) (by simp [Bundle.npeArmAtoms]))
  have hctor : N.kN.findMethod "<init>" "()V" = some P1.m.idx := findMethod_of_methodNamed hP1m hk
  obtain ⟨c1, k1, hc1, hk1, -, -, -, hn⟩ := Cond.instantiable_spec (a' (.instantiable Bundle.nN n) (by simp [Bundle.npeArmAtoms]))
  cases Option.some.inj (hc1.symm.trans hfound)
  cases Option.some.inj (hk1.symm.trans hk)
  have hfsz : (freshCell P1.m.cls N.kN).slots.size = n := by simp [hn]
  have hlink1 : P1.sup = PR.m := Option.some.inj (hP1s.symm.trans hPRm)
  have hlinkR : PR.sup = PE.m := Option.some.inj (hPRs.symm.trans hPEm)
  have hlinkE : PE.sup = Z.m T.toThrowableT := Option.some.inj (hPEs.symm.trans Y.init0)
  have hLs : ∀ P, P ∈ [PR, PE] → P.Links0 e.platform s := fun P hP => by
    simp only [List.mem_cons, List.not_mem_nil, or_false] at hP
    rcases hP with rfl | rfl
    · exact LR
    · exact LEx
  have hsel0 : selectMethod e.platform s.vm P1.m.cls T.fill0 = .method T.fill0 := by
    obtain ⟨c2, r2, m2, q1, q2, q3, q4, -⟩ := Cond.selects_spec (a' (.selects Bundle.nN Bundle.tFill0 Bundle.tFill0) (by simp [Bundle.npeArmAtoms]))
    cases Option.some.inj (q1.symm.trans hfound)
    cases Option.some.inj (q2.symm.trans (State.methodFound?_of_named Y.fill0 (by decide)))
    cases Option.some.inj (q3.symm.trans Y.fill0)
    rw [Launch.admits_selectMethod X.admits]; exact q4
  have hselF : selectMethod e.platform s.vm P1.m.cls T.fill = .method N.fill := by
    obtain ⟨c2, r2, m2, q1, q2, q3, q4, -⟩ := Cond.selects_spec (a' (.selects Bundle.nN Bundle.tFill Bundle.nFill) (by simp [Bundle.npeArmAtoms]))
    cases Option.some.inj (q1.symm.trans hfound)
    cases Option.some.inj (q2.symm.trans (State.methodFound?_of_named Y.fill (by decide)))
    cases Option.some.inj (q3.symm.trans hnNF)
    rw [Launch.admits_selectMethod X.admits]; exact q4
  obtain ⟨cellS0, hcS0, hiss⟩ := Y.statics
  obtain ⟨u0, hu0⟩ := Cond.staticRefV Y.unassigned L.unassignedStatic L.statics hcS0 hiss (a' (.isRef (.static Bundle.tN "UNASSIGNED_STACK" Bundle.steD)) (by simp [Bundle.npeArmAtoms]))
  obtain ⟨sen, hsen⟩ := Cond.staticRefV Y.sentinel L.sentinelStatic L.statics hcS0 hiss (a' (.isRef (.static Bundle.tN "SUPPRESSED_SENTINEL" Bundle.listD)) (by simp [Bundle.npeArmAtoms]))
  obtain ⟨ci198, i198, fB, hk198, hg198, ha198, hsB, -, hnB, htB, hffB⟩ := Cond.ownField (t := .object "java/lang/Object") Y.found L.cls (by decide +kernel) (a' (.fieldLink Bundle.tN 198 Bundle.tN "backtrace" Bundle.objD) (by simp [Bundle.npeArmAtoms])) (a' (.lays Bundle.tN Bundle.tN "backtrace" Bundle.objD) (by simp [Bundle.npeArmAtoms])) e.platform hpl
  obtain ⟨cellS, hcS', heS, -, hkeep⟩ := X.same.2.2.2.2.2 T.aS cellS0 hcS0
  have hcellS : W.heap[T.aS]? = some cellS := hcS'
  have hout' : ∀ i, (⟨T.aS, i⟩ : Loc) ∉ locs := fun i hmem => by
    have := hlocs _ hmem cellS0 hcS0
    rw [hiss] at this; cases this
  have hknownS : cellS.vm ≠ .unknown := by
    rw [heS]; intro hu
    rw [show cellS0.vm = .unknown from hu] at hiss
    cases hiss
  have hvU : cellS.slots[T.fUnassigned.slot]? = some u0.v := by rw [hkeep _ (hout' _)]; exact hu0
  have hvSen : cellS.slots[T.fSentinel.slot]? = some sen.v := by rw [hkeep _ (hout' _)]; exact hsen
  obtain ⟨tyC, dC, hdC, hdnC⟩ := Cond.laysAt hfound hk Y.cause (a' (.lays Bundle.nN Bundle.tN "cause" "Ljava/lang/Throwable;") (by simp [Bundle.npeArmAtoms]))
  obtain ⟨tyS, dS, hdS, hdnS⟩ := Cond.laysAt hfound hk Y.stack (a' (.lays Bundle.nN Bundle.tN "stackTrace" Bundle.steD) (by simp [Bundle.npeArmAtoms]))
  obtain ⟨tyP, dP, hdP, hdnP⟩ := Cond.laysAt hfound hk Y.supp (a' (.lays Bundle.nN Bundle.tN "suppressedExceptions" Bundle.listD) (by simp [Bundle.npeArmAtoms]))
  obtain ⟨tyX, dX, hdX, hdnX⟩ := Cond.laysAt hfound hk hffS (a' (.lays Bundle.nN Bundle.nN "extendedMessageState" "I") (by simp [Bundle.npeArmAtoms, Bundle.npeAtoms]))
  obtain ⟨hnX, htX⟩ := State.fieldFound?_type hffS (t := .int) (by decide +kernel)
  have xC := Cond.laysApart hdC hdX hdnC hdnX (by rw [hnX, Y.causeName]; decide)
  have xS := Cond.laysApart hdS hdX hdnS hdnX (by rw [hnX, Y.stackName]; decide)
  have xP := Cond.laysApart hdP hdX hdnP hdnX (by rw [hnX, Y.suppName]; decide)
  have hv0 : (freshCell P1.m.cls N.kN).slots[N.fState.slot]? = some (.int 0) := by
    have := fresh_default (c := P1.m.cls) tyX
    rw [htX] at this; exact this
  obtain ⟨tyB, dB, hdB, hdnB⟩ := Cond.laysAt hfound hk hffB (a' (.lays Bundle.nN Bundle.tN "backtrace" Bundle.objD) (by simp [Bundle.npeArmAtoms]))
  have bC := Cond.laysApart hdB hdC hdnB hdnC (by rw [hnB, Y.causeName]; decide)
  have bS := Cond.laysApart hdB hdS hdnB hdnS (by rw [hnB, Y.stackName]; decide)
  have bP := Cond.laysApart hdB hdP hdnB hdnP (by rw [hnB, Y.suppName]; decide)
  have bX := Cond.laysApart hdB hdX hdnB hdnX (by rw [hnB, hnX]; decide)
  have hbk : ((npeCell N.toNpeT (preparedCellV T.toThrowableT (freshCell P1.m.cls N.kN) W.heap.size u0 sen) W.cur).withEntry W.cur).slots[fB.slot]? = some .null := by
    have := fresh_default (c := P1.m.cls) tyB
    rw [htB] at this
    simpa [npeCell, preparedCellV, Cell.setSlot, Cell.withEntry, Array.getElem?_setIfInBounds, bC, bS, bP, bX, bC.symm, bS.symm, bP.symm, bX.symm, defaultValue] using this
  have tkC := Takes.of_laid (v := .ref W.heap.size) hk hordN tyC (by rw [Y.causeType]; rfl)
  have tkS := Takes.of_laid (v := u0.v) hk hordN tyS (by rw [Y.stackType]; exact fits_refV_array _ u0)
  have tkP := Takes.of_laid (v := sen.v) hk hordN tyP (by rw [Y.suppType]; exact fits_refV_object _ sen)
  have tkX := Takes.of_laid (v := .int 1) hk hordN tyX (by rw [htX]; rfl)
  have hskip : SkipFacts T e.platform s (fun u => u) u0 ((npeCell N.toNpeT (preparedCellV T.toThrowableT (freshCell P1.m.cls N.kN) W.heap.size u0 sen) W.cur).withEntry W.cur) := ⟨{ ci198 := ci198, i198 := i198, fBack := fB }, ⟨hk198, hg198, ha198, hsB⟩, hbk, fun _ _ => rfl⟩
  obtain ⟨vm', X3, st, -⟩ := X.throwsNpeColdBareVAt hexec hg hsize T L Z LZ N LN P1 L1 [PR, PE] hLs hlink1 ⟨hlinkR, hlinkE, trivial⟩ hfound hk hinit hordN hctor hsel0 hselF hcellS hknownS hvU hvSen
    hv0 xC xS xP tkC tkS tkP tkX Y.objLocals hskip (fun _ _ hA hW _ hroom _ hrest => L.nativeOff p htr hA hW hroom hrest) (by simpa using hRframes) hRlocals (by simp) hRcells (by rw [hn]; exact hRslots)
  have hlt : W.heap.size < ((W.pushCell (freshCell P1.m.cls N.kN)).setVm vm').heap.size := by
    show W.heap.size < (W.pushCell (freshCell P1.m.cls N.kN)).heap.size
    rw [State.heap_size_pushCell]; omega
  rw [hfsz] at X3
  obtain ⟨g₁, hfrM⟩ := X3.frames_eq
  have hU : ((((W.pushCell (freshCell P1.m.cls N.kN)).setVm vm').setCell W.heap.size (npeBareV T.toThrowableT N.toNpeT (freshCell P1.m.cls N.kN) W.heap.size u0 sen)).setTop g).pushFrame (.throwing W.heap.size) = (((W.pushCell (freshCell P1.m.cls N.kN)).setVm vm').setCell W.heap.size (npeBareV T.toThrowableT N.toNpeT (freshCell P1.m.cls N.kN) W.heap.size u0 sen)).setFrames (.throwing W.heap.size :: .java g :: below) := by
    rw [State.pushFrame, State.frames_setTop _ hfrM, State.setTop_of_frames _ hfrM, State.setFrames_setFrames]
  refine ⟨_, W.heap.size, _, fun target ht => st.trans (by rw [← hU]; exact ht), X3.forget (fun y hy => ?_), heapAt_setCell_self _ hlt, hfound, rfl⟩
  simp only [List.mem_cons, List.not_mem_nil, or_false] at hy
  have hge : s.heap.size ≤ W.heap.size := X.same.2.1
  rcases hy with rfl | rfl | rfl | rfl | rfl <;> exact hge
/-- the words of a machine's NullPointerException, but the four that speak of the heap -/
def vx_atN (n : Nat) : List Cond := (Bundle.npeArmAtoms n).filter vx_no
/-- the words of a machine's throw with a message, but the four that speak of the heap -/
def vx_atM (X : String) (names : List String) : List Cond := (Bundle.messageArmAtoms X names).filter vx_no
section
variable {p : Program} {l : Launch} {e : Env} {R : Room} {s : State} {m : MethodId} {args : Array Value} {below : List Frame} {meth : Method} {c : Code} {H : Heap} {locs : List Loc} {cells slots : Nat}
/-- a frame seen from a rebased start, seen from the first start again -/
theorem vx_back9 {T S : State} {R' : Room} {k n : Nat} (X : Stand p l e R s m args below meth c T locs cells slots) (Y : Stand p l e R' ((T.setVm s.vm).setFrames (.invoking m args :: below)) m args below meth c T [] 0 0) (Z : Stand p l e R' ((T.setVm s.vm).setFrames (.invoking m args :: below)) m args below meth c S [] k n) :
    Stand p l e R s m args below meth c S locs (cells + k) (slots + n) := by
  have hW0 : s.WarmedH ((T.setVm s.vm).setFrames (.invoking m args :: below)).vm := State.WarmedH.refl s
  refine { admits := X.admits, cas := X.cas, clock := X.clock, frames := X.frames, room := X.room, hears := X.hears, method := X.method, code := X.code, here := Z.here, tail := Z.tail, warmed := State.WarmedH.trans hW0 Z.warmed, limits := Z.limits.trans (Y.limits.symm.trans X.limits), bytes := Z.bytes.trans (Y.bytes.symm.trans X.bytes), same := ?_ }
  obtain ⟨e1, e2⟩ := Z.same
  rw [State.setFrames_setFrames] at e1
  have h2 : (T.setVm s.vm).sameButNew (S.setVm s.vm) [] k n := ⟨e1, e2⟩
  have h3 := X.same.trans h2
  rw [List.append_nil] at h3
  exact h3
/-- from the machine's note that E is thrown here with this text -/
def vx_Note (p : Program) (l : Launch) (e : Env) (R : Room) (s : State) (m : MethodId) (args : Array Value) (below : List Frame) (meth : Method) (c : Code) (H : Heap) (locs : List Loc) (cells slots : Nat) (Q : State → Prop) (g : JFrame) (E text : String) : Prop :=
  ∀ T : State, T.heap = H → Stand p l e R s m args below meth c T locs cells slots → ∃ t, Steps p.tables e below ((T.setTop g).pushFrame (.throwNew E (some text) none)) t ∧ Q t
theorem vx_vm {pc : Nat} {ls : Array Slot} {rest : List Value} {Q : State → Prop} (hexec : p.tables.exec = Jvm.exec) (hl : l.stackTraces = false) {cls text : String} {names : List String} {nb : Nat} {A : Nat → Prop}
    (hcls : Bundle.fit cls = true) (hnames : ∀ n ∈ names, Bundle.fit n = true) (hsoe : (cls == "java/lang/StackOverflowError") = false) (hoom : (cls == "java/lang/OutOfMemoryError") = false)
    (hat : ∀ w ∈ vx_atM cls names, w.before args s = true) (hgood : ∀ w ∈ vx_atM cls names, vx_ot w = true)
    (hU : vx_Zq Bundle.tN "UNASSIGNED_STACK" Bundle.steD A s s.heap) (hN : vx_Zq Bundle.tN "SUPPRESSED_SENTINEL" Bundle.listD A s s.heap) (hS : va_S A s.heap H locs) (hsize : ls.size = c.maxLocals)
    (htext : (text == notModelled) = false) (hnb : (stringBytes (stringToUtf16 text)).size ≤ nb) (hnb1 : nb ≤ 1000)
    (hRframes : names.length + 4 < R.frames) (hRlocals : (rest.map fun v => v.category).sum + 10240 ≤ R.locals) (hshort : 13 * names.length + 55 ≤ 10240) (hRcells : cells + 3 ≤ R.cells) (hRslots : slots + (nb + 10) ≤ R.slots) (hlocks : meth.locks = false)
    (k : ∀ (H1 : Heap) (q9 : Addr) (ce : Cell), H.size ≤ H1.size → (∀ q : Nat, q < H.size → H1[q]? = H[q]?) → va_S A s.heap H1 locs → H1[q9]? = some ce → ce.vm = .none → s.vm.findClass cls = some ce.cls → vx_W p l e R s m args below meth c H1 locs (cells + 3) (slots + (nb + 10)) Q (F0 m pc ls rest) q9) :
    vx_Note p l e R s m args below meth c H locs cells slots Q (F0 m pc ls rest) cls text := by
  intro T hT X
  have htr : e.platform.stackTraces = false := (show e.platform.stackTraces = l.stackTraces by rw [X.admits.platform]).trans hl
  have Y := vx_rebase X (R' := { frames := R.frames, locals := R.locals, cells := 3, slots := nb + 10 }) (Nat.le_refl _) (Nat.le_refl _) hRcells hRslots
  have hhp : ((T.setVm s.vm).setFrames (.invoking m args :: below)).heap = H := hT
  have hW0 : s.WarmedH ((T.setVm s.vm).setFrames (.invoking m args :: below)).vm := State.WarmedH.refl s
  have hat' : ∀ w ∈ vx_atM cls names, w.before args ((T.setVm s.vm).setFrames (.invoking m args :: below)) = true := fun w hw => vx_ot_at hW0 rfl (hgood w hw) (hat w hw)
  have hU' : vx_Zq Bundle.tN "UNASSIGNED_STACK" Bundle.steD A ((T.setVm s.vm).setFrames (.invoking m args :: below)) ((T.setVm s.vm).setFrames (.invoking m args :: below)).heap := by rw [hhp]; exact vx_Zq.moved hW0.alike (hU.kept hS.2.1)
  have hN' : vx_Zq Bundle.tN "SUPPRESSED_SENTINEL" Bundle.listD A ((T.setVm s.vm).setFrames (.invoking m args :: below)) ((T.setVm s.vm).setFrames (.invoking m args :: below)).heap := by rw [hhp]; exact vx_Zq.moved hW0.alike (hN.kept hS.2.1)
  obtain ⟨S, q, ce, st, Z, hce, hcl', hv⟩ := vx_vmAt Y hexec htr (cls := cls) (names := names) (text := text) hcls hnames hsoe hoom (vx_own hat' (vx_isRefq hU'.1) (vx_isRefq hN'.1) hU'.2.word hN'.2.word) (fun x hx => nomatch hx) htext
    (by rw [Launch.admits_arrayLengthLimit X.admits]; omega) (by rw [Launch.admits_maxHeapBytes X.admits]; simp only [componentBytes]; omega)
    (g := F0 m pc ls rest) rfl hsize hRframes (by show 2 * 0 + (rest.map fun v => v.category).sum + 10240 ≤ R.locals; omega) hshort (by show 0 + 3 ≤ 3; omega) (by show 0 + (_ + 4 + 6) ≤ nb + 10; omega) hlocks
  obtain ⟨f1, f2⟩ := vx_frame Z.same
  have f1' : H.size ≤ S.heap.size := by rw [← hT]; exact f1
  have f2' : ∀ q : Nat, q < H.size → S.heap[q]? = H[q]? := fun q hq => by
    rw [← hT]
    exact f2 q (by rw [← hT] at hq; exact hq) (fun z hz => nomatch hz)
  have X5 := vx_back9 X Y Z
  have X6 : Stand p l e R s m args below meth c S locs (cells + 3) (slots + (nb + 10)) := { X5 with same := X5.same.mono (by omega) (by omega) }
  obtain ⟨t, a1, b1⟩ := k S.heap q ce f1' f2' ⟨Nat.le_trans hS.1 f1', fun q h1 h2 => (f2' q (Nat.lt_of_lt_of_le h1 hS.1)).trans (hS.2.1 q h1 h2), hS.2.2⟩ hce hv hcl' S rfl X6
  exact ⟨t, st t a1, b1⟩
/-- from the machine's note that NullPointerException is thrown here -/
def vx_NoteN (p : Program) (l : Launch) (e : Env) (R : Room) (s : State) (m : MethodId) (args : Array Value) (below : List Frame) (meth : Method) (c : Code) (H : Heap) (locs : List Loc) (cells slots : Nat) (Q : State → Prop) (g : JFrame) : Prop :=
  ∀ T : State, T.heap = H → Stand p l e R s m args below meth c T locs cells slots → ∃ t, Steps p.tables e below ((T.setTop g).pushFrame (.throwNew "java/lang/NullPointerException" none none)) t ∧ Q t
theorem vx_npe {pc : Nat} {ls : Array Slot} {rest : List Value} {Q : State → Prop} (hexec : p.tables.exec = Jvm.exec) (hl : l.stackTraces = false) {nb : Nat} {A : Nat → Prop}
    (hat : ∀ w ∈ vx_atN nb, w.before args s = true) (hgood : ∀ w ∈ vx_atN nb, vx_ot w = true)
    (hU : vx_Zq Bundle.tN "UNASSIGNED_STACK" Bundle.steD A s s.heap) (hN : vx_Zq Bundle.tN "SUPPRESSED_SENTINEL" Bundle.listD A s s.heap) (hS : va_S A s.heap H locs) (hsize : ls.size = c.maxLocals)
    (hRframes : 7 < R.frames) (hRlocals : (rest.map fun v => v.category).sum + 10240 ≤ R.locals) (hRcells : cells + 1 ≤ R.cells) (hRslots : slots + nb ≤ R.slots) (hlocks : meth.locks = false)
    (k : ∀ (H1 : Heap) (q9 : Addr) (ce : Cell), H.size ≤ H1.size → (∀ q : Nat, q < H.size → H1[q]? = H[q]?) → va_S A s.heap H1 locs → H1[q9]? = some ce → ce.vm = .none → s.vm.findClass "java/lang/NullPointerException" = some ce.cls → vx_W p l e R s m args below meth c H1 locs (cells + 1) (slots + nb) Q (F0 m pc ls rest) q9) :
    vx_NoteN p l e R s m args below meth c H locs cells slots Q (F0 m pc ls rest) := by
  intro T hT X
  have htr : e.platform.stackTraces = false := (show e.platform.stackTraces = l.stackTraces by rw [X.admits.platform]).trans hl
  have Y := vx_rebase X (R' := { frames := R.frames, locals := R.locals, cells := 1, slots := nb }) (Nat.le_refl _) (Nat.le_refl _) hRcells hRslots
  have hhp : ((T.setVm s.vm).setFrames (.invoking m args :: below)).heap = H := hT
  have hW0 : s.WarmedH ((T.setVm s.vm).setFrames (.invoking m args :: below)).vm := State.WarmedH.refl s
  have hat' : ∀ w ∈ vx_atN nb, w.before args ((T.setVm s.vm).setFrames (.invoking m args :: below)) = true := fun w hw => vx_ot_at hW0 rfl (hgood w hw) (hat w hw)
  have hU' : vx_Zq Bundle.tN "UNASSIGNED_STACK" Bundle.steD A ((T.setVm s.vm).setFrames (.invoking m args :: below)) ((T.setVm s.vm).setFrames (.invoking m args :: below)).heap := by rw [hhp]; exact vx_Zq.moved hW0.alike (hU.kept hS.2.1)
  have hN' : vx_Zq Bundle.tN "SUPPRESSED_SENTINEL" Bundle.listD A ((T.setVm s.vm).setFrames (.invoking m args :: below)) ((T.setVm s.vm).setFrames (.invoking m args :: below)).heap := by rw [hhp]; exact vx_Zq.moved hW0.alike (hN.kept hS.2.1)
  obtain ⟨S, q, ce, st, Z, hce, hcl', hv⟩ := vx_npeAt Y hexec htr (n := nb) (vx_own hat' (vx_isRefq hU'.1) (vx_isRefq hN'.1) hU'.2.word hN'.2.word) (fun x hx => nomatch hx)
    (g := F0 m pc ls rest) rfl hsize hRframes (by show 2 * 0 + (rest.map fun v => v.category).sum + 10240 ≤ R.locals; omega) (by show 0 + 1 ≤ 1; omega) (by show 0 + nb ≤ nb; omega) hlocks
  obtain ⟨f1, f2⟩ := vx_frame Z.same
  have f1' : H.size ≤ S.heap.size := by rw [← hT]; exact f1
  have f2' : ∀ q : Nat, q < H.size → S.heap[q]? = H[q]? := fun q hq => by
    rw [← hT]
    exact f2 q (by rw [← hT] at hq; exact hq) (fun z hz => nomatch hz)
  have X5 := vx_back9 X Y Z
  have X6 : Stand p l e R s m args below meth c S locs (cells + 1) (slots + nb) := { X5 with same := X5.same.mono (by omega) (by omega) }
  obtain ⟨t, a1, b1⟩ := k S.heap q ce f1' f2' ⟨Nat.le_trans hS.1 f1', fun q h1 h2 => (f2' q (Nat.lt_of_lt_of_le h1 hS.1)).trans (hS.2.1 q h1 h2), hS.2.2⟩ hce hv hcl' S rfl X6
  exact ⟨t, st t a1, b1⟩
variable {Q : State → Prop} {cc : ByteArray} {pc : Nat} {ls : Array Slot} {rest : List Value}
theorem vx_idivZ (hexec : p.tables.exec = Jvm.exec) (hb : c.code = cc) {a b : Int32} (h0 : b = 0) (d : decode cc pc = .ok (.idiv, 1)) (k : vx_Note p l e R s m args below meth c H locs cells slots Q (F0 m pc ls rest) "java/lang/ArithmeticException" "/ by zero") :
    W p l e R s m args below meth c H locs cells slots Q (F0 m pc ls (.int b :: .int a :: rest)) := by
  intro T hT X
  obtain ⟨t, st, q⟩ := k T hT X
  exact ⟨t, X.idivZero hexec (g := F0 m pc ls (.int b :: .int a :: rest)) rfl (a := a) (rest := rest) (by rw [h0]) (by rw [hb]; exact d) t st, q⟩
theorem vx_iremZ (hexec : p.tables.exec = Jvm.exec) (hb : c.code = cc) {a b : Int32} (h0 : b = 0) (d : decode cc pc = .ok (.irem, 1)) (k : vx_Note p l e R s m args below meth c H locs cells slots Q (F0 m pc ls rest) "java/lang/ArithmeticException" "/ by zero") :
    W p l e R s m args below meth c H locs cells slots Q (F0 m pc ls (.int b :: .int a :: rest)) := by
  intro T hT X
  obtain ⟨t, st, q⟩ := k T hT X
  exact ⟨t, X.iremZero hexec (g := F0 m pc ls (.int b :: .int a :: rest)) rfl (a := a) (rest := rest) (by rw [h0]) (by rw [hb]; exact d) t st, q⟩
theorem vx_ldivZ (hexec : p.tables.exec = Jvm.exec) (hb : c.code = cc) {a b : Int64} (h0 : b = 0) (d : decode cc pc = .ok (.ldiv, 1)) (k : vx_Note p l e R s m args below meth c H locs cells slots Q (F0 m pc ls rest) "java/lang/ArithmeticException" "/ by zero") :
    W p l e R s m args below meth c H locs cells slots Q (F0 m pc ls (.long b :: .long a :: rest)) := by
  intro T hT X
  obtain ⟨t, st, q⟩ := k T hT X
  exact ⟨t, X.ldivZero hexec (g := F0 m pc ls (.long b :: .long a :: rest)) rfl (a := a) (rest := rest) (by rw [h0]) (by rw [hb]; exact d) t st, q⟩
theorem vx_lremZ (hexec : p.tables.exec = Jvm.exec) (hb : c.code = cc) {a b : Int64} (h0 : b = 0) (d : decode cc pc = .ok (.lrem, 1)) (k : vx_Note p l e R s m args below meth c H locs cells slots Q (F0 m pc ls rest) "java/lang/ArithmeticException" "/ by zero") :
    W p l e R s m args below meth c H locs cells slots Q (F0 m pc ls (.long b :: .long a :: rest)) := by
  intro T hT X
  obtain ⟨t, st, q⟩ := k T hT X
  exact ⟨t, X.lremZero hexec (g := F0 m pc ls (.long b :: .long a :: rest)) rfl (a := a) (rest := rest) (by rw [h0]) (by rw [hb]; exact d) t st, q⟩
theorem vx_ialdZ {D : va_G} {cl : List vw_C} {ws : va_W} {tys : List (ClassId × FieldType)} {a : Nat} (hexec : p.tables.exec = Jvm.exec) (hb : c.code = cc) (hK : va_K D cl tys s) (hP : va_P D cl ws H) (q0 t0 : Nat) {cA : ClassId} {n : Nat} {f : Nat → Int32} (ha : ws[q0]? = some (a, .inl (cA, n, .inl f))) (ht : tys[t0]? = some (cA, .int)) {i : Int32} (hout : ¬ vp_in i n) (hdg : decode cc pc = .ok (.iaload, 1))
    (k : ∀ tx : String, tx = (toString "Index " ++ toString i ++ toString " out of bounds for length " ++ toString n : String) → vx_Note p l e R s m args below meth c H locs cells slots Q (F0 m pc ls rest) "java/lang/ArrayIndexOutOfBoundsException" tx) : W p l e R s m args below meth c H locs cells slots Q (F0 m pc ls (.int i :: .ref a :: rest)) := by
  intro T hT X
  obtain ⟨t, st, q⟩ := k _ rfl T hT X
  refine ⟨t, ?_, q⟩
  have h1 := X.ialoadOut hexec (by rw [hT]; exact hP q0 _ ha) ((hK.2 t0 _ ht).1 n (fun j => .int (f j))) (j := i) (by show (i < 0 ∨ (arrV _ _ _).slots.size ≤ _); rw [arrV_size]; exact Classical.byContradiction hout) (g := F0 m pc ls (.int i :: .ref a :: rest)) rfl (rest := rest) rfl (by rw [hb]; exact hdg) t
  simp only [arrV_size] at h1
  exact h1 st
theorem vx_iastZ {D : va_G} {cl : List vw_C} {ws : va_W} {tys : List (ClassId × FieldType)} {a : Nat} (hexec : p.tables.exec = Jvm.exec) (hb : c.code = cc) (hK : va_K D cl tys s) (hP : va_P D cl ws H) (q0 t0 : Nat) {cA : ClassId} {n : Nat} {f : Nat → Int32} (ha : ws[q0]? = some (a, .inl (cA, n, .inl f))) (ht : tys[t0]? = some (cA, .int)) {i : Int32} {x : Int32} (hout : ¬ vp_in i n) (hdg : decode cc pc = .ok (.iastore, 1))
    (k : ∀ tx : String, tx = (toString "Index " ++ toString i ++ toString " out of bounds for length " ++ toString n : String) → vx_Note p l e R s m args below meth c H locs cells slots Q (F0 m pc ls rest) "java/lang/ArrayIndexOutOfBoundsException" tx) : W p l e R s m args below meth c H locs cells slots Q (F0 m pc ls (.int x :: .int i :: .ref a :: rest)) := by
  intro T hT X
  obtain ⟨t, st, q⟩ := k _ rfl T hT X
  refine ⟨t, ?_, q⟩
  have h1 := X.iastoreOut hexec (by rw [hT]; exact hP q0 _ ha) ((hK.2 t0 _ ht).1 n (fun j => .int (f j))) (j := i) (by show (i < 0 ∨ (arrV _ _ _).slots.size ≤ _); rw [arrV_size]; exact Classical.byContradiction hout) (g := F0 m pc ls (.int x :: .int i :: .ref a :: rest)) rfl (rest := rest) rfl (by rw [hb]; exact hdg) t
  simp only [arrV_size] at h1
  exact h1 st
theorem vx_baldZ {D : va_G} {cl : List vw_C} {ws : va_W} {tys : List (ClassId × FieldType)} {a : Nat} (hexec : p.tables.exec = Jvm.exec) (hb : c.code = cc) (hK : va_K D cl tys s) (hP : va_P D cl ws H) (q0 t0 : Nat) {cA : ClassId} {n : Nat} {f : Nat → Int32} (ha : ws[q0]? = some (a, .inl (cA, n, .inl f))) (ht : tys[t0]? = some (cA, .byte)) {i : Int32} (hout : ¬ vp_in i n) (hdg : decode cc pc = .ok (.baload, 1))
    (k : ∀ tx : String, tx = (toString "Index " ++ toString i ++ toString " out of bounds for length " ++ toString n : String) → vx_Note p l e R s m args below meth c H locs cells slots Q (F0 m pc ls rest) "java/lang/ArrayIndexOutOfBoundsException" tx) : W p l e R s m args below meth c H locs cells slots Q (F0 m pc ls (.int i :: .ref a :: rest)) := by
  intro T hT X
  obtain ⟨t, st, q⟩ := k _ rfl T hT X
  refine ⟨t, ?_, q⟩
  have h1 := X.baloadOut hexec (by rw [hT]; exact hP q0 _ ha) ((hK.2 t0 _ ht).1 n (fun j => .int (f j))) (j := i) (by show (i < 0 ∨ (arrV _ _ _).slots.size ≤ _); rw [arrV_size]; exact Classical.byContradiction hout) (g := F0 m pc ls (.int i :: .ref a :: rest)) rfl (rest := rest) rfl (by rw [hb]; exact hdg) t
  simp only [arrV_size] at h1
  exact h1 st
theorem vx_bastZ {D : va_G} {cl : List vw_C} {ws : va_W} {tys : List (ClassId × FieldType)} {a : Nat} (hexec : p.tables.exec = Jvm.exec) (hb : c.code = cc) (hK : va_K D cl tys s) (hP : va_P D cl ws H) (q0 t0 : Nat) {cA : ClassId} {n : Nat} {f : Nat → Int32} (ha : ws[q0]? = some (a, .inl (cA, n, .inl f))) (ht : tys[t0]? = some (cA, .byte)) {i : Int32} {x : Int32} (hout : ¬ vp_in i n) (hdg : decode cc pc = .ok (.bastore, 1))
    (k : ∀ tx : String, tx = (toString "Index " ++ toString i ++ toString " out of bounds for length " ++ toString n : String) → vx_Note p l e R s m args below meth c H locs cells slots Q (F0 m pc ls rest) "java/lang/ArrayIndexOutOfBoundsException" tx) : W p l e R s m args below meth c H locs cells slots Q (F0 m pc ls (.int x :: .int i :: .ref a :: rest)) := by
  intro T hT X
  obtain ⟨t, st, q⟩ := k _ rfl T hT X
  refine ⟨t, ?_, q⟩
  have h1 := X.bastoreOut hexec (by rw [hT]; exact hP q0 _ ha) ((hK.2 t0 _ ht).1 n (fun j => .int (f j))) (j := i) (by show (i < 0 ∨ (arrV _ _ _).slots.size ≤ _); rw [arrV_size]; exact Classical.byContradiction hout) (g := F0 m pc ls (.int x :: .int i :: .ref a :: rest)) rfl (rest := rest) rfl (by rw [hb]; exact hdg) t
  simp only [arrV_size] at h1
  exact h1 st
theorem vx_zaldZ {D : va_G} {cl : List vw_C} {ws : va_W} {tys : List (ClassId × FieldType)} {a : Nat} (hexec : p.tables.exec = Jvm.exec) (hb : c.code = cc) (hK : va_K D cl tys s) (hP : va_P D cl ws H) (q0 t0 : Nat) {cA : ClassId} {n : Nat} {f : Nat → Int32} (ha : ws[q0]? = some (a, .inl (cA, n, .inl f))) (ht : tys[t0]? = some (cA, .boolean)) {i : Int32} (hout : ¬ vp_in i n) (hdg : decode cc pc = .ok (.baload, 1))
    (k : ∀ tx : String, tx = (toString "Index " ++ toString i ++ toString " out of bounds for length " ++ toString n : String) → vx_Note p l e R s m args below meth c H locs cells slots Q (F0 m pc ls rest) "java/lang/ArrayIndexOutOfBoundsException" tx) : W p l e R s m args below meth c H locs cells slots Q (F0 m pc ls (.int i :: .ref a :: rest)) := by
  intro T hT X
  obtain ⟨t, st, q⟩ := k _ rfl T hT X
  refine ⟨t, ?_, q⟩
  have h1 := X.baloadOut hexec (by rw [hT]; exact hP q0 _ ha) ((hK.2 t0 _ ht).1 n (fun j => .int (f j))) (j := i) (by show (i < 0 ∨ (arrV _ _ _).slots.size ≤ _); rw [arrV_size]; exact Classical.byContradiction hout) (g := F0 m pc ls (.int i :: .ref a :: rest)) rfl (rest := rest) rfl (by rw [hb]; exact hdg) t
  simp only [arrV_size] at h1
  exact h1 st
theorem vx_zastZ {D : va_G} {cl : List vw_C} {ws : va_W} {tys : List (ClassId × FieldType)} {a : Nat} (hexec : p.tables.exec = Jvm.exec) (hb : c.code = cc) (hK : va_K D cl tys s) (hP : va_P D cl ws H) (q0 t0 : Nat) {cA : ClassId} {n : Nat} {f : Nat → Int32} (ha : ws[q0]? = some (a, .inl (cA, n, .inl f))) (ht : tys[t0]? = some (cA, .boolean)) {i : Int32} {x : Int32} (hout : ¬ vp_in i n) (hdg : decode cc pc = .ok (.bastore, 1))
    (k : ∀ tx : String, tx = (toString "Index " ++ toString i ++ toString " out of bounds for length " ++ toString n : String) → vx_Note p l e R s m args below meth c H locs cells slots Q (F0 m pc ls rest) "java/lang/ArrayIndexOutOfBoundsException" tx) : W p l e R s m args below meth c H locs cells slots Q (F0 m pc ls (.int x :: .int i :: .ref a :: rest)) := by
  intro T hT X
  obtain ⟨t, st, q⟩ := k _ rfl T hT X
  refine ⟨t, ?_, q⟩
  have h1 := X.bastoreOut hexec (by rw [hT]; exact hP q0 _ ha) ((hK.2 t0 _ ht).1 n (fun j => .int (f j))) (j := i) (by show (i < 0 ∨ (arrV _ _ _).slots.size ≤ _); rw [arrV_size]; exact Classical.byContradiction hout) (g := F0 m pc ls (.int x :: .int i :: .ref a :: rest)) rfl (rest := rest) rfl (by rw [hb]; exact hdg) t
  simp only [arrV_size] at h1
  exact h1 st
theorem vx_caldZ {D : va_G} {cl : List vw_C} {ws : va_W} {tys : List (ClassId × FieldType)} {a : Nat} (hexec : p.tables.exec = Jvm.exec) (hb : c.code = cc) (hK : va_K D cl tys s) (hP : va_P D cl ws H) (q0 t0 : Nat) {cA : ClassId} {n : Nat} {f : Nat → Int32} (ha : ws[q0]? = some (a, .inl (cA, n, .inl f))) (ht : tys[t0]? = some (cA, .char)) {i : Int32} (hout : ¬ vp_in i n) (hdg : decode cc pc = .ok (.caload, 1))
    (k : ∀ tx : String, tx = (toString "Index " ++ toString i ++ toString " out of bounds for length " ++ toString n : String) → vx_Note p l e R s m args below meth c H locs cells slots Q (F0 m pc ls rest) "java/lang/ArrayIndexOutOfBoundsException" tx) : W p l e R s m args below meth c H locs cells slots Q (F0 m pc ls (.int i :: .ref a :: rest)) := by
  intro T hT X
  obtain ⟨t, st, q⟩ := k _ rfl T hT X
  refine ⟨t, ?_, q⟩
  have h1 := X.caloadOut hexec (by rw [hT]; exact hP q0 _ ha) ((hK.2 t0 _ ht).1 n (fun j => .int (f j))) (j := i) (by show (i < 0 ∨ (arrV _ _ _).slots.size ≤ _); rw [arrV_size]; exact Classical.byContradiction hout) (g := F0 m pc ls (.int i :: .ref a :: rest)) rfl (rest := rest) rfl (by rw [hb]; exact hdg) t
  simp only [arrV_size] at h1
  exact h1 st
theorem vx_castZ {D : va_G} {cl : List vw_C} {ws : va_W} {tys : List (ClassId × FieldType)} {a : Nat} (hexec : p.tables.exec = Jvm.exec) (hb : c.code = cc) (hK : va_K D cl tys s) (hP : va_P D cl ws H) (q0 t0 : Nat) {cA : ClassId} {n : Nat} {f : Nat → Int32} (ha : ws[q0]? = some (a, .inl (cA, n, .inl f))) (ht : tys[t0]? = some (cA, .char)) {i : Int32} {x : Int32} (hout : ¬ vp_in i n) (hdg : decode cc pc = .ok (.castore, 1))
    (k : ∀ tx : String, tx = (toString "Index " ++ toString i ++ toString " out of bounds for length " ++ toString n : String) → vx_Note p l e R s m args below meth c H locs cells slots Q (F0 m pc ls rest) "java/lang/ArrayIndexOutOfBoundsException" tx) : W p l e R s m args below meth c H locs cells slots Q (F0 m pc ls (.int x :: .int i :: .ref a :: rest)) := by
  intro T hT X
  obtain ⟨t, st, q⟩ := k _ rfl T hT X
  refine ⟨t, ?_, q⟩
  have h1 := X.castoreOut hexec (by rw [hT]; exact hP q0 _ ha) ((hK.2 t0 _ ht).1 n (fun j => .int (f j))) (j := i) (by show (i < 0 ∨ (arrV _ _ _).slots.size ≤ _); rw [arrV_size]; exact Classical.byContradiction hout) (g := F0 m pc ls (.int x :: .int i :: .ref a :: rest)) rfl (rest := rest) rfl (by rw [hb]; exact hdg) t
  simp only [arrV_size] at h1
  exact h1 st
theorem vx_saldZ {D : va_G} {cl : List vw_C} {ws : va_W} {tys : List (ClassId × FieldType)} {a : Nat} (hexec : p.tables.exec = Jvm.exec) (hb : c.code = cc) (hK : va_K D cl tys s) (hP : va_P D cl ws H) (q0 t0 : Nat) {cA : ClassId} {n : Nat} {f : Nat → Int32} (ha : ws[q0]? = some (a, .inl (cA, n, .inl f))) (ht : tys[t0]? = some (cA, .short)) {i : Int32} (hout : ¬ vp_in i n) (hdg : decode cc pc = .ok (.saload, 1))
    (k : ∀ tx : String, tx = (toString "Index " ++ toString i ++ toString " out of bounds for length " ++ toString n : String) → vx_Note p l e R s m args below meth c H locs cells slots Q (F0 m pc ls rest) "java/lang/ArrayIndexOutOfBoundsException" tx) : W p l e R s m args below meth c H locs cells slots Q (F0 m pc ls (.int i :: .ref a :: rest)) := by
  intro T hT X
  obtain ⟨t, st, q⟩ := k _ rfl T hT X
  refine ⟨t, ?_, q⟩
  have h1 := X.saloadOut hexec (by rw [hT]; exact hP q0 _ ha) ((hK.2 t0 _ ht).1 n (fun j => .int (f j))) (j := i) (by show (i < 0 ∨ (arrV _ _ _).slots.size ≤ _); rw [arrV_size]; exact Classical.byContradiction hout) (g := F0 m pc ls (.int i :: .ref a :: rest)) rfl (rest := rest) rfl (by rw [hb]; exact hdg) t
  simp only [arrV_size] at h1
  exact h1 st
theorem vx_sastZ {D : va_G} {cl : List vw_C} {ws : va_W} {tys : List (ClassId × FieldType)} {a : Nat} (hexec : p.tables.exec = Jvm.exec) (hb : c.code = cc) (hK : va_K D cl tys s) (hP : va_P D cl ws H) (q0 t0 : Nat) {cA : ClassId} {n : Nat} {f : Nat → Int32} (ha : ws[q0]? = some (a, .inl (cA, n, .inl f))) (ht : tys[t0]? = some (cA, .short)) {i : Int32} {x : Int32} (hout : ¬ vp_in i n) (hdg : decode cc pc = .ok (.sastore, 1))
    (k : ∀ tx : String, tx = (toString "Index " ++ toString i ++ toString " out of bounds for length " ++ toString n : String) → vx_Note p l e R s m args below meth c H locs cells slots Q (F0 m pc ls rest) "java/lang/ArrayIndexOutOfBoundsException" tx) : W p l e R s m args below meth c H locs cells slots Q (F0 m pc ls (.int x :: .int i :: .ref a :: rest)) := by
  intro T hT X
  obtain ⟨t, st, q⟩ := k _ rfl T hT X
  refine ⟨t, ?_, q⟩
  have h1 := X.sastoreOut hexec (by rw [hT]; exact hP q0 _ ha) ((hK.2 t0 _ ht).1 n (fun j => .int (f j))) (j := i) (by show (i < 0 ∨ (arrV _ _ _).slots.size ≤ _); rw [arrV_size]; exact Classical.byContradiction hout) (g := F0 m pc ls (.int x :: .int i :: .ref a :: rest)) rfl (rest := rest) rfl (by rw [hb]; exact hdg) t
  simp only [arrV_size] at h1
  exact h1 st
theorem vx_laldZ {D : va_G} {cl : List vw_C} {ws : va_W} {tys : List (ClassId × FieldType)} {a : Nat} (hexec : p.tables.exec = Jvm.exec) (hb : c.code = cc) (hK : va_K D cl tys s) (hP : va_P D cl ws H) (q0 t0 : Nat) {cA : ClassId} {n : Nat} {f : Nat → Int64} (ha : ws[q0]? = some (a, .inl (cA, n, .inr (.inl f)))) (ht : tys[t0]? = some (cA, .long)) {i : Int32} (hout : ¬ vp_in i n) (hdg : decode cc pc = .ok (.laload, 1))
    (k : ∀ tx : String, tx = (toString "Index " ++ toString i ++ toString " out of bounds for length " ++ toString n : String) → vx_Note p l e R s m args below meth c H locs cells slots Q (F0 m pc ls rest) "java/lang/ArrayIndexOutOfBoundsException" tx) : W p l e R s m args below meth c H locs cells slots Q (F0 m pc ls (.int i :: .ref a :: rest)) := by
  intro T hT X
  obtain ⟨t, st, q⟩ := k _ rfl T hT X
  refine ⟨t, ?_, q⟩
  have h1 := X.laloadOut hexec (by rw [hT]; exact hP q0 _ ha) ((hK.2 t0 _ ht).1 n (fun j => .long (f j))) (j := i) (by show (i < 0 ∨ (arrV _ _ _).slots.size ≤ _); rw [arrV_size]; exact Classical.byContradiction hout) (g := F0 m pc ls (.int i :: .ref a :: rest)) rfl (rest := rest) rfl (by rw [hb]; exact hdg) t
  simp only [arrV_size] at h1
  exact h1 st
theorem vx_lastZ {D : va_G} {cl : List vw_C} {ws : va_W} {tys : List (ClassId × FieldType)} {a : Nat} (hexec : p.tables.exec = Jvm.exec) (hb : c.code = cc) (hK : va_K D cl tys s) (hP : va_P D cl ws H) (q0 t0 : Nat) {cA : ClassId} {n : Nat} {f : Nat → Int64} (ha : ws[q0]? = some (a, .inl (cA, n, .inr (.inl f)))) (ht : tys[t0]? = some (cA, .long)) {i : Int32} {x : Int64} (hout : ¬ vp_in i n) (hdg : decode cc pc = .ok (.lastore, 1))
    (k : ∀ tx : String, tx = (toString "Index " ++ toString i ++ toString " out of bounds for length " ++ toString n : String) → vx_Note p l e R s m args below meth c H locs cells slots Q (F0 m pc ls rest) "java/lang/ArrayIndexOutOfBoundsException" tx) : W p l e R s m args below meth c H locs cells slots Q (F0 m pc ls (.long x :: .int i :: .ref a :: rest)) := by
  intro T hT X
  obtain ⟨t, st, q⟩ := k _ rfl T hT X
  refine ⟨t, ?_, q⟩
  have h1 := X.lastoreOut hexec (by rw [hT]; exact hP q0 _ ha) ((hK.2 t0 _ ht).1 n (fun j => .long (f j))) (j := i) (by show (i < 0 ∨ (arrV _ _ _).slots.size ≤ _); rw [arrV_size]; exact Classical.byContradiction hout) (g := F0 m pc ls (.long x :: .int i :: .ref a :: rest)) rfl (rest := rest) rfl (by rw [hb]; exact hdg) t
  simp only [arrV_size] at h1
  exact h1 st
theorem vx_faldZ {D : va_G} {cl : List vw_C} {ws : va_W} {tys : List (ClassId × FieldType)} {a : Nat} (hexec : p.tables.exec = Jvm.exec) (hb : c.code = cc) (hK : va_K D cl tys s) (hP : va_P D cl ws H) (q0 t0 : Nat) {cA : ClassId} {n : Nat} {f : Nat → UInt32} (ha : ws[q0]? = some (a, .inl (cA, n, .inr (.inr (.inl f))))) (ht : tys[t0]? = some (cA, .float)) {i : Int32} (hout : ¬ vp_in i n) (hdg : decode cc pc = .ok (.faload, 1))
    (k : ∀ tx : String, tx = (toString "Index " ++ toString i ++ toString " out of bounds for length " ++ toString n : String) → vx_Note p l e R s m args below meth c H locs cells slots Q (F0 m pc ls rest) "java/lang/ArrayIndexOutOfBoundsException" tx) : W p l e R s m args below meth c H locs cells slots Q (F0 m pc ls (.int i :: .ref a :: rest)) := by
  intro T hT X
  obtain ⟨t, st, q⟩ := k _ rfl T hT X
  refine ⟨t, ?_, q⟩
  have h1 := X.faloadOut hexec (by rw [hT]; exact hP q0 _ ha) ((hK.2 t0 _ ht).1 n (fun j => .float (f j))) (j := i) (by show (i < 0 ∨ (arrV _ _ _).slots.size ≤ _); rw [arrV_size]; exact Classical.byContradiction hout) (g := F0 m pc ls (.int i :: .ref a :: rest)) rfl (rest := rest) rfl (by rw [hb]; exact hdg) t
  simp only [arrV_size] at h1
  exact h1 st
theorem vx_fastZ {D : va_G} {cl : List vw_C} {ws : va_W} {tys : List (ClassId × FieldType)} {a : Nat} (hexec : p.tables.exec = Jvm.exec) (hb : c.code = cc) (hK : va_K D cl tys s) (hP : va_P D cl ws H) (q0 t0 : Nat) {cA : ClassId} {n : Nat} {f : Nat → UInt32} (ha : ws[q0]? = some (a, .inl (cA, n, .inr (.inr (.inl f))))) (ht : tys[t0]? = some (cA, .float)) {i : Int32} {x : UInt32} (hout : ¬ vp_in i n) (hdg : decode cc pc = .ok (.fastore, 1))
    (k : ∀ tx : String, tx = (toString "Index " ++ toString i ++ toString " out of bounds for length " ++ toString n : String) → vx_Note p l e R s m args below meth c H locs cells slots Q (F0 m pc ls rest) "java/lang/ArrayIndexOutOfBoundsException" tx) : W p l e R s m args below meth c H locs cells slots Q (F0 m pc ls (.float x :: .int i :: .ref a :: rest)) := by
  intro T hT X
  obtain ⟨t, st, q⟩ := k _ rfl T hT X
  refine ⟨t, ?_, q⟩
  have h1 := X.fastoreOut hexec (by rw [hT]; exact hP q0 _ ha) ((hK.2 t0 _ ht).1 n (fun j => .float (f j))) (j := i) (by show (i < 0 ∨ (arrV _ _ _).slots.size ≤ _); rw [arrV_size]; exact Classical.byContradiction hout) (g := F0 m pc ls (.float x :: .int i :: .ref a :: rest)) rfl (rest := rest) rfl (by rw [hb]; exact hdg) t
  simp only [arrV_size] at h1
  exact h1 st
theorem vx_daldZ {D : va_G} {cl : List vw_C} {ws : va_W} {tys : List (ClassId × FieldType)} {a : Nat} (hexec : p.tables.exec = Jvm.exec) (hb : c.code = cc) (hK : va_K D cl tys s) (hP : va_P D cl ws H) (q0 t0 : Nat) {cA : ClassId} {n : Nat} {f : Nat → UInt64} (ha : ws[q0]? = some (a, .inl (cA, n, .inr (.inr (.inr (.inl f)))))) (ht : tys[t0]? = some (cA, .double)) {i : Int32} (hout : ¬ vp_in i n) (hdg : decode cc pc = .ok (.daload, 1))
    (k : ∀ tx : String, tx = (toString "Index " ++ toString i ++ toString " out of bounds for length " ++ toString n : String) → vx_Note p l e R s m args below meth c H locs cells slots Q (F0 m pc ls rest) "java/lang/ArrayIndexOutOfBoundsException" tx) : W p l e R s m args below meth c H locs cells slots Q (F0 m pc ls (.int i :: .ref a :: rest)) := by
  intro T hT X
  obtain ⟨t, st, q⟩ := k _ rfl T hT X
  refine ⟨t, ?_, q⟩
  have h1 := X.daloadOut hexec (by rw [hT]; exact hP q0 _ ha) ((hK.2 t0 _ ht).1 n (fun j => .double (f j))) (j := i) (by show (i < 0 ∨ (arrV _ _ _).slots.size ≤ _); rw [arrV_size]; exact Classical.byContradiction hout) (g := F0 m pc ls (.int i :: .ref a :: rest)) rfl (rest := rest) rfl (by rw [hb]; exact hdg) t
  simp only [arrV_size] at h1
  exact h1 st
theorem vx_dastZ {D : va_G} {cl : List vw_C} {ws : va_W} {tys : List (ClassId × FieldType)} {a : Nat} (hexec : p.tables.exec = Jvm.exec) (hb : c.code = cc) (hK : va_K D cl tys s) (hP : va_P D cl ws H) (q0 t0 : Nat) {cA : ClassId} {n : Nat} {f : Nat → UInt64} (ha : ws[q0]? = some (a, .inl (cA, n, .inr (.inr (.inr (.inl f)))))) (ht : tys[t0]? = some (cA, .double)) {i : Int32} {x : UInt64} (hout : ¬ vp_in i n) (hdg : decode cc pc = .ok (.dastore, 1))
    (k : ∀ tx : String, tx = (toString "Index " ++ toString i ++ toString " out of bounds for length " ++ toString n : String) → vx_Note p l e R s m args below meth c H locs cells slots Q (F0 m pc ls rest) "java/lang/ArrayIndexOutOfBoundsException" tx) : W p l e R s m args below meth c H locs cells slots Q (F0 m pc ls (.double x :: .int i :: .ref a :: rest)) := by
  intro T hT X
  obtain ⟨t, st, q⟩ := k _ rfl T hT X
  refine ⟨t, ?_, q⟩
  have h1 := X.dastoreOut hexec (by rw [hT]; exact hP q0 _ ha) ((hK.2 t0 _ ht).1 n (fun j => .double (f j))) (j := i) (by show (i < 0 ∨ (arrV _ _ _).slots.size ≤ _); rw [arrV_size]; exact Classical.byContradiction hout) (g := F0 m pc ls (.double x :: .int i :: .ref a :: rest)) rfl (rest := rest) rfl (by rw [hb]; exact hdg) t
  simp only [arrV_size] at h1
  exact h1 st
theorem vx_arraylengthN (hexec : p.tables.exec = Jvm.exec) (hb : c.code = cc) (hdg : decode cc pc = .ok (.arraylength, 1)) (k : vx_NoteN p l e R s m args below meth c H locs cells slots Q (F0 m pc ls rest)) : W p l e R s m args below meth c H locs cells slots Q (F0 m pc ls (.null :: rest)) := by
  intro T hT X
  obtain ⟨t, st, q⟩ := k T hT X
  exact ⟨t, X.arraylengthNull hexec (g := F0 m pc ls (.null :: rest)) rfl (rest := rest) rfl (by rw [hb]; exact hdg) t st, q⟩
theorem vx_ialoadN (hexec : p.tables.exec = Jvm.exec) (hb : c.code = cc) {i : Int32} (hdg : decode cc pc = .ok (.iaload, 1)) (k : vx_NoteN p l e R s m args below meth c H locs cells slots Q (F0 m pc ls rest)) : W p l e R s m args below meth c H locs cells slots Q (F0 m pc ls (.int i :: .null :: rest)) := by
  intro T hT X
  obtain ⟨t, st, q⟩ := k T hT X
  exact ⟨t, X.ialoadNull hexec (g := F0 m pc ls (.int i :: .null :: rest)) rfl (rest := rest) rfl (by rw [hb]; exact hdg) t st, q⟩
theorem vx_laloadN (hexec : p.tables.exec = Jvm.exec) (hb : c.code = cc) {i : Int32} (hdg : decode cc pc = .ok (.laload, 1)) (k : vx_NoteN p l e R s m args below meth c H locs cells slots Q (F0 m pc ls rest)) : W p l e R s m args below meth c H locs cells slots Q (F0 m pc ls (.int i :: .null :: rest)) := by
  intro T hT X
  obtain ⟨t, st, q⟩ := k T hT X
  exact ⟨t, X.laloadNull hexec (g := F0 m pc ls (.int i :: .null :: rest)) rfl (rest := rest) rfl (by rw [hb]; exact hdg) t st, q⟩
theorem vx_faloadN (hexec : p.tables.exec = Jvm.exec) (hb : c.code = cc) {i : Int32} (hdg : decode cc pc = .ok (.faload, 1)) (k : vx_NoteN p l e R s m args below meth c H locs cells slots Q (F0 m pc ls rest)) : W p l e R s m args below meth c H locs cells slots Q (F0 m pc ls (.int i :: .null :: rest)) := by
  intro T hT X
  obtain ⟨t, st, q⟩ := k T hT X
  exact ⟨t, X.faloadNull hexec (g := F0 m pc ls (.int i :: .null :: rest)) rfl (rest := rest) rfl (by rw [hb]; exact hdg) t st, q⟩
theorem vx_daloadN (hexec : p.tables.exec = Jvm.exec) (hb : c.code = cc) {i : Int32} (hdg : decode cc pc = .ok (.daload, 1)) (k : vx_NoteN p l e R s m args below meth c H locs cells slots Q (F0 m pc ls rest)) : W p l e R s m args below meth c H locs cells slots Q (F0 m pc ls (.int i :: .null :: rest)) := by
  intro T hT X
  obtain ⟨t, st, q⟩ := k T hT X
  exact ⟨t, X.daloadNull hexec (g := F0 m pc ls (.int i :: .null :: rest)) rfl (rest := rest) rfl (by rw [hb]; exact hdg) t st, q⟩
theorem vx_aaloadN (hexec : p.tables.exec = Jvm.exec) (hb : c.code = cc) {i : Int32} (hdg : decode cc pc = .ok (.aaload, 1)) (k : vx_NoteN p l e R s m args below meth c H locs cells slots Q (F0 m pc ls rest)) : W p l e R s m args below meth c H locs cells slots Q (F0 m pc ls (.int i :: .null :: rest)) := by
  intro T hT X
  obtain ⟨t, st, q⟩ := k T hT X
  exact ⟨t, X.aaloadNull hexec (g := F0 m pc ls (.int i :: .null :: rest)) rfl (rest := rest) rfl (by rw [hb]; exact hdg) t st, q⟩
theorem vx_baloadN (hexec : p.tables.exec = Jvm.exec) (hb : c.code = cc) {i : Int32} (hdg : decode cc pc = .ok (.baload, 1)) (k : vx_NoteN p l e R s m args below meth c H locs cells slots Q (F0 m pc ls rest)) : W p l e R s m args below meth c H locs cells slots Q (F0 m pc ls (.int i :: .null :: rest)) := by
  intro T hT X
  obtain ⟨t, st, q⟩ := k T hT X
  exact ⟨t, X.baloadNull hexec (g := F0 m pc ls (.int i :: .null :: rest)) rfl (rest := rest) rfl (by rw [hb]; exact hdg) t st, q⟩
theorem vx_caloadN (hexec : p.tables.exec = Jvm.exec) (hb : c.code = cc) {i : Int32} (hdg : decode cc pc = .ok (.caload, 1)) (k : vx_NoteN p l e R s m args below meth c H locs cells slots Q (F0 m pc ls rest)) : W p l e R s m args below meth c H locs cells slots Q (F0 m pc ls (.int i :: .null :: rest)) := by
  intro T hT X
  obtain ⟨t, st, q⟩ := k T hT X
  exact ⟨t, X.caloadNull hexec (g := F0 m pc ls (.int i :: .null :: rest)) rfl (rest := rest) rfl (by rw [hb]; exact hdg) t st, q⟩
theorem vx_saloadN (hexec : p.tables.exec = Jvm.exec) (hb : c.code = cc) {i : Int32} (hdg : decode cc pc = .ok (.saload, 1)) (k : vx_NoteN p l e R s m args below meth c H locs cells slots Q (F0 m pc ls rest)) : W p l e R s m args below meth c H locs cells slots Q (F0 m pc ls (.int i :: .null :: rest)) := by
  intro T hT X
  obtain ⟨t, st, q⟩ := k T hT X
  exact ⟨t, X.saloadNull hexec (g := F0 m pc ls (.int i :: .null :: rest)) rfl (rest := rest) rfl (by rw [hb]; exact hdg) t st, q⟩
theorem vx_iastoreN (hexec : p.tables.exec = Jvm.exec) (hb : c.code = cc) {x : Int32} {i : Int32} (hdg : decode cc pc = .ok (.iastore, 1)) (k : vx_NoteN p l e R s m args below meth c H locs cells slots Q (F0 m pc ls rest)) : W p l e R s m args below meth c H locs cells slots Q (F0 m pc ls (.int x :: .int i :: .null :: rest)) := by
  intro T hT X
  obtain ⟨t, st, q⟩ := k T hT X
  exact ⟨t, X.iastoreNull hexec (g := F0 m pc ls (.int x :: .int i :: .null :: rest)) rfl (rest := rest) rfl (by rw [hb]; exact hdg) t st, q⟩
theorem vx_lastoreN (hexec : p.tables.exec = Jvm.exec) (hb : c.code = cc) {x : Int64} {i : Int32} (hdg : decode cc pc = .ok (.lastore, 1)) (k : vx_NoteN p l e R s m args below meth c H locs cells slots Q (F0 m pc ls rest)) : W p l e R s m args below meth c H locs cells slots Q (F0 m pc ls (.long x :: .int i :: .null :: rest)) := by
  intro T hT X
  obtain ⟨t, st, q⟩ := k T hT X
  exact ⟨t, X.lastoreNull hexec (g := F0 m pc ls (.long x :: .int i :: .null :: rest)) rfl (rest := rest) rfl (by rw [hb]; exact hdg) t st, q⟩
theorem vx_fastoreN (hexec : p.tables.exec = Jvm.exec) (hb : c.code = cc) {x : UInt32} {i : Int32} (hdg : decode cc pc = .ok (.fastore, 1)) (k : vx_NoteN p l e R s m args below meth c H locs cells slots Q (F0 m pc ls rest)) : W p l e R s m args below meth c H locs cells slots Q (F0 m pc ls (.float x :: .int i :: .null :: rest)) := by
  intro T hT X
  obtain ⟨t, st, q⟩ := k T hT X
  exact ⟨t, X.fastoreNull hexec (g := F0 m pc ls (.float x :: .int i :: .null :: rest)) rfl (rest := rest) rfl (by rw [hb]; exact hdg) t st, q⟩
theorem vx_dastoreN (hexec : p.tables.exec = Jvm.exec) (hb : c.code = cc) {x : UInt64} {i : Int32} (hdg : decode cc pc = .ok (.dastore, 1)) (k : vx_NoteN p l e R s m args below meth c H locs cells slots Q (F0 m pc ls rest)) : W p l e R s m args below meth c H locs cells slots Q (F0 m pc ls (.double x :: .int i :: .null :: rest)) := by
  intro T hT X
  obtain ⟨t, st, q⟩ := k T hT X
  exact ⟨t, X.dastoreNull hexec (g := F0 m pc ls (.double x :: .int i :: .null :: rest)) rfl (rest := rest) rfl (by rw [hb]; exact hdg) t st, q⟩
theorem vx_bastoreN (hexec : p.tables.exec = Jvm.exec) (hb : c.code = cc) {x : Int32} {i : Int32} (hdg : decode cc pc = .ok (.bastore, 1)) (k : vx_NoteN p l e R s m args below meth c H locs cells slots Q (F0 m pc ls rest)) : W p l e R s m args below meth c H locs cells slots Q (F0 m pc ls (.int x :: .int i :: .null :: rest)) := by
  intro T hT X
  obtain ⟨t, st, q⟩ := k T hT X
  exact ⟨t, X.bastoreNull hexec (g := F0 m pc ls (.int x :: .int i :: .null :: rest)) rfl (rest := rest) rfl (by rw [hb]; exact hdg) t st, q⟩
theorem vx_castoreN (hexec : p.tables.exec = Jvm.exec) (hb : c.code = cc) {x : Int32} {i : Int32} (hdg : decode cc pc = .ok (.castore, 1)) (k : vx_NoteN p l e R s m args below meth c H locs cells slots Q (F0 m pc ls rest)) : W p l e R s m args below meth c H locs cells slots Q (F0 m pc ls (.int x :: .int i :: .null :: rest)) := by
  intro T hT X
  obtain ⟨t, st, q⟩ := k T hT X
  exact ⟨t, X.castoreNull hexec (g := F0 m pc ls (.int x :: .int i :: .null :: rest)) rfl (rest := rest) rfl (by rw [hb]; exact hdg) t st, q⟩
theorem vx_sastoreN (hexec : p.tables.exec = Jvm.exec) (hb : c.code = cc) {x : Int32} {i : Int32} (hdg : decode cc pc = .ok (.sastore, 1)) (k : vx_NoteN p l e R s m args below meth c H locs cells slots Q (F0 m pc ls rest)) : W p l e R s m args below meth c H locs cells slots Q (F0 m pc ls (.int x :: .int i :: .null :: rest)) := by
  intro T hT X
  obtain ⟨t, st, q⟩ := k T hT X
  exact ⟨t, X.sastoreNull hexec (g := F0 m pc ls (.int x :: .int i :: .null :: rest)) rfl (rest := rest) rfl (by rw [hb]; exact hdg) t st, q⟩
theorem vx_invokeN {own C : String} {index maxL : Nat} {y : MethodName} {bytes : ByteArray} {ret : Option FieldType} (hexec : p.tables.exec = Jvm.exec) (hb : c.code = cc) (hown : s.vm.findClass own = some m.cls) (hlink : (Cond.methodLink own index y).before args s = true) (hinst : (Cond.instanceMethod y).before args s = true) (hcode : (Cond.code y bytes maxL ret).before args s = true) (hsel : (Cond.selects C y y).before args s = true)
    (hx : y.cls ≠ "java/lang/invoke/MethodHandle" ∧ y.cls ≠ "java/lang/invoke/VarHandle") {As : List Value} (hlen : (parseMethodDescriptor y.desc).map (fun d => d.parameters.length) = some As.length) (hdg : decode cc pc = .ok (.invokevirtual index, 3))
    (k : vx_NoteN p l e R s m args below meth c H locs cells slots Q (F0 m pc ls rest)) {st0 : List Value} (hst : st0 = As.reverse ++ .null :: rest) : W p l e R s m args below meth c H locs cells slots Q (F0 m pc ls st0) := by
  intro T hT X
  obtain ⟨r0, r, hn, hrm, hstR, hsigR⟩ := va_Decl.of hinst hcode
  obtain ⟨c2, r2, m2, q1, q2, q3, q4, kP, hkP, hkPi⟩ := Cond.selects_spec hsel
  cases hn.symm.trans q3
  have hl9 : As.length = r.sig.parameters.length := by
    rw [hsigR] at hlen
    exact (Option.some.inj hlen).symm
  obtain ⟨vm', X1, st1⟩ := X.invokevirtualNull hexec hown hlink hn hrm hstR hkP hkPi hx (g := F0 m pc ls st0) rfl (argsL := As) (rest := rest) hl9 hst (by rw [hb]; exact hdg)
  obtain ⟨t, st, q⟩ := k (T.setVm vm') hT X1
  exact ⟨t, st1 t st, q⟩
theorem vx_newarrayZ {atype : ArrayType} (hexec : p.tables.exec = Jvm.exec) (hb : c.code = cc) {n : Int32} (h0 : n < 0) (hdg : decode cc pc = .ok (.newarray atype, 2)) (k : ∀ tx : String, tx = toString n → vx_Note p l e R s m args below meth c H locs cells slots Q (F0 m pc ls rest) "java/lang/NegativeArraySizeException" tx) : W p l e R s m args below meth c H locs cells slots Q (F0 m pc ls (.int n :: rest)) := by
  intro T hT X
  obtain ⟨t, st, q⟩ := k _ rfl T hT X
  exact ⟨t, X.newarrayNegative hexec (g := F0 m pc ls (.int n :: rest)) rfl h0 (rest := rest) rfl (by rw [hb]; exact hdg) t st, q⟩
end
end VXM
/-! ===== END ===== -/
/-! ===== BEGIN an exception as an object: made, kept, thrown later (no traces kept) ===== -/
section VXK
variable {p : Program} {l : Launch} {e : Env} {R : Room} {s : State} {m₀ : MethodId} {args : Array Value} {below : List Frame} {meth : Method} {c : Code} {W : State} {locs : List Loc} {cells slots : Nat}
set_option maxHeartbeats 1000000 in
theorem vx_ctorMadeS (X : Stand p l e R s m₀ args below meth c W locs cells slots) (hexec : p.tables.exec = Jvm.exec) (htr : e.platform.stackTraces = false) {own cls : String} {names : List String} {ic : Nat}
    (hown : s.vm.findClass own = some m₀.cls) (hcls : Bundle.fit cls = true) (hnames : ∀ n ∈ names, Bundle.fit n = true)
    (h : ∀ a ∈ Bundle.ownAtoms own ic cls names, a.before args s = true)
    (hlocs : ∀ x ∈ locs, ∀ cell, s.heap[x.base]? = some cell → cell.vm.isStatics = false)
    {a : Addr} {cX : ClassId} {kX : Class} (hfoundX : s.vm.findClass cls = some cX) (hkX : s.vm.classes[cX]? = some kX) (hcell : W.heap[a]? = some (freshCell cX kX)) (hnew : s.heap.size ≤ a)
    {msg : Value} (hmsg : msg.isRef = true)
    {g : JFrame} (hg : g.method = m₀) (hsize : g.locals.size = c.maxLocals) {rest : List Value} (hstack : g.stack = msg :: .ref a :: .ref a :: rest)
    (hd6 : decode c.code g.pc = .ok (.invokespecial ic, 3))
    (hRframes : names.length + 3 < R.frames) (hRlocals : 2 * g.monitorRoom + ((Value.ref a :: rest).map fun v => v.category).sum + (13 * (names.length + 1) + 42) ≤ R.locals) :
    ∃ (V : State) (ce : Cell) (L : List Loc), Stand p l e R s m₀ args below meth c (V.setCell a ce) (locs ++ L) cells slots ∧ (∀ y ∈ L, y.base = a) ∧ a < V.heap.size ∧ ce.cls = cX ∧ ce.vm = .none ∧
      ∀ target, Steps p.tables e below ((V.setCell a ce).setTop { g with stack := .ref a :: rest, pc := g.pc + 3 }) target → Steps p.tables e below (W.setTop g) target := by
  have howns : e.platform.frameOwnsMonitors = true := by rw [X.admits.platform]
  have hfin : e.platform.finalization = false := by rw [X.admits.platform]
  have hpl : e.platform.magicAccessors = ({} : Platform).magicAccessors := by rw [X.admits.platform]
  have a' : ∀ x, x ∈ Bundle.ownAtoms own ic cls names → x.holds args s none s [] = true := fun x hx => h x hx
  obtain ⟨T, Z0, L, -, Y⟩ := ThrowableC.of_atoms (args := args) howns hfin hpl (fun x hx => h x (by simp [Bundle.ownAtoms, hx]))
  obtain ⟨Z, M, LZ, LM, hnZ⟩ := Init0T.ofS_atoms (args := args) hpl L Y (fun x hx => h x (by simp [Bundle.ownAtoms, hx]))
  obtain ⟨P1, Ps, hlen, L1, hL, hP1m, hlink1, hlink⟩ := Bundle.chainS (args := args) hpl hnZ names cls hcls hnames (fun x hx => h x (by simp [Bundle.ownAtoms, hx]))
  have hfound : s.vm.findClass cls = some P1.m.cls := findClass_of_methodNamed hP1m
  cases Option.some.inj (hfoundX.symm.trans hfound)
  obtain ⟨c1, kX', hc1, hk, hord, -, -, hn6⟩ := Cond.instantiable_spec (a' (.instantiable cls 6) (by simp [Bundle.ownAtoms]))
  cases Option.some.inj (hc1.symm.trans hfound)
  cases Option.some.inj (hkX.symm.trans hk)
  have hsel0 : selectMethod e.platform s.vm P1.m.cls T.fill0 = .method T.fill0 := by
    obtain ⟨c2, r2, m2, q1, q2, q3, q4, -⟩ := Cond.selects_spec (a' (.selects cls Bundle.tFill0 Bundle.tFill0) (by simp [Bundle.ownAtoms]))
    cases Option.some.inj (q1.symm.trans hfound)
    cases Option.some.inj (q2.symm.trans (State.methodFound?_of_named Y.fill0 (by decide)))
    cases Option.some.inj (q3.symm.trans Y.fill0)
    rw [Launch.admits_selectMethod X.admits]; exact q4
  have hselF : selectMethod e.platform s.vm P1.m.cls T.fill = .method T.fill := by
    obtain ⟨c2, r2, m2, q1, q2, q3, q4, -⟩ := Cond.selects_spec (a' (.selects cls Bundle.tFill Bundle.tFill) (by simp [Bundle.ownAtoms]))
    cases Option.some.inj (q1.symm.trans hfound)
    cases Option.some.inj (q2.symm.trans (State.methodFound?_of_named Y.fill (by decide)))
    cases Option.some.inj (q3.symm.trans Y.fill)
    rw [Launch.admits_selectMethod X.admits]; exact q4
  obtain ⟨cellS0, hcS0, hiss⟩ := Y.statics
  obtain ⟨u0, hu0⟩ := Cond.staticRefV Y.unassigned L.unassignedStatic L.statics hcS0 hiss (a' (.isRef (.static Bundle.tN "UNASSIGNED_STACK" Bundle.steD)) (by simp [Bundle.ownAtoms]))
  obtain ⟨sen, hsen⟩ := Cond.staticRefV Y.sentinel L.sentinelStatic L.statics hcS0 hiss (a' (.isRef (.static Bundle.tN "SUPPRESSED_SENTINEL" Bundle.listD)) (by simp [Bundle.ownAtoms]))
  obtain ⟨ci198, i198, fB, hk198, hg198, ha198, hsB, -, hnB, htB, hffB⟩ := Cond.ownField (t := .object "java/lang/Object") Y.found L.cls (by decide +kernel) (a' (.fieldLink Bundle.tN 198 Bundle.tN "backtrace" "Ljava/lang/Object;") (by simp [Bundle.ownAtoms])) (a' (.lays Bundle.tN Bundle.tN "backtrace" "Ljava/lang/Object;") (by simp [Bundle.ownAtoms])) e.platform hpl
  obtain ⟨cellS, hcS', heS, -, hkeep⟩ := X.same.2.2.2.2.2 T.aS cellS0 hcS0
  have hcellS : W.heap[T.aS]? = some cellS := hcS'
  have hout' : ∀ i, (⟨T.aS, i⟩ : Loc) ∉ locs := fun i hmem => by
    have := hlocs _ hmem cellS0 hcS0
    rw [hiss] at this; cases this
  have hknownS : cellS.vm ≠ .unknown := by
    rw [heS]; intro hu
    rw [show cellS0.vm = .unknown from hu] at hiss
    cases hiss
  have hneS : T.aS ≠ a := Nat.ne_of_lt (Nat.lt_of_lt_of_le (Array.getElem?_eq_some_iff.mp hcS0).1 hnew)
  obtain ⟨iM, hffM⟩ := Y.msg
  obtain ⟨tyC, dC, hdC, hdnC⟩ := Cond.laysAt hfound hk Y.cause (a' (.lays cls Bundle.tN "cause" "Ljava/lang/Throwable;") (by simp [Bundle.ownAtoms]))
  obtain ⟨tyS, dS, hdS, hdnS⟩ := Cond.laysAt hfound hk Y.stack (a' (.lays cls Bundle.tN "stackTrace" Bundle.steD) (by simp [Bundle.ownAtoms]))
  obtain ⟨tyP, dP, hdP, hdnP⟩ := Cond.laysAt hfound hk Y.supp (a' (.lays cls Bundle.tN "suppressedExceptions" Bundle.listD) (by simp [Bundle.ownAtoms]))
  obtain ⟨tyM, dM, hdM, hdnM⟩ := Cond.laysAt hfound hk hffM (a' (.lays cls Bundle.tN "detailMessage" "Ljava/lang/String;") (by simp [Bundle.ownAtoms]))
  obtain ⟨tyB, dB, hdB, hdnB⟩ := Cond.laysAt hfound hk hffB (a' (.lays cls Bundle.tN "backtrace" "Ljava/lang/Object;") (by simp [Bundle.ownAtoms]))
  have bC := Cond.laysApart hdB hdC hdnB hdnC (by rw [hnB, Y.causeName]; decide)
  have bS := Cond.laysApart hdB hdS hdnB hdnS (by rw [hnB, Y.stackName]; decide)
  have bP := Cond.laysApart hdB hdP hdnB hdnP (by rw [hnB, Y.suppName]; decide)
  have hskip : SkipFacts T e.platform s (fun u => u) u0 ((preparedCellV T.toThrowableT (freshCell P1.m.cls kX) a u0 sen).withEntry W.cur) :=
    ⟨{ ci198 := ci198, i198 := i198, fBack := fB }, ⟨hk198, hg198, ha198, hsB⟩, by
      have := fresh_default (c := P1.m.cls) tyB
      rw [htB] at this
      simpa [preparedCellV, Cell.setSlot, Cell.withEntry, Array.getElem?_setIfInBounds, bC, bS, bP, bC.symm, bS.symm, bP.symm, defaultValue] using this, fun _ _ => rfl⟩
  obtain ⟨tm, methC, cdC, kC, vm₁, hnC, -, -, -, -, -, -, -, hW₁, st1⟩ := Steps.initColdS (tb := p.tables) (e := e) (below := below) (s := s) (U := W) X.here hexec X.warmed hpl hown (t := Bundle.initS cls) rfl rfl (Bundle.fit_spec hcls).2
    (a' (.methodLink own ic (Bundle.initS cls)) (by simp [Bundle.ownAtoms])) (h (.instanceMethod (Bundle.initS cls)) (by cases names <;> simp [Bundle.ownAtoms, Bundle.chainSAtoms, Bundle.passSAtoms])) (bytes := Bundle.six) (maxL := 2) (h (.code (Bundle.initS cls) Bundle.six 2 none) (by cases names <;> simp [Bundle.ownAtoms, Bundle.chainSAtoms, Bundle.passSAtoms]))
    (f := g) hg (a := a) (msg := msg) (rest := .ref a :: rest) hstack hd6
  cases Option.some.inj (hnC.symm.trans hP1m)
  have X₁ := X.noted hW₁
  obtain ⟨vm₂, X₂, st2⟩ := X₁.ctorMessageOffV hexec (g := { g with stack := .ref a :: rest }) hg hsize T L Z LZ M LM (P1 :: Ps)
    (fun P hP => by rcases List.mem_cons.mp hP with rfl | hP; exact L1; exact hL P hP) ⟨hlink1, hlink⟩ (u0 := u0) (sen := sen) (self := a) hmsg (cell := freshCell P1.m.cls kX) (cellS := cellS)
    hcell (fun _ => by simp) (by simp) rfl rfl hsel0 hselF hcellS hneS hknownS (by rw [hkeep _ (hout' _)]; exact hu0) (by rw [hkeep _ (hout' _)]; exact hsen)
    (Takes.of_laid hk hord tyC (by rw [Y.causeType]; rfl)) (Takes.of_laid hk hord tyS (by rw [Y.stackType]; exact fits_refV_array _ u0)) (Takes.of_laid hk hord tyP (by rw [Y.suppType]; exact fits_refV_object _ sen))
    (Takes.of_laid hk hord tyM (by rw [Y.msgType]; exact fits_refV_object _ ⟨msg, hmsg⟩)) Y.objLocals hskip htr [] hd6
    (by simp only [List.length_cons, hlen]; omega) (by simp only [List.length_cons, hlen]; exact hRlocals)
  have hlt : a < ((W.setVm vm₁).setVm vm₂).heap.size := (Array.getElem?_eq_some_iff.mp hcell).1
  refine ⟨(W.setVm vm₁).setVm vm₂, _, _, X₂, fun y hy => ?_, hlt, rfl, rfl, fun target hwalk => st1 _ (fun acts => ?_)⟩
  · simp only [List.mem_cons, List.not_mem_nil, or_false] at hy
    rcases hy with rfl | rfl | rfl | rfl | rfl <;> rfl
  · rw [doInvoke_state]
    exact st2 _ hwalk
set_option maxHeartbeats 1000000 in
theorem vx_ctorMade0 (X : Stand p l e R s m₀ args below meth c W locs cells slots) (hexec : p.tables.exec = Jvm.exec) (htr : e.platform.stackTraces = false) {own cls : String} {names : List String} {ic : Nat}
    (hown : s.vm.findClass own = some m₀.cls) (hcls : Bundle.fit cls = true) (hnames : ∀ n ∈ names, Bundle.fit n = true)
    (h : ∀ a ∈ Bundle.ownAtoms0 own ic cls names, a.before args s = true)
    (hlocs : ∀ x ∈ locs, ∀ cell, s.heap[x.base]? = some cell → cell.vm.isStatics = false)
    {a : Addr} {cX : ClassId} {kX : Class} (hfoundX : s.vm.findClass cls = some cX) (hkX : s.vm.classes[cX]? = some kX) (hcell : W.heap[a]? = some (freshCell cX kX)) (hnew : s.heap.size ≤ a)
    {g : JFrame} (hg : g.method = m₀) (hsize : g.locals.size = c.maxLocals) {rest : List Value} (hstack : g.stack = .ref a :: .ref a :: rest)
    (hd6 : decode c.code g.pc = .ok (.invokespecial ic, 3))
    (hRframes : names.length + 3 < R.frames) (hRlocals : 2 * g.monitorRoom + ((Value.ref a :: rest).map fun v => v.category).sum + (13 * (names.length + 1) + 41) ≤ R.locals) :
    ∃ (V : State) (ce : Cell) (L : List Loc), Stand p l e R s m₀ args below meth c (V.setCell a ce) (locs ++ L) cells slots ∧ (∀ y ∈ L, y.base = a) ∧ a < V.heap.size ∧ ce.cls = cX ∧ ce.vm = .none ∧
      ∀ target, Steps p.tables e below ((V.setCell a ce).setTop { g with stack := .ref a :: rest, pc := g.pc + 3 }) target → Steps p.tables e below (W.setTop g) target := by
  have howns : e.platform.frameOwnsMonitors = true := by rw [X.admits.platform]
  have hfin : e.platform.finalization = false := by rw [X.admits.platform]
  have hpl : e.platform.magicAccessors = ({} : Platform).magicAccessors := by rw [X.admits.platform]
  have a' : ∀ x, x ∈ Bundle.ownAtoms0 own ic cls names → x.holds args s none s [] = true := fun x hx => h x hx
  obtain ⟨T, Z, L, LZ, Y⟩ := ThrowableC.of_atoms (args := args) howns hfin hpl (fun x hx => h x (by simp [Bundle.ownAtoms0, hx]))
  obtain ⟨P1, Ps, hlen, L1, hL, hP1m, hlink1, hlink⟩ := Bundle.chain0 (args := args) hpl Y.init0 names cls hcls hnames (fun x hx => h x (by simp [Bundle.ownAtoms0, hx]))
  have hfound : s.vm.findClass cls = some P1.m.cls := findClass_of_methodNamed hP1m
  cases Option.some.inj (hfoundX.symm.trans hfound)
  obtain ⟨c1, kX', hc1, hk, hord, -, -, hn6⟩ := Cond.instantiable_spec (a' (.instantiable cls 6) (by simp [Bundle.ownAtoms0]))
  cases Option.some.inj (hc1.symm.trans hfound)
  cases Option.some.inj (hkX.symm.trans hk)
  have hsel0 : selectMethod e.platform s.vm P1.m.cls T.fill0 = .method T.fill0 := by
    obtain ⟨c2, r2, m2, q1, q2, q3, q4, -⟩ := Cond.selects_spec (a' (.selects cls Bundle.tFill0 Bundle.tFill0) (by simp [Bundle.ownAtoms0]))
    cases Option.some.inj (q1.symm.trans hfound)
    cases Option.some.inj (q2.symm.trans (State.methodFound?_of_named Y.fill0 (by decide)))
    cases Option.some.inj (q3.symm.trans Y.fill0)
    rw [Launch.admits_selectMethod X.admits]; exact q4
  have hselF : selectMethod e.platform s.vm P1.m.cls T.fill = .method T.fill := by
    obtain ⟨c2, r2, m2, q1, q2, q3, q4, -⟩ := Cond.selects_spec (a' (.selects cls Bundle.tFill Bundle.tFill) (by simp [Bundle.ownAtoms0]))
    cases Option.some.inj (q1.symm.trans hfound)
    cases Option.some.inj (q2.symm.trans (State.methodFound?_of_named Y.fill (by decide)))
    cases Option.some.inj (q3.symm.trans Y.fill)
    rw [Launch.admits_selectMethod X.admits]; exact q4
  obtain ⟨cellS0, hcS0, hiss⟩ := Y.statics
  obtain ⟨u0, hu0⟩ := Cond.staticRefV Y.unassigned L.unassignedStatic L.statics hcS0 hiss (a' (.isRef (.static Bundle.tN "UNASSIGNED_STACK" Bundle.steD)) (by simp [Bundle.ownAtoms0]))
  obtain ⟨sen, hsen⟩ := Cond.staticRefV Y.sentinel L.sentinelStatic L.statics hcS0 hiss (a' (.isRef (.static Bundle.tN "SUPPRESSED_SENTINEL" Bundle.listD)) (by simp [Bundle.ownAtoms0]))
  obtain ⟨ci198, i198, fB, hk198, hg198, ha198, hsB, -, hnB, htB, hffB⟩ := Cond.ownField (t := .object "java/lang/Object") Y.found L.cls (by decide +kernel) (a' (.fieldLink Bundle.tN 198 Bundle.tN "backtrace" "Ljava/lang/Object;") (by simp [Bundle.ownAtoms0])) (a' (.lays Bundle.tN Bundle.tN "backtrace" "Ljava/lang/Object;") (by simp [Bundle.ownAtoms0])) e.platform hpl
  obtain ⟨cellS, hcS', heS, -, hkeep⟩ := X.same.2.2.2.2.2 T.aS cellS0 hcS0
  have hcellS : W.heap[T.aS]? = some cellS := hcS'
  have hout' : ∀ i, (⟨T.aS, i⟩ : Loc) ∉ locs := fun i hmem => by
    have := hlocs _ hmem cellS0 hcS0
    rw [hiss] at this; cases this
  have hknownS : cellS.vm ≠ .unknown := by
    rw [heS]; intro hu
    rw [show cellS0.vm = .unknown from hu] at hiss
    cases hiss
  have hneS : T.aS ≠ a := Nat.ne_of_lt (Nat.lt_of_lt_of_le (Array.getElem?_eq_some_iff.mp hcS0).1 hnew)
  obtain ⟨iM, hffM⟩ := Y.msg
  obtain ⟨tyC, dC, hdC, hdnC⟩ := Cond.laysAt hfound hk Y.cause (a' (.lays cls Bundle.tN "cause" "Ljava/lang/Throwable;") (by simp [Bundle.ownAtoms0]))
  obtain ⟨tyS, dS, hdS, hdnS⟩ := Cond.laysAt hfound hk Y.stack (a' (.lays cls Bundle.tN "stackTrace" Bundle.steD) (by simp [Bundle.ownAtoms0]))
  obtain ⟨tyP, dP, hdP, hdnP⟩ := Cond.laysAt hfound hk Y.supp (a' (.lays cls Bundle.tN "suppressedExceptions" Bundle.listD) (by simp [Bundle.ownAtoms0]))
  obtain ⟨tyM, dM, hdM, hdnM⟩ := Cond.laysAt hfound hk hffM (a' (.lays cls Bundle.tN "detailMessage" "Ljava/lang/String;") (by simp [Bundle.ownAtoms0]))
  obtain ⟨tyB, dB, hdB, hdnB⟩ := Cond.laysAt hfound hk hffB (a' (.lays cls Bundle.tN "backtrace" "Ljava/lang/Object;") (by simp [Bundle.ownAtoms0]))
  have bC := Cond.laysApart hdB hdC hdnB hdnC (by rw [hnB, Y.causeName]; decide)
  have bS := Cond.laysApart hdB hdS hdnB hdnS (by rw [hnB, Y.stackName]; decide)
  have bP := Cond.laysApart hdB hdP hdnB hdnP (by rw [hnB, Y.suppName]; decide)
  have hskip : SkipFacts T e.platform s (fun u => u) u0 ((preparedCellV T.toThrowableT (freshCell P1.m.cls kX) a u0 sen).withEntry W.cur) :=
    ⟨{ ci198 := ci198, i198 := i198, fBack := fB }, ⟨hk198, hg198, ha198, hsB⟩, by
      have := fresh_default (c := P1.m.cls) tyB
      rw [htB] at this
      simpa [preparedCellV, Cell.setSlot, Cell.withEntry, Array.getElem?_setIfInBounds, bC, bS, bP, bC.symm, bS.symm, bP.symm, defaultValue] using this, fun _ _ => rfl⟩
  obtain ⟨tm, methC, cdC, kC, vm₁, hnC, -, -, -, -, -, -, -, hW₁, st1⟩ := Steps.initCold (tb := p.tables) (e := e) (below := below) (s := s) (U := W) X.here hexec X.warmed hpl hown (t := Bundle.init0 cls) rfl rfl (Bundle.fit_spec hcls).2
    (a' (.methodLink own ic (Bundle.init0 cls)) (by simp [Bundle.ownAtoms0])) (h (.instanceMethod (Bundle.init0 cls)) (by cases names <;> simp [Bundle.ownAtoms0, Bundle.chain0Atoms, Bundle.passAtoms])) (bytes := Bundle.five) (maxL := 1) (h (.code (Bundle.init0 cls) Bundle.five 1 none) (by cases names <;> simp [Bundle.ownAtoms0, Bundle.chain0Atoms, Bundle.passAtoms]))
    (f := g) hg (a := a) (rest := .ref a :: rest) hstack hd6
  cases Option.some.inj (hnC.symm.trans hP1m)
  have X₁ := X.noted hW₁
  obtain ⟨vm₂, X₂, st2⟩ := X₁.ctorPlainOffV hexec (g := { g with stack := .ref a :: rest }) hg hsize T L Z LZ (P1 :: Ps)
    (fun P hP => by rcases List.mem_cons.mp hP with rfl | hP; exact L1; exact hL P hP) ⟨hlink1, hlink⟩ (u0 := u0) (sen := sen) (self := a) (cell := freshCell P1.m.cls kX) (cellS := cellS)
    hcell (fun _ => by simp) (by simp) rfl rfl hsel0 hselF hcellS hneS hknownS (by rw [hkeep _ (hout' _)]; exact hu0) (by rw [hkeep _ (hout' _)]; exact hsen)
    (Takes.of_laid hk hord tyC (by rw [Y.causeType]; rfl)) (Takes.of_laid hk hord tyS (by rw [Y.stackType]; exact fits_refV_array _ u0)) (Takes.of_laid hk hord tyP (by rw [Y.suppType]; exact fits_refV_object _ sen)) Y.objLocals hskip htr [] hd6
    (by simp only [List.length_cons, hlen]; omega) (by simp only [List.length_cons, hlen]; exact hRlocals)
  have hlt : a < ((W.setVm vm₁).setVm vm₂).heap.size := (Array.getElem?_eq_some_iff.mp hcell).1
  refine ⟨(W.setVm vm₁).setVm vm₂, _, _, X₂, fun y hy => ?_, hlt, rfl, rfl, fun target hwalk => st1 _ (fun acts => ?_)⟩
  · simp only [List.mem_cons, List.not_mem_nil, or_false] at hy
    rcases hy with rfl | rfl | rfl | rfl <;> rfl
  · rw [doInvoke_state]
    exact st2 _ hwalk
end VXK
section VXK2
variable {p : Program} {l : Launch} {e : Env} {R : Room} {s : State} {m : MethodId} {args : Array Value} {below : List Frame} {meth : Method} {c : Code} {H : Heap} {locs : List Loc} {cells slots : Nat} {Q : State → Prop}
variable {ls : Array Slot} {rest : List Value} {D : va_G} {cl : List vw_C} {tys : List (ClassId × FieldType)} {ws : va_W}
/-- 'new E("text")' that isn't thrown at once: the object goes on the stack -/
theorem vx_makeS {cc : ByteArray} {pc : Nat} (hexec : p.tables.exec = Jvm.exec) (hb : c.code = cc) (hl : l.stackTraces = false) {own cls text : String} {names : List String} {ik is ic sa ci : Nat} {A : Nat → Prop} {T0 : u_T}
    (hown : s.vm.findClass own = some m.cls) (hcls : Bundle.fit cls = true) (hnames : ∀ n ∈ names, Bundle.fit n = true)
    (hk : (Cond.classLink own ik cls).before args s = true) (hini : (Cond.initialized cls).before args s = true) (hstr : vk_R own is text sa s) (hat : ∀ w ∈ vx_atS own ic cls names, w.before args s = true)
    (hgood : ∀ w ∈ Cond.classLink own ik cls :: Cond.initialized cls :: vx_atS own ic cls names, vx_ot w = true)
    (hU : vx_Zq Bundle.tN "UNASSIGNED_STACK" Bundle.steD A s s.heap) (hN : vx_Zq Bundle.tN "SUPPRESSED_SENTINEL" Bundle.listD A s s.heap) (hS : va_S A s.heap H locs) (hsize : ls.size = c.maxLocals)
    (d0 : decode cc pc = .ok (.new ik, 3)) (d3 : decode cc (pc + 3) = .ok (.dup, 1)) (d4 : decode cc (pc + 4) = .ok (.ldc is, 2)) (d6 : decode cc (pc + 6) = .ok (.invokespecial ic, 3))
    (hK : va_K D cl tys s) (hP : va_P D cl ws H) (hD : va_D A ws) (hA : ∀ q, s.heap.size ≤ q → A q) (hc : cl[ci]? = some (cls, T0, 0))
    (hRframes : names.length + 3 < R.frames) (hRlocals : (rest.map fun v => v.category).sum + (13 * (names.length + 1) + 43) ≤ R.locals) (hRcells : cells + 1 ≤ R.cells) (hRslots : slots + 6 ≤ R.slots)
    (kk : ∀ (q : Nat) (H1 : Heap), va_P D cl (ws ++ [(q, .inr (ci, []))]) H1 → va_D A (ws ++ [(q, .inr (ci, []))]) → va_S A s.heap H1 locs → W p l e R s m args below meth c H1 locs (cells + 1) (slots + 6) Q (F0 m (pc + 9) ls (.ref q :: rest))) :
    W p l e R s m args below meth c H locs cells slots Q (F0 m pc ls rest) := by
  intro T hT X
  subst hT
  have htr : e.platform.stackTraces = false := (show e.platform.stackTraces = l.stackTraces by rw [X.admits.platform]).trans hl
  have Y := vx_rebase X (R' := { frames := R.frames, locals := R.locals, cells := 1, slots := 6 }) (Nat.le_refl _) (Nat.le_refl _) hRcells hRslots
  obtain ⟨s', hA'⟩ : ∃ z, z = (T.setVm s.vm).setFrames (.invoking m args :: below) := ⟨_, rfl⟩
  rw [← hA'] at Y
  have hvm : s'.vm = s.vm := by rw [hA']; rfl
  have hhp : s'.heap = T.heap := by rw [hA']; rfl
  have hW0 : s.WarmedH s'.vm := by rw [hvm]; exact State.WarmedH.refl s
  have hat' : ∀ w ∈ vx_atS own ic cls names, w.before args s' = true := fun w hw => vx_ot_at hW0 hvm.symm (hgood w (List.mem_cons_of_mem _ (List.mem_cons_of_mem _ hw))) (hat w hw)
  have hk' : (Cond.classLink own ik cls).before args s' = true := vx_ot_at hW0 hvm.symm (hgood _ List.mem_cons_self) hk
  have hini' : (Cond.initialized cls).before args s' = true := vx_ot_at hW0 hvm.symm (hgood _ (List.mem_cons_of_mem _ List.mem_cons_self)) hini
  have hU' : vx_Zq Bundle.tN "UNASSIGNED_STACK" Bundle.steD A s' s'.heap := by rw [hhp]; exact vx_Zq.moved hW0.alike (hU.kept hS.2.1)
  have hN' : vx_Zq Bundle.tN "SUPPRESSED_SENTINEL" Bundle.listD A s' s'.heap := by rw [hhp]; exact vx_Zq.moved hW0.alike (hN.kept hS.2.1)
  have h : ∀ w ∈ Bundle.ownAtoms own ic cls names, w.before args s' = true := vx_own hat' (vx_isRefq hU'.1) (vx_isRefq hN'.1) hU'.2.word hN'.2.word
  have hown' : s'.vm.findClass own = some m.cls := by rw [hvm]; exact hown
  have hins : (Cond.instantiable cls 6).before args s' = true := h _ (by simp [Bundle.ownAtoms])
  obtain ⟨vm₁, cX, kX, hfX, hkX, -, -, X₁, st1⟩ := Y.newCold hexec (own := own) (C := cls) (index := ik) (n := 6) hown' hk' hins hini'
    (g := F0 m pc ls rest) rfl (by rw [hb]; exact d0) (Nat.le_refl _) (Nat.le_refl _)
  generalize hT1 : (T.setVm vm₁).pushCell { cls := cX, slots := kX.instanceTypes.map defaultValue, vm := .none } = T1 at X₁ st1
  have hcat : (Value.ref T.heap.size).category = 1 := rfl
  have hcellA : T1.heap[T.heap.size]? = some (freshCell cX kX) := by rw [← hT1]; exact State.heap_pushCell_size _ _
  have d3' : decode c.code (pc + 3) = .ok (.dup, 1) := by rw [hb]; exact d3
  have d4' : decode c.code (pc + 4) = .ok (.ldc is, 2) := by rw [hb]; exact d4
  have hstr' : vk_R own is text sa s' := vk_R.warm hW0 hstr
  obtain ⟨V, ce, L, Z, hL, hlt, hcl9, hvm9, st⟩ := vx_ctorMadeS X₁ hexec htr (own := own) (cls := cls) (names := names) (ic := ic) hown' hcls hnames h (fun x hx => nomatch hx) hfX hkX hcellA (by rw [hhp]; exact Nat.le_refl _) (msg := .ref sa) rfl
    (g := { method := m, pc := pc + 6, locals := ls, stack := .ref sa :: .ref T.heap.size :: .ref T.heap.size :: rest, locked := none }) rfl hsize (rest := rest) rfl
    (by rw [hb]; exact d6) hRframes (by simp only [List.map_cons, List.sum_cons, hcat]; omega)
  have Z0 := Stand.forget (locs := []) Z (fun y hy => by rw [hL y hy, hhp]; exact Nat.le_refl _)
  obtain ⟨f1, f2⟩ := vx_frame Z0.same
  rw [hhp] at f1 f2
  have hcid : ce.cls = D.1 ci := by
    rw [hcl9]
    have h1 := (hK.1 ci _ hc).2.1
    rw [hvm] at hfX
    exact Option.some.inj (hfX.symm.trans h1)
  have hh : (V.setCell T.heap.size ce).heap[T.heap.size]? = some ce := heapAt_setCell_self (s := V) ce hlt
  subst hA'
  have X5 := vx_back9 X Y Z0
  have X6 : Stand p l e R s m args below meth c (V.setCell T.heap.size ce) locs (cells + 1) (slots + 6) := { X5 with same := X5.same.mono (by omega) (by omega) }
  have hk9 : ∀ (k : Nat) (x : Nat × va_E), ws[k]? = some x → (V.setCell T.heap.size ce).heap[x.1]? = T.heap[x.1]? := fun k x hx => f2 x.1 ((hP k x hx).lt) (fun z hz => nomatch hz)
  obtain ⟨t, a1, b1⟩ := kk T.heap.size (V.setCell T.heap.size ce).heap ((hP.kept hk9).app (fun k x hx => by
      have hz : k < 1 := (List.getElem?_eq_some_iff.mp hx).1
      rw [show k = 0 by omega] at hx
      cases hx
      exact ⟨_, hc, ce, hh, hcid, hvm9, fun k hk => absurd hk (Nat.not_lt_zero k)⟩)) (hD.push hP rfl (hA _ hS.1)) ⟨Nat.le_trans hS.1 f1, fun q h1 h2 => (f2 q (Nat.lt_of_lt_of_le h1 hS.1) (fun z hz => nomatch hz)).trans (hS.2.1 q h1 h2), hS.2.2⟩ _ rfl X6
  refine ⟨t, st1 _ ?_, b1⟩
  show Steps p.tables e below (T1.setTop { method := m, pc := pc + 3, locals := ls, stack := .ref T.heap.size :: rest, locked := none }) _
  jvm_step X₁.here [X₁.here.top, hexec, d3', Value.category]
  exact X₁.ldcString hexec (own := own) (text := text) (index := is) (a := sa) hown' hstr'.1 hstr'.2
    (g := { method := m, pc := pc + 4, locals := ls, stack := .ref T.heap.size :: .ref T.heap.size :: rest, locked := none }) rfl d4' _ (st _ a1)
/-- 'new E()' that isn't thrown at once: the object goes on the stack -/
theorem vx_make0 {cc : ByteArray} {pc : Nat} (hexec : p.tables.exec = Jvm.exec) (hb : c.code = cc) (hl : l.stackTraces = false) {own cls : String} {names : List String} {ik ic ci : Nat} {A : Nat → Prop} {T0 : u_T}
    (hown : s.vm.findClass own = some m.cls) (hcls : Bundle.fit cls = true) (hnames : ∀ n ∈ names, Bundle.fit n = true)
    (hk : (Cond.classLink own ik cls).before args s = true) (hini : (Cond.initialized cls).before args s = true) (hat : ∀ w ∈ vx_at0 own ic cls names, w.before args s = true)
    (hgood : ∀ w ∈ Cond.classLink own ik cls :: Cond.initialized cls :: vx_at0 own ic cls names, vx_ot w = true)
    (hU : vx_Zq Bundle.tN "UNASSIGNED_STACK" Bundle.steD A s s.heap) (hN : vx_Zq Bundle.tN "SUPPRESSED_SENTINEL" Bundle.listD A s s.heap) (hS : va_S A s.heap H locs) (hsize : ls.size = c.maxLocals)
    (d0 : decode cc pc = .ok (.new ik, 3)) (d3 : decode cc (pc + 3) = .ok (.dup, 1)) (d4 : decode cc (pc + 4) = .ok (.invokespecial ic, 3))
    (hK : va_K D cl tys s) (hP : va_P D cl ws H) (hD : va_D A ws) (hA : ∀ q, s.heap.size ≤ q → A q) (hc : cl[ci]? = some (cls, T0, 0))
    (hRframes : names.length + 3 < R.frames) (hRlocals : (rest.map fun v => v.category).sum + (13 * (names.length + 1) + 42) ≤ R.locals) (hRcells : cells + 1 ≤ R.cells) (hRslots : slots + 6 ≤ R.slots)
    (kk : ∀ (q : Nat) (H1 : Heap), va_P D cl (ws ++ [(q, .inr (ci, []))]) H1 → va_D A (ws ++ [(q, .inr (ci, []))]) → va_S A s.heap H1 locs → W p l e R s m args below meth c H1 locs (cells + 1) (slots + 6) Q (F0 m (pc + 7) ls (.ref q :: rest))) :
    W p l e R s m args below meth c H locs cells slots Q (F0 m pc ls rest) := by
  intro T hT X
  subst hT
  have htr : e.platform.stackTraces = false := (show e.platform.stackTraces = l.stackTraces by rw [X.admits.platform]).trans hl
  have Y := vx_rebase X (R' := { frames := R.frames, locals := R.locals, cells := 1, slots := 6 }) (Nat.le_refl _) (Nat.le_refl _) hRcells hRslots
  obtain ⟨s', hA'⟩ : ∃ z, z = (T.setVm s.vm).setFrames (.invoking m args :: below) := ⟨_, rfl⟩
  rw [← hA'] at Y
  have hvm : s'.vm = s.vm := by rw [hA']; rfl
  have hhp : s'.heap = T.heap := by rw [hA']; rfl
  have hW0 : s.WarmedH s'.vm := by rw [hvm]; exact State.WarmedH.refl s
  have hat' : ∀ w ∈ vx_at0 own ic cls names, w.before args s' = true := fun w hw => vx_ot_at hW0 hvm.symm (hgood w (List.mem_cons_of_mem _ (List.mem_cons_of_mem _ hw))) (hat w hw)
  have hk' : (Cond.classLink own ik cls).before args s' = true := vx_ot_at hW0 hvm.symm (hgood _ List.mem_cons_self) hk
  have hini' : (Cond.initialized cls).before args s' = true := vx_ot_at hW0 hvm.symm (hgood _ (List.mem_cons_of_mem _ List.mem_cons_self)) hini
  have hU' : vx_Zq Bundle.tN "UNASSIGNED_STACK" Bundle.steD A s' s'.heap := by rw [hhp]; exact vx_Zq.moved hW0.alike (hU.kept hS.2.1)
  have hN' : vx_Zq Bundle.tN "SUPPRESSED_SENTINEL" Bundle.listD A s' s'.heap := by rw [hhp]; exact vx_Zq.moved hW0.alike (hN.kept hS.2.1)
  have h : ∀ w ∈ Bundle.ownAtoms0 own ic cls names, w.before args s' = true := vx_own hat' (vx_isRefq hU'.1) (vx_isRefq hN'.1) hU'.2.word hN'.2.word
  have hown' : s'.vm.findClass own = some m.cls := by rw [hvm]; exact hown
  have hins : (Cond.instantiable cls 6).before args s' = true := h _ (by simp [Bundle.ownAtoms0])
  obtain ⟨vm₁, cX, kX, hfX, hkX, -, -, X₁, st1⟩ := Y.newCold hexec (own := own) (C := cls) (index := ik) (n := 6) hown' hk' hins hini'
    (g := F0 m pc ls rest) rfl (by rw [hb]; exact d0) (Nat.le_refl _) (Nat.le_refl _)
  generalize hT1 : (T.setVm vm₁).pushCell { cls := cX, slots := kX.instanceTypes.map defaultValue, vm := .none } = T1 at X₁ st1
  have hcat : (Value.ref T.heap.size).category = 1 := rfl
  have hcellA : T1.heap[T.heap.size]? = some (freshCell cX kX) := by rw [← hT1]; exact State.heap_pushCell_size _ _
  have d3' : decode c.code (pc + 3) = .ok (.dup, 1) := by rw [hb]; exact d3
  obtain ⟨V, ce, L, Z, hL, hlt, hcl9, hvm9, st⟩ := vx_ctorMade0 X₁ hexec htr (own := own) (cls := cls) (names := names) (ic := ic) hown' hcls hnames h (fun x hx => nomatch hx) hfX hkX hcellA (by rw [hhp]; exact Nat.le_refl _)
    (g := { method := m, pc := pc + 4, locals := ls, stack := .ref T.heap.size :: .ref T.heap.size :: rest, locked := none }) rfl hsize (rest := rest) rfl
    (by rw [hb]; exact d4) hRframes (by simp only [List.map_cons, List.sum_cons, hcat]; omega)
  have Z0 := Stand.forget (locs := []) Z (fun y hy => by rw [hL y hy, hhp]; exact Nat.le_refl _)
  obtain ⟨f1, f2⟩ := vx_frame Z0.same
  rw [hhp] at f1 f2
  have hcid : ce.cls = D.1 ci := by
    rw [hcl9]
    have h1 := (hK.1 ci _ hc).2.1
    rw [hvm] at hfX
    exact Option.some.inj (hfX.symm.trans h1)
  have hh : (V.setCell T.heap.size ce).heap[T.heap.size]? = some ce := heapAt_setCell_self (s := V) ce hlt
  subst hA'
  have X5 := vx_back9 X Y Z0
  have X6 : Stand p l e R s m args below meth c (V.setCell T.heap.size ce) locs (cells + 1) (slots + 6) := { X5 with same := X5.same.mono (by omega) (by omega) }
  have hk9 : ∀ (k : Nat) (x : Nat × va_E), ws[k]? = some x → (V.setCell T.heap.size ce).heap[x.1]? = T.heap[x.1]? := fun k x hx => f2 x.1 ((hP k x hx).lt) (fun z hz => nomatch hz)
  obtain ⟨t, a1, b1⟩ := kk T.heap.size (V.setCell T.heap.size ce).heap ((hP.kept hk9).app (fun k x hx => by
      have hz : k < 1 := (List.getElem?_eq_some_iff.mp hx).1
      rw [show k = 0 by omega] at hx
      cases hx
      exact ⟨_, hc, ce, hh, hcid, hvm9, fun k hk => absurd hk (Nat.not_lt_zero k)⟩)) (hD.push hP rfl (hA _ hS.1)) ⟨Nat.le_trans hS.1 f1, fun q h1 h2 => (f2 q (Nat.lt_of_lt_of_le h1 hS.1) (fun z hz => nomatch hz)).trans (hS.2.1 q h1 h2), hS.2.2⟩ _ rfl X6
  refine ⟨t, st1 _ ?_, b1⟩
  show Steps p.tables e below (T1.setTop { method := m, pc := pc + 3, locals := ls, stack := .ref T.heap.size :: rest, locked := none }) _
  jvm_step X₁.here [X₁.here.top, hexec, d3', Value.category]
  exact st _ a1
/-- 'throw x' of an object that was made before -/
theorem vx_athrow {cc : ByteArray} {pc : Nat} (hexec : p.tables.exec = Jvm.exec) (hb : c.code = cc) {q : Addr} (hdg : decode cc pc = .ok (.athrow, 1)) (k : vx_W p l e R s m args below meth c H locs cells slots Q (F0 m pc ls rest) q) : W p l e R s m args below meth c H locs cells slots Q (F0 m pc ls (.ref q :: rest)) := by
  intro T hT X
  obtain ⟨t, st, hq⟩ := k T hT X
  refine ⟨t, ?_, hq⟩
  have hdg' : decode c.code pc = .ok (.athrow, 1) := by rw [hb]; exact hdg
  jvm_step X.here [X.here.top, hexec, hdg', athrow.wp_sem]
  exact st
end VXK2
/-! ===== END ===== -/
/-! ===== BEGIN a constructor that throws (launches without stack traces) ===== -/
section VXIA
variable {p : Program} {l : Launch} {e : Env} {R : Room} {s : State} {m : MethodId} {args : Array Value} {below : List Frame} {meth : Method} {c : Code} {T : State} {locs : List Loc} {cells slots : Nat}
theorem vx_callI (X : Stand p l e R s m args below meth c T locs cells slots) (hexec : p.tables.exec = Jvm.exec) {own : String} {index : Nat} {y : MethodName} {bytes : ByteArray} {maxL : Nat}
    (hown : s.vm.findClass own = some m.cls) (hy1 : y.name = "<init>") (hlink : (Cond.methodLink own index y).before args s = true) (hinst : (Cond.instanceMethod y).before args s = true)
    (hcode : (Cond.code y bytes maxL none).before args s = true) (hy : y.cls ≠ "java/lang/invoke/MethodHandle" ∧ y.cls ≠ "java/lang/invoke/VarHandle")
    {W9 : Nat} {Pre : Pt → Array Value → Prop} {Post : Pt → Array Value → Option Value → Pt → Prop} {PostX : Pt → Array Value → Addr → Pt → Prop} (hK : vx_Back l R p e below s args y 3 W9 Pre Post PostX)
    {g : JFrame} (hg : g.method = m) (hsize : g.locals.size = c.maxLocals) {a : Addr} {argsL rest : List Value} (hlen : ∀ sig, parseMethodDescriptor y.desc = some sig → argsL.length = sig.parameters.length)
    (hstack : g.stack = argsL.reverse ++ .ref a :: rest) (hW : 2 * g.monitorRoom + (rest.map fun v => v.category).sum ≤ W9) (hdg : decode c.code g.pc = .ok (.invokespecial index, 3))
    (hpre : ∀ vm₁, s.WarmedH vm₁ → Pre ⟨T.setVm vm₁, locs, cells, slots⟩ (Value.ref a :: argsL).toArray) :
    (∃ (v : Option Value) (vm₁ : Vm) (B : Pt), s.WarmedH vm₁ ∧ Stand p l e R s m args below meth c B.U B.locs B.cells B.slots ∧ Post ⟨T.setVm vm₁, locs, cells, slots⟩ (Value.ref a :: argsL).toArray v B ∧
      ∀ target, Steps p.tables e below (B.U.setTop { g with pc := g.pc + 3, stack := v.toList ++ rest }) target → Steps p.tables e below (T.setTop g) target) ∨
    (∃ (q : Addr) (vm₁ : Vm) (B : Pt), s.WarmedH vm₁ ∧ Stand p l e R s m args below meth c B.U B.locs B.cells B.slots ∧ PostX ⟨T.setVm vm₁, locs, cells, slots⟩ (Value.ref a :: argsL).toArray q B ∧
      Steps p.tables e below (T.setTop g) ((B.U.setTop { g with stack := rest }).pushFrame (.throwing q))) := by
  subst hg
  have hpl : e.platform.magicAccessors = ({} : Platform).magicAccessors := by rw [X.admits.platform]
  obtain ⟨mk, methM, cM, kP, vm₁, hnamed, hmethM, hcodeM, -, hlocalsM, -, hkP, -, hW₁, hstep₁⟩ := Steps.initColdArgs (e := e) X.here hexec X.warmed hpl hown hy1 hy hlink hinst hcode (f := g) rfl hlen hstack hdg
  have X₁ := X.noted hW₁
  rcases hK g.method meth c ⟨T.setVm vm₁, locs, cells, slots⟩ { g with stack := rest } (.invokespecial index) mk (Value.ref a :: argsL).toArray X₁ rfl hsize hdg hW (X₁.named hnamed) (hpre vm₁ X₁.warmed) with ⟨v, B, X', hpost, hsteps⟩ | ⟨q, B, X', hpost, hsteps⟩
  · exact Or.inl ⟨v, vm₁, B, X₁.warmed, X', hpost, fun target h => hstep₁ _ fun acts => by rw [doInvoke_state]; exact hsteps.trans h⟩
  · exact Or.inr ⟨q, vm₁, B, X₁.warmed, X', hpost, hstep₁ _ fun acts => by rw [doInvoke_state]; exact hsteps⟩
end VXIA
section VXIB
variable {p : Program} {l : Launch} {e : Env} {R : Room} {s : State} {m : MethodId} {args : Array Value} {below : List Frame} {meth : Method} {c : Code} {H : Heap} {locs : List Loc} {cells slots : Nat}
variable {y : MethodName} {bytes cc : ByteArray} {maxL nL mc ms n index : Nat} {ret : Option FieldType} {ws : List Cond} {rm : Room} {Pc : Array Value → State → Prop} {Qc : Array Value → State → Outcome → State → Prop} {XC : String → State → State → Prop} {free : Addr → Prop} {Ts : List Cond} {own C : String} {b : Addr} {As rest : List Value} {g : JFrame}
theorem vx_runI (S : CallFix p m c cc nL s args Ts own) (hM : vx_Met l y ws rm Pc Qc XC mc ms free) (cw : CallB R s args own index y bytes maxL none ws rm mc ms n ∧ y.name = "<init>" ∧ (Cond.instanceMethod y).before args s = true) (hp : PreS s H Pc (.ref b :: As))
    (hg : g.method = m) (hn : As.length = n) (hsize : g.locals.size = nL) (hstack : g.stack = As.reverse ++ .ref b :: rest) (hW : 2 * g.monitorRoom + (rest.map fun v => v.category).sum ≤ 8) (hdg : decode cc g.pc = .ok (.invokespecial index, 3)) (hf : cells + mc ≤ R.cells ∧ slots + ms ≤ R.slots) :
    vx_Run p l e R s m args below meth c H locs cells slots mc ms g rest (Qc (Value.ref b :: As).toArray) XC free := by
  have hK : vx_Back l R p e below s args y 3 8 (PreOf R mc ms Pc) (PostOf Qc mc ms free) (vx_Post XC mc ms free) := vx_callBack cw.1 hM hp.1
  obtain ⟨⟨-, -, -, -, -, -, hcode, -, hy, hlen, hl⟩, hy1, hin⟩ := cw
  obtain ⟨hx, hb, hml, ho, -⟩ := S
  have hPc := hp.2
  intro T hT X
  rcases vx_callI X hx (bytes := bytes) (maxL := maxL) ho hy1 hl hin hcode hy hK hg (hsize.trans hml.symm) (a := b) (argsL := As) (rest := rest) (fun sig h => hn.trans (hlen sig h)) hstack hW (by rw [hb]; exact hdg)
    (fun vm₁ hW₁ => ⟨hf.1, hf.2, hPc (T.setVm vm₁) hT hW₁⟩) with ⟨v, vm₁, ⟨U', l2, c2, s2⟩, hW₁, X', ⟨g', mk, t, L, e1, e2, hq, h1, hL, h2, h3⟩, st⟩ | ⟨q, vm₁, ⟨U', l2, c2, s2⟩, hW₁, X', ⟨g', mk, t, L, E, ce, e1, e2, hq, hce, hcv, hcl, h1, hL, h2, h3⟩, st⟩
  · dsimp only [Pt.U, Pt.locs, Pt.cells, Pt.slots] at X' e1 e2 h1 h2 h3 st
    subst h1; subst h2; subst h3
    exact Or.inl ⟨v, (T.setVm vm₁).calling g' mk (Value.ref b :: As).toArray, t, U', L, hT, X', hL, e1, e2, hq, st⟩
  · dsimp only [Pt.U, Pt.locs, Pt.cells, Pt.slots] at X' e1 e2 h1 h2 h3 st hcl
    subst h1; subst h2; subst h3
    exact Or.inr ⟨q, (T.setVm vm₁).calling g' mk (Value.ref b :: As).toArray, t, U', L, E, ce, hT, X', hL, e1, e2, hq, hce, hcv, vx_cls hW₁ hcl, st⟩
end VXIB
/-! ===== END ===== -/
/-! ===== BEGIN a private constructor of a nest mate that throws ===== -/
section VXIC
variable {p : Program} {l : Launch} {e : Env} {R : Room} {s : State} {m : MethodId} {args : Array Value} {below : List Frame} {meth : Method} {c : Code} {T : State} {locs : List Loc} {cells slots : Nat}
theorem vx_callIN (X : Stand p l e R s m args below meth c T locs cells slots) (hexec : p.tables.exec = Jvm.exec) {own : String} {index : Nat} {host : String} {y : MethodName} {bytes : ByteArray} {maxL : Nat}
    (hown : s.vm.findClass own = some m.cls) (hy1 : y.name = "<init>") (hlink : (Cond.methodLinkNest own index y host).before args s = true) (hinst : (Cond.instanceMethod y).before args s = true)
    (hcode : (Cond.code y bytes maxL none).before args s = true) (hy : y.cls ≠ "java/lang/invoke/MethodHandle" ∧ y.cls ≠ "java/lang/invoke/VarHandle")
    {W9 : Nat} {Pre : Pt → Array Value → Prop} {Post : Pt → Array Value → Option Value → Pt → Prop} {PostX : Pt → Array Value → Addr → Pt → Prop} (hK : vx_Back l R p e below s args y 3 W9 Pre Post PostX)
    {g : JFrame} (hg : g.method = m) (hsize : g.locals.size = c.maxLocals) {a : Addr} {argsL rest : List Value} (hlen : ∀ sig, parseMethodDescriptor y.desc = some sig → argsL.length = sig.parameters.length)
    (hstack : g.stack = argsL.reverse ++ .ref a :: rest) (hW : 2 * g.monitorRoom + (rest.map fun v => v.category).sum ≤ W9) (hdg : decode c.code g.pc = .ok (.invokespecial index, 3))
    (hpre : ∀ vm₁, s.WarmedH vm₁ → Pre ⟨T.setVm vm₁, locs, cells, slots⟩ (Value.ref a :: argsL).toArray) :
    (∃ (v : Option Value) (vm₁ : Vm) (B : Pt), s.WarmedH vm₁ ∧ Stand p l e R s m args below meth c B.U B.locs B.cells B.slots ∧ Post ⟨T.setVm vm₁, locs, cells, slots⟩ (Value.ref a :: argsL).toArray v B ∧
      ∀ target, Steps p.tables e below (B.U.setTop { g with pc := g.pc + 3, stack := v.toList ++ rest }) target → Steps p.tables e below (T.setTop g) target) ∨
    (∃ (q : Addr) (vm₁ : Vm) (B : Pt), s.WarmedH vm₁ ∧ Stand p l e R s m args below meth c B.U B.locs B.cells B.slots ∧ PostX ⟨T.setVm vm₁, locs, cells, slots⟩ (Value.ref a :: argsL).toArray q B ∧
      Steps p.tables e below (T.setTop g) ((B.U.setTop { g with stack := rest }).pushFrame (.throwing q))) := by
  subst hg
  have hpl : e.platform.magicAccessors = ({} : Platform).magicAccessors := by rw [X.admits.platform]
  obtain ⟨mk, methM, cM, kP, vm₁, hnamed, hmethM, hcodeM, -, hlocalsM, -, hkP, -, hW₁, hstep₁⟩ := Steps.initColdArgsNest (e := e) X.here hexec X.warmed hpl hown hy1 hy hlink hinst hcode (f := g) rfl hlen hstack hdg
  have X₁ := X.noted hW₁
  rcases hK g.method meth c ⟨T.setVm vm₁, locs, cells, slots⟩ { g with stack := rest } (.invokespecial index) mk (Value.ref a :: argsL).toArray X₁ rfl hsize hdg hW (X₁.named hnamed) (hpre vm₁ X₁.warmed) with ⟨v, B, X', hpost, hsteps⟩ | ⟨q, B, X', hpost, hsteps⟩
  · exact Or.inl ⟨v, vm₁, B, X₁.warmed, X', hpost, fun target h => hstep₁ _ fun acts => by rw [doInvoke_state]; exact hsteps.trans h⟩
  · exact Or.inr ⟨q, vm₁, B, X₁.warmed, X', hpost, hstep₁ _ fun acts => by rw [doInvoke_state]; exact hsteps⟩
end VXIC
section VXID
variable {p : Program} {l : Launch} {e : Env} {R : Room} {s : State} {m : MethodId} {args : Array Value} {below : List Frame} {meth : Method} {c : Code} {H : Heap} {locs : List Loc} {cells slots : Nat}
theorem vx_runIN {y : MethodName} {bytes cc : ByteArray} {maxL nL mc ms n index : Nat} {ws : List Cond} {rm : Room} {Pc : Array Value → State → Prop} {Qc : Array Value → State → Outcome → State → Prop} {XC : String → State → State → Prop} {free : Addr → Prop} {Ts : List Cond} {own host : String} {b : Addr} {As rest : List Value} {g : JFrame}
    (S : CallFix p m c cc nL s args Ts own) (hM : vx_Met l y ws rm Pc Qc XC mc ms free) (cw : va_CN R s args own index y host bytes maxL none ws rm mc ms n ∧ y.name = "<init>" ∧ (Cond.instanceMethod y).before args s = true) (hp : PreS s H Pc (.ref b :: As))
    (hg : g.method = m) (hn : As.length = n) (hsize : g.locals.size = nL) (hstack : g.stack = As.reverse ++ .ref b :: rest) (hW : 2 * g.monitorRoom + (rest.map fun v => v.category).sum ≤ 8) (hdg : decode cc g.pc = .ok (.invokespecial index, 3)) (hf : cells + mc ≤ R.cells ∧ slots + ms ≤ R.slots) :
    vx_Run p l e R s m args below meth c H locs cells slots mc ms g rest (Qc (Value.ref b :: As).toArray) XC free := by
  obtain ⟨⟨⟨hrc, hrs, hfr, hlo, hws, hcw⟩, hcode, hini, hy, hlen, hl⟩, hx1, hx2⟩ := cw
  have hK : vx_Back l R p e below s args y 3 8 (PreOf R mc ms Pc) (PostOf Qc mc ms free) (vx_Post XC mc ms free) := vx_back (bytes := bytes) (maxL := maxL) (ret := none) hM hp.1 hrc hrs hfr hlo hws hcw (fun a' U hW => word_at hW (Or.inl (by first | rfl | simp [Cond.onTables, Cond.keeps, Cond.steady])) hini)
  obtain ⟨hx, hb, hml, ho, -⟩ := S
  have hPc := hp.2
  intro T hT X
  rcases vx_callIN X hx (bytes := bytes) (maxL := maxL) ho hx1 hl hx2 hcode hy hK hg (hsize.trans hml.symm) (a := b) (argsL := As) (rest := rest) (fun sig h => hn.trans (hlen sig h)) hstack hW (by rw [hb]; exact hdg)
    (fun vm₁ hW₁ => ⟨hf.1, hf.2, hPc (T.setVm vm₁) hT hW₁⟩) with ⟨v, vm₁, ⟨U', l2, c2, s2⟩, hW₁, X', ⟨g', mk, t, L, e1, e2, hq, h1, hL, h2, h3⟩, st⟩ | ⟨q, vm₁, ⟨U', l2, c2, s2⟩, hW₁, X', ⟨g', mk, t, L, E, ce, e1, e2, hq, hce, hcv, hcl, h1, hL, h2, h3⟩, st⟩
  · dsimp only [Pt.U, Pt.locs, Pt.cells, Pt.slots] at X' e1 e2 h1 h2 h3 st
    subst h1; subst h2; subst h3
    exact Or.inl ⟨v, (T.setVm vm₁).calling g' mk (Value.ref b :: As).toArray, t, U', L, hT, X', hL, e1, e2, hq, st⟩
  · dsimp only [Pt.U, Pt.locs, Pt.cells, Pt.slots] at X' e1 e2 h1 h2 h3 st hcl
    subst h1; subst h2; subst h3
    exact Or.inr ⟨q, (T.setVm vm₁).calling g' mk (Value.ref b :: As).toArray, t, U', L, E, ce, hT, X', hL, e1, e2, hq, hce, hcv, vx_cls hW₁ hcl, st⟩
end VXID
/-! ===== END ===== -/
/-! ===== BEGIN a method of a class above, found by the receiver, that may throw (follows va_callVU, va_runU of this kit) ===== -/
section
variable {p : Program} {l : Launch} {e : Env} {R : Room} {s : State} {m : MethodId} {args : Array Value} {below : List Frame} {meth : Method} {c : Code} {H : Heap} {locs : List Loc} {cells slots : Nat}
theorem vx_callVU {T : State} {locs : List Loc} {cells slots : Nat} (X : Stand p l e R s m args below meth c T locs cells slots) (hexec : p.tables.exec = Jvm.exec) {own C owner : String} {index : Nat} {x y : MethodName} {bytes : ByteArray} {maxL : Nat} {ret : Option FieldType}
    (hown : s.vm.findClass own = some m.cls) (hlink : (Cond.methodLink own index x).before args s = true) (hsame : (Cond.sameMethod x.cls owner x.name x.desc).before args s = true)
    (hd0 : va_Decl s ⟨owner, x.name, x.desc⟩) (howner : owner ≠ "java/lang/invoke/MethodHandle" ∧ owner ≠ "java/lang/invoke/VarHandle")
    (hsel : (Cond.selects C x y).before args s = true) (hinst : (Cond.instanceMethod y).before args s = true) (hcode : (Cond.code y bytes maxL ret).before args s = true)
    {W : Nat} {Pre : Pt → Array Value → Prop} {Post : Pt → Array Value → Option Value → Pt → Prop} {PostX : Pt → Array Value → Addr → Pt → Prop} (hK : vx_Back l R p e below s args y 3 W Pre Post PostX)
    {b : Addr} {cellB : Cell} (hcell : T.heap[b]? = some cellB) (hobj : cellB.vm.isStatics = false) (hcls : s.vm.findClass C = some cellB.cls)
    {g : JFrame} (hg : g.method = m) (hsize : g.locals.size = c.maxLocals) {argsL rest : List Value} (hlen : ∀ sig, parseMethodDescriptor x.desc = some sig → argsL.length = sig.parameters.length)
    (hstack : g.stack = argsL.reverse ++ .ref b :: rest) (hW : 2 * g.monitorRoom + (rest.map fun v => v.category).sum ≤ W) (hdg : decode c.code g.pc = .ok (.invokevirtual index, 3))
    (hpre : ∀ vm₁, s.WarmedH vm₁ → Pre ⟨T.setVm vm₁, locs, cells, slots⟩ (Value.ref b :: argsL).toArray) :
    (∃ (v : Option Value) (vm₁ : Vm) (B : Pt), s.WarmedH vm₁ ∧ Stand p l e R s m args below meth c B.U B.locs B.cells B.slots ∧ Post ⟨T.setVm vm₁, locs, cells, slots⟩ (Value.ref b :: argsL).toArray v B ∧
      ∀ target, Steps p.tables e below (B.U.setTop { g with pc := g.pc + 3, stack := v.toList ++ rest }) target → Steps p.tables e below (T.setTop g) target) ∨
    (∃ (q : Addr) (vm₁ : Vm) (B : Pt), s.WarmedH vm₁ ∧ Stand p l e R s m args below meth c B.U B.locs B.cells B.slots ∧ PostX ⟨T.setVm vm₁, locs, cells, slots⟩ (Value.ref b :: argsL).toArray q B ∧
      Steps p.tables e below (T.setTop g) ((B.U.setTop { g with stack := rest }).pushFrame (.throwing q))) := by
  obtain ⟨r0, r, hn, hrm, hstR, hsigR⟩ := hd0
  obtain ⟨cn, ck, r1, hcn, hck, hni, hf, hn1⟩ := Cond.sameMethod_found hsame
  cases hn.symm.trans hn1
  obtain ⟨mk, methM, hnamed, hmethM, -, habM⟩ := Cond.instanceMethod_spec hinst
  obtain ⟨c2, r2, m2, q1, q2, q3, q4, kP, hkP, hkPi⟩ := Cond.selects_spec hsel
  cases hcls.symm.trans q1
  cases hf.symm.trans q2
  cases hnamed.symm.trans q3
  have hselP : selectMethod e.platform s.vm cellB.cls r0 = .method mk := by rw [Launch.admits_selectMethod X.admits]; exact q4
  obtain ⟨vm₁, X₁, hstep₁⟩ := X.invokevirtualUp hexec hown hlink hsame howner hn hrm hstR (a := b) (cell := cellB) hcell
    (fun z h => by rw [h] at hobj; cases hobj) hselP hmethM habM hkP hkPi (g := g) hg (argsL := argsL) (rest := rest) (hlen _ hsigR) hstack hdg
  rcases hK m meth c ⟨T.setVm vm₁, locs, cells, slots⟩ { g with stack := rest } (.invokevirtual index) mk (Value.ref b :: argsL).toArray X₁ hg hsize hdg hW (X₁.named hnamed) (hpre vm₁ X₁.warmed) with ⟨v, B, X', hpost, hsteps⟩ | ⟨q, B, X', hpost, hsteps⟩
  · exact Or.inl ⟨v, vm₁, B, X₁.warmed, X', hpost, fun target h => hstep₁ _ fun acts => by rw [doInvoke_state]; exact hsteps.trans h⟩
  · exact Or.inr ⟨q, vm₁, B, X₁.warmed, X', hpost, hstep₁ _ fun acts => by rw [doInvoke_state]; exact hsteps⟩
theorem vx_runU {x y : MethodName} {bytes cc : ByteArray} {maxL nL mc ms n index : Nat} {ret : Option FieldType} {ws : List Cond} {rm : Room} {Pc : Array Value → State → Prop} {Qc : Array Value → State → Outcome → State → Prop} {XC : String → State → State → Prop} {free : Addr → Prop} {Ts : List Cond} {own C owner : String} {b : Addr} {As rest : List Value} {g : JFrame}
    (S : CallFix p m c cc nL s args Ts own) (hM : vx_Met l y ws rm Pc Qc XC mc ms free) (cw : va_CU R s args own C owner index x y bytes maxL ret ws rm mc ms n) (hp : PreV s H C b Pc As)
    (hg : g.method = m) (hn : As.length = n) (hsize : g.locals.size = nL) (hstack : g.stack = As.reverse ++ .ref b :: rest) (hW : 2 * g.monitorRoom + (rest.map fun v => v.category).sum ≤ 8) (hdg : decode cc g.pc = .ok (.invokevirtual index, 3)) (hf : cells + mc ≤ R.cells ∧ slots + ms ≤ R.slots) :
    vx_Run p l e R s m args below meth c H locs cells slots mc ms g rest (Qc (Value.ref b :: As).toArray) XC free := by
  obtain ⟨hrc, hrs, hfr, hlo, hws, hcw⟩ := cw.back
  have hini := cw.init
  have hK : vx_Back l R p e below s args y 3 8 (PreOf R mc ms Pc) (PostOf Qc mc ms free) (vx_Post XC mc ms free) := vx_back (bytes := bytes) (maxL := maxL) (ret := ret) hM hp.1 hrc hrs hfr hlo hws hcw (fun a' U hW => word_at hW (Or.inl (by first | rfl | simp [Cond.onTables, Cond.keeps, Cond.steady])) hini)
  obtain ⟨hx, hb, hml, ho, -⟩ := S
  obtain ⟨-, ⟨cellB, hcB, hoB, hclB⟩, hPc⟩ := hp
  intro T hT X
  rcases vx_callVU X hx (C := C) (owner := owner) (bytes := bytes) (maxL := maxL) (ret := ret) ho cw.link cw.same cw.decl cw.notMH cw.sel cw.inst cw.code hK (by rw [hT]; exact hcB) hoB hclB hg (hsize.trans hml.symm) (argsL := As) (rest := rest) (fun sig h => hn.trans (cw.len sig h)) hstack hW (by rw [hb]; exact hdg)
    (fun vm₁ hW₁ => ⟨hf.1, hf.2, hPc (T.setVm vm₁) hT hW₁⟩) with ⟨v, vm₁, ⟨U', l2, c2, s2⟩, hW₁, X', ⟨g', mk, t, L, e1, e2, hq, h1, hL, h2, h3⟩, st⟩ | ⟨q, vm₁, ⟨U', l2, c2, s2⟩, hW₁, X', ⟨g', mk, t, L, E, ce, e1, e2, hq, hce, hcv, hcl, h1, hL, h2, h3⟩, st⟩
  · dsimp only [Pt.U, Pt.locs, Pt.cells, Pt.slots] at X' e1 e2 h1 h2 h3 st
    subst h1; subst h2; subst h3
    exact Or.inl ⟨v, (T.setVm vm₁).calling g' mk (Value.ref b :: As).toArray, t, U', L, hT, X', hL, e1, e2, hq, st⟩
  · dsimp only [Pt.U, Pt.locs, Pt.cells, Pt.slots] at X' e1 e2 h1 h2 h3 st hcl
    subst h1; subst h2; subst h3
    exact Or.inr ⟨q, (T.setVm vm₁).calling g' mk (Value.ref b :: As).toArray, t, U', L, E, ce, hT, X', hL, e1, e2, hq, hce, hcv, vx_cls hW₁ hcl, st⟩
end
/-! ===== END ===== -/
/-! ===== BEGIN super.m(..) that may throw (follows va_callSU, va_runSU) ===== -/
section
variable {p : Program} {l : Launch} {e : Env} {R : Room} {s : State} {m : MethodId} {args : Array Value} {below : List Frame} {meth : Method} {c : Code} {H : Heap} {locs : List Loc} {cells slots : Nat}
theorem vx_callSU {T : State} {locs : List Loc} {cells slots : Nat} (X : Stand p l e R s m args below meth c T locs cells slots) (hexec : p.tables.exec = Jvm.exec) {own : String} {index : Nat} {y : MethodName} {bytes : ByteArray} {maxL : Nat} {ret : Option FieldType}
    (hown : s.vm.findClass own = some m.cls) (hlink : (Cond.methodLink own index y).before args s = true) (hsame : (Cond.sameMethod y.cls y.cls y.name y.desc).before args s = true) (hsup : (Cond.superclass own y.cls).before args s = true)
    (hinst : (Cond.instanceMethod y).before args s = true) (hcode : (Cond.code y bytes maxL ret).before args s = true) (hno : y.name ≠ "<init>")
    {W : Nat} {Pre : Pt → Array Value → Prop} {Post : Pt → Array Value → Option Value → Pt → Prop} {PostX : Pt → Array Value → Addr → Pt → Prop} (hK : vx_Back l R p e below s args y 3 W Pre Post PostX)
    {b : Addr} {cellB : Cell} {kB : Class} (hcell : T.heap[b]? = some cellB) (hobj : cellB.vm.isStatics = false) (hkB : s.vm.classes[cellB.cls]? = some kB)
    {g : JFrame} (hg : g.method = m) (hsize : g.locals.size = c.maxLocals) {argsL rest : List Value} (hlen : ∀ sig, parseMethodDescriptor y.desc = some sig → argsL.length = sig.parameters.length)
    (hstack : g.stack = argsL.reverse ++ .ref b :: rest) (hW : 2 * g.monitorRoom + (rest.map fun v => v.category).sum ≤ W) (hdg : decode c.code g.pc = .ok (.invokespecial index, 3))
    (hpre : ∀ vm₁, s.WarmedH vm₁ → Pre ⟨T.setVm vm₁, locs, cells, slots⟩ (Value.ref b :: argsL).toArray) :
    (∃ (v : Option Value) (vm₁ : Vm) (B : Pt), s.WarmedH vm₁ ∧ Stand p l e R s m args below meth c B.U B.locs B.cells B.slots ∧ Post ⟨T.setVm vm₁, locs, cells, slots⟩ (Value.ref b :: argsL).toArray v B ∧
      ∀ target, Steps p.tables e below (B.U.setTop { g with pc := g.pc + 3, stack := v.toList ++ rest }) target → Steps p.tables e below (T.setTop g) target) ∨
    (∃ (q : Addr) (vm₁ : Vm) (B : Pt), s.WarmedH vm₁ ∧ Stand p l e R s m args below meth c B.U B.locs B.cells B.slots ∧ PostX ⟨T.setVm vm₁, locs, cells, slots⟩ (Value.ref b :: argsL).toArray q B ∧
      Steps p.tables e below (T.setTop g) ((B.U.setTop { g with stack := rest }).pushFrame (.throwing q))) := by
  obtain ⟨mk, methM, hnamed, hmethM, hstM, habM⟩ := Cond.instanceMethod_spec hinst
  obtain ⟨methM', cM, hmethM', -, -, -, -, -, -, hsigM⟩ := Cond.code_spec hnamed hcode
  cases hmethM.symm.trans hmethM'
  obtain ⟨ps, dk, kp, hps, hdk, hkp, hsuper, -, -, hnid⟩ := Cond.superclass_spec hown hsup
  have hn : s.methodNamed? ⟨y.cls, y.name, y.desc⟩ = some mk := hnamed
  have hpm : ps = mk.cls := Option.some.inj (hps.symm.trans (findClass_of_methodNamed hnamed))
  have hsub : s.vm.isSubclass ps mk.cls = true := by rw [hpm]; simp [Vm.isSubclass, Vm.isSubclassAux]
  obtain ⟨vm₁, X₁, hstep₁⟩ := X.invokespecialUp hexec hown hlink hsame hn hmethM hstM habM hno hdk hnid hps hsuper hsub (a := b) (cell := cellB) hcell
    (fun z h => by rw [h] at hobj; cases hobj) hkB (g := g) hg (argsL := argsL) (rest := rest) (hlen _ hsigM) hstack hdg
  rcases hK m meth c ⟨T.setVm vm₁, locs, cells, slots⟩ { g with stack := rest } (.invokespecial index) mk (Value.ref b :: argsL).toArray X₁ hg hsize hdg hW (X₁.named hnamed) (hpre vm₁ X₁.warmed) with ⟨v, B, X', hpost, hsteps⟩ | ⟨q, B, X', hpost, hsteps⟩
  · exact Or.inl ⟨v, vm₁, B, X₁.warmed, X', hpost, fun target h => hstep₁ _ (by rw [doInvoke_state]; exact hsteps.trans h)⟩
  · exact Or.inr ⟨q, vm₁, B, X₁.warmed, X', hpost, hstep₁ _ (by rw [doInvoke_state]; exact hsteps)⟩
theorem vx_runSU {y : MethodName} {bytes cc : ByteArray} {maxL nL mc ms n index : Nat} {ret : Option FieldType} {ws : List Cond} {rm : Room} {Pc : Array Value → State → Prop} {Qc : Array Value → State → Outcome → State → Prop} {XC : String → State → State → Prop} {free : Addr → Prop} {Ts : List Cond} {own C : String} {cC : ClassId} {b : Addr} {As rest : List Value} {g : JFrame}
    (hat : ClassAt s C cC) (S : CallFix p m c cc nL s args Ts own) (hM : vx_Met l y ws rm Pc Qc XC mc ms free) (cw : va_CS R s args own index y bytes maxL ret ws rm mc ms n) (hp : PreV s H C b Pc As)
    (hg : g.method = m) (hn : As.length = n) (hsize : g.locals.size = nL) (hstack : g.stack = As.reverse ++ .ref b :: rest) (hW : 2 * g.monitorRoom + (rest.map fun v => v.category).sum ≤ 8) (hdg : decode cc g.pc = .ok (.invokespecial index, 3)) (hf : cells + mc ≤ R.cells ∧ slots + ms ≤ R.slots) :
    vx_Run p l e R s m args below meth c H locs cells slots mc ms g rest (Qc (Value.ref b :: As).toArray) XC free := by
  obtain ⟨⟨hrc, hrs, hfr, hlo, hws, hcw⟩, hl1, hl2, hl3, hl4, hini, hcode, hno, hlen⟩ := cw
  have hK : vx_Back l R p e below s args y 3 8 (PreOf R mc ms Pc) (PostOf Qc mc ms free) (vx_Post XC mc ms free) := vx_back (bytes := bytes) (maxL := maxL) (ret := ret) hM hp.1 hrc hrs hfr hlo hws hcw (fun a' U hW => word_at hW (Or.inl (by first | rfl | simp [Cond.onTables, Cond.keeps, Cond.steady])) hini)
  obtain ⟨hx, hb, hml, ho, -⟩ := S
  obtain ⟨-, ⟨cellB, hcB, hoB, hclB⟩, hPc⟩ := hp
  obtain ⟨hfc, kB, hkB, -⟩ := hat
  cases hfc.symm.trans hclB
  intro T hT X
  rcases vx_callSU X hx (bytes := bytes) (maxL := maxL) (ret := ret) ho hl1 hl2 hl3 hl4 hcode hno hK (by rw [hT]; exact hcB) hoB hkB hg (hsize.trans hml.symm) (argsL := As) (rest := rest) (fun sig h => hn.trans (hlen sig h)) hstack hW (by rw [hb]; exact hdg)
    (fun vm₁ hW₁ => ⟨hf.1, hf.2, hPc (T.setVm vm₁) hT hW₁⟩) with ⟨v, vm₁, ⟨U', l2, c2, s2⟩, hW₁, X', ⟨g', mk, t, L, e1, e2, hq, h1, hL, h2, h3⟩, st⟩ | ⟨q, vm₁, ⟨U', l2, c2, s2⟩, hW₁, X', ⟨g', mk, t, L, E, ce, e1, e2, hq, hce, hcv, hcl, h1, hL, h2, h3⟩, st⟩
  · dsimp only [Pt.U, Pt.locs, Pt.cells, Pt.slots] at X' e1 e2 h1 h2 h3 st
    subst h1; subst h2; subst h3
    exact Or.inl ⟨v, (T.setVm vm₁).calling g' mk (Value.ref b :: As).toArray, t, U', L, hT, X', hL, e1, e2, hq, st⟩
  · dsimp only [Pt.U, Pt.locs, Pt.cells, Pt.slots] at X' e1 e2 h1 h2 h3 st hcl
    subst h1; subst h2; subst h3
    exact Or.inr ⟨q, (T.setVm vm₁).calling g' mk (Value.ref b :: As).toArray, t, U', L, E, ce, hT, X', hL, e1, e2, hq, hce, hcv, vx_cls hW₁ hcl, st⟩
end
/-! ===== END ===== -/
/-! ===== BEGIN a private method of a nest mate that may throw (follows va_callVN, va_callSN, va_runVN, va_runSN) ===== -/
section
variable {p : Program} {l : Launch} {e : Env} {R : Room} {s : State} {m : MethodId} {args : Array Value} {below : List Frame} {meth : Method} {c : Code} {H : Heap} {locs : List Loc} {cells slots : Nat}
variable {T : State}
theorem vx_callVN (X : Stand p l e R s m args below meth c T locs cells slots) (hexec : p.tables.exec = Jvm.exec) {own C : String} {index : Nat} {host : String} {y : MethodName} {bytes : ByteArray} {maxL : Nat} {ret : Option FieldType}
    (hown : s.vm.findClass own = some m.cls) (hlink : (Cond.methodLinkNest own index y host).before args s = true) (hinst : (Cond.instanceMethod y).before args s = true) (hsel : (Cond.selects C y y).before args s = true)
    (hcode : (Cond.code y bytes maxL ret).before args s = true) (hy : y.cls ≠ "java/lang/invoke/MethodHandle" ∧ y.cls ≠ "java/lang/invoke/VarHandle")
    {W : Nat} {Pre : Pt → Array Value → Prop} {Post : Pt → Array Value → Option Value → Pt → Prop} {PostX : Pt → Array Value → Addr → Pt → Prop} (hK : vx_Back l R p e below s args y 3 W Pre Post PostX)
    {b : Addr} {cellB : Cell} (hcell : T.heap[b]? = some cellB) (hobj : cellB.vm.isStatics = false) (hcls : s.vm.findClass C = some cellB.cls)
    {g : JFrame} (hg : g.method = m) (hsize : g.locals.size = c.maxLocals) {argsL rest : List Value} (hlen : ∀ sig, parseMethodDescriptor y.desc = some sig → argsL.length = sig.parameters.length)
    (hstack : g.stack = argsL.reverse ++ .ref b :: rest) (hW : 2 * g.monitorRoom + (rest.map fun v => v.category).sum ≤ W) (hdg : decode c.code g.pc = .ok (.invokevirtual index, 3))
    (hpre : ∀ vm₁, s.WarmedH vm₁ → Pre ⟨T.setVm vm₁, locs, cells, slots⟩ (Value.ref b :: argsL).toArray) :
    (∃ (v : Option Value) (vm₁ : Vm) (B : Pt), s.WarmedH vm₁ ∧ Stand p l e R s m args below meth c B.U B.locs B.cells B.slots ∧ Post ⟨T.setVm vm₁, locs, cells, slots⟩ (Value.ref b :: argsL).toArray v B ∧
      ∀ target, Steps p.tables e below (B.U.setTop { g with pc := g.pc + 3, stack := v.toList ++ rest }) target → Steps p.tables e below (T.setTop g) target) ∨
    (∃ (q : Addr) (vm₁ : Vm) (B : Pt), s.WarmedH vm₁ ∧ Stand p l e R s m args below meth c B.U B.locs B.cells B.slots ∧ PostX ⟨T.setVm vm₁, locs, cells, slots⟩ (Value.ref b :: argsL).toArray q B ∧
      Steps p.tables e below (T.setTop g) ((B.U.setTop { g with stack := rest }).pushFrame (.throwing q))) := by
  obtain ⟨mk, methM, hnamed, hmethM, hstM, habM⟩ := Cond.instanceMethod_spec hinst
  obtain ⟨methM', cM, hmethM', -, -, -, -, -, -, hsigM⟩ := Cond.code_spec hnamed hcode
  cases hmethM.symm.trans hmethM'
  obtain ⟨c2, r2, m2, q1, q2, q3, q4, kP, hkP, hkPi⟩ := Cond.selects_spec hsel
  cases hcls.symm.trans q1
  cases (State.methodFound?_of_named hnamed hy).symm.trans q2
  cases hnamed.symm.trans q3
  have hselP : selectMethod e.platform s.vm cellB.cls mk = .method mk := by rw [Launch.admits_selectMethod X.admits]; exact q4
  obtain ⟨vm₁, X₁, hstep₁⟩ := X.invokevirtualNest hexec hown hlink hnamed hmethM hstM hkP hkPi hy (a := b) (cell := cellB) hcell
    (fun z h => by rw [h] at hobj; cases hobj) hselP hmethM habM hkP hkPi (g := g) hg (argsL := argsL) (rest := rest) (hlen _ hsigM) hstack hdg
  rcases hK m meth c ⟨T.setVm vm₁, locs, cells, slots⟩ { g with stack := rest } (.invokevirtual index) mk (Value.ref b :: argsL).toArray X₁ hg hsize hdg hW (X₁.named hnamed) (hpre vm₁ X₁.warmed) with ⟨v, B, X', hpost, hsteps⟩ | ⟨q, B, X', hpost, hsteps⟩
  · exact Or.inl ⟨v, vm₁, B, X₁.warmed, X', hpost, fun target h => hstep₁ _ fun acts => by rw [doInvoke_state]; exact hsteps.trans h⟩
  · exact Or.inr ⟨q, vm₁, B, X₁.warmed, X', hpost, hstep₁ _ fun acts => by rw [doInvoke_state]; exact hsteps⟩
theorem vx_callSN (X : Stand p l e R s m args below meth c T locs cells slots) (hexec : p.tables.exec = Jvm.exec) {own : String} {index : Nat} {host : String} {y : MethodName} {bytes : ByteArray} {maxL : Nat} {ret : Option FieldType}
    (hown : s.vm.findClass own = some m.cls) (hlink : (Cond.methodLinkNest own index y host).before args s = true) (hstat : (Cond.static y).before args s = true) (hinit : (Cond.initialized y.cls).before args s = true)
    (hcode : (Cond.code y bytes maxL ret).before args s = true) (hy : y.cls ≠ "java/lang/invoke/MethodHandle" ∧ y.cls ≠ "java/lang/invoke/VarHandle")
    {W : Nat} {Pre : Pt → Array Value → Prop} {Post : Pt → Array Value → Option Value → Pt → Prop} {PostX : Pt → Array Value → Addr → Pt → Prop} (hK : vx_Back l R p e below s args y 3 W Pre Post PostX)
    {g : JFrame} (hg : g.method = m) (hsize : g.locals.size = c.maxLocals) {argsL rest : List Value} (hlen : ∀ sig, parseMethodDescriptor y.desc = some sig → argsL.length = sig.parameters.length)
    (hstack : g.stack = argsL.reverse ++ rest) (hW : 2 * g.monitorRoom + (rest.map fun v => v.category).sum ≤ W) (hdg : decode c.code g.pc = .ok (.invokestatic index, 3))
    (hpre : ∀ vm₁, s.WarmedH vm₁ → Pre ⟨T.setVm vm₁, locs, cells, slots⟩ argsL.toArray) :
    (∃ (v : Option Value) (vm₁ : Vm) (B : Pt), s.WarmedH vm₁ ∧ Stand p l e R s m args below meth c B.U B.locs B.cells B.slots ∧ Post ⟨T.setVm vm₁, locs, cells, slots⟩ argsL.toArray v B ∧
      ∀ target, Steps p.tables e below (B.U.setTop { g with pc := g.pc + 3, stack := v.toList ++ rest }) target → Steps p.tables e below (T.setTop g) target) ∨
    (∃ (q : Addr) (vm₁ : Vm) (B : Pt), s.WarmedH vm₁ ∧ Stand p l e R s m args below meth c B.U B.locs B.cells B.slots ∧ PostX ⟨T.setVm vm₁, locs, cells, slots⟩ argsL.toArray q B ∧
      Steps p.tables e below (T.setTop g) ((B.U.setTop { g with stack := rest }).pushFrame (.throwing q))) := by
  obtain ⟨mk, hnamed⟩ := Cond.code_named hcode
  obtain ⟨methM, cM, hmethM, -, -, -, -, -, -, hsigM⟩ := Cond.code_spec hnamed hcode
  have hstatic : methM.isStatic = true := Cond.static_spec hnamed hmethM hstat
  obtain ⟨kP, hkP, -⟩ := className_of_methodNamed hnamed
  have hinitP : kP.init = .initialized := Cond.initialized_spec (findClass_of_methodNamed hnamed) hkP hinit
  obtain ⟨vm₁, X₁, hstep₁⟩ := X.invokestaticNest hexec hown hlink hnamed hmethM hstatic hkP hinitP hy (g := g) hg (argsL := argsL) (rest := rest) (hlen _ hsigM) hstack hdg
  rcases hK m meth c ⟨T.setVm vm₁, locs, cells, slots⟩ { g with stack := rest } (.invokestatic index) mk argsL.toArray X₁ hg hsize hdg hW (X₁.named hnamed) (hpre vm₁ X₁.warmed) with ⟨v, B, X', hpost, hsteps⟩ | ⟨q, B, X', hpost, hsteps⟩
  · exact Or.inl ⟨v, vm₁, B, X₁.warmed, X', hpost, fun target h => hstep₁ _ fun acts => by rw [doInvoke_state]; exact hsteps.trans h⟩
  · exact Or.inr ⟨q, vm₁, B, X₁.warmed, X', hpost, hstep₁ _ fun acts => by rw [doInvoke_state]; exact hsteps⟩
theorem vx_runVN {y : MethodName} {bytes cc : ByteArray} {maxL nL mc ms n index : Nat} {ret : Option FieldType} {ws : List Cond} {rm : Room} {Pc : Array Value → State → Prop} {Qc : Array Value → State → Outcome → State → Prop} {XC : String → State → State → Prop} {free : Addr → Prop} {Ts : List Cond} {own C host : String} {b : Addr} {As rest : List Value} {g : JFrame}
    (S : CallFix p m c cc nL s args Ts own) (hM : vx_Met l y ws rm Pc Qc XC mc ms free) (cw : va_CN R s args own index y host bytes maxL ret ws rm mc ms n ∧ (Cond.instanceMethod y).before args s = true ∧ (Cond.selects C y y).before args s = true) (hp : PreV s H C b Pc As)
    (hg : g.method = m) (hn : As.length = n) (hsize : g.locals.size = nL) (hstack : g.stack = As.reverse ++ .ref b :: rest) (hW : 2 * g.monitorRoom + (rest.map fun v => v.category).sum ≤ 8) (hdg : decode cc g.pc = .ok (.invokevirtual index, 3)) (hf : cells + mc ≤ R.cells ∧ slots + ms ≤ R.slots) :
    vx_Run p l e R s m args below meth c H locs cells slots mc ms g rest (Qc (Value.ref b :: As).toArray) XC free := by
  obtain ⟨⟨⟨hrc, hrs, hfr, hlo, hws, hcw⟩, hcode, hini, hy, hlen, hl⟩, hx1, hx2⟩ := cw
  have hK : vx_Back l R p e below s args y 3 8 (PreOf R mc ms Pc) (PostOf Qc mc ms free) (vx_Post XC mc ms free) := vx_back (bytes := bytes) (maxL := maxL) (ret := ret) hM hp.1 hrc hrs hfr hlo hws hcw (fun a' U hW => word_at hW (Or.inl (by first | rfl | simp [Cond.onTables, Cond.keeps, Cond.steady])) hini)
  obtain ⟨hx, hb, hml, ho, -⟩ := S
  obtain ⟨-, ⟨cellB, hcB, hoB, hclB⟩, hPc⟩ := hp
  intro T hT X
  rcases vx_callVN X hx (C := C) (bytes := bytes) (maxL := maxL) (ret := ret) ho hl hx1 hx2 hcode hy hK (by rw [hT]; exact hcB) hoB hclB hg (hsize.trans hml.symm) (argsL := As) (rest := rest) (fun sig h => hn.trans (hlen sig h)) hstack hW (by rw [hb]; exact hdg)
    (fun vm₁ hW₁ => ⟨hf.1, hf.2, hPc (T.setVm vm₁) hT hW₁⟩) with ⟨v, vm₁, ⟨U', l2, c2, s2⟩, hW₁, X', ⟨g', mk, t, L, e1, e2, hq, h1, hL, h2, h3⟩, st⟩ | ⟨q, vm₁, ⟨U', l2, c2, s2⟩, hW₁, X', ⟨g', mk, t, L, E, ce, e1, e2, hq, hce, hcv, hcl, h1, hL, h2, h3⟩, st⟩
  · dsimp only [Pt.U, Pt.locs, Pt.cells, Pt.slots] at X' e1 e2 h1 h2 h3 st
    subst h1; subst h2; subst h3
    exact Or.inl ⟨v, (T.setVm vm₁).calling g' mk (Value.ref b :: As).toArray, t, U', L, hT, X', hL, e1, e2, hq, st⟩
  · dsimp only [Pt.U, Pt.locs, Pt.cells, Pt.slots] at X' e1 e2 h1 h2 h3 st hcl
    subst h1; subst h2; subst h3
    exact Or.inr ⟨q, (T.setVm vm₁).calling g' mk (Value.ref b :: As).toArray, t, U', L, E, ce, hT, X', hL, e1, e2, hq, hce, hcv, vx_cls hW₁ hcl, st⟩
theorem vx_runSN {y : MethodName} {bytes cc : ByteArray} {maxL nL mc ms n index : Nat} {ret : Option FieldType} {ws : List Cond} {rm : Room} {Pc : Array Value → State → Prop} {Qc : Array Value → State → Outcome → State → Prop} {XC : String → State → State → Prop} {free : Addr → Prop} {Ts : List Cond} {own host : String} {As rest : List Value} {g : JFrame}
    (S : CallFix p m c cc nL s args Ts own) (hM : vx_Met l y ws rm Pc Qc XC mc ms free) (cw : va_CN R s args own index y host bytes maxL ret ws rm mc ms n ∧ (Cond.static y).before args s = true ∧ True) (hp : PreS s H Pc As)
    (hg : g.method = m) (hn : As.length = n) (hsize : g.locals.size = nL) (hstack : g.stack = As.reverse ++ rest) (hW : 2 * g.monitorRoom + (rest.map fun v => v.category).sum ≤ 8) (hdg : decode cc g.pc = .ok (.invokestatic index, 3)) (hf : cells + mc ≤ R.cells ∧ slots + ms ≤ R.slots) :
    vx_Run p l e R s m args below meth c H locs cells slots mc ms g rest (Qc As.toArray) XC free := by
  obtain ⟨⟨⟨hrc, hrs, hfr, hlo, hws, hcw⟩, hcode, hini, hy, hlen, hl⟩, hx1, hx2⟩ := cw
  have hK : vx_Back l R p e below s args y 3 8 (PreOf R mc ms Pc) (PostOf Qc mc ms free) (vx_Post XC mc ms free) := vx_back (bytes := bytes) (maxL := maxL) (ret := ret) hM hp.1 hrc hrs hfr hlo hws hcw (fun a' U hW => word_at hW (Or.inl (by first | rfl | simp [Cond.onTables, Cond.keeps, Cond.steady])) hini)
  obtain ⟨hx, hb, hml, ho, -⟩ := S
  have hPc := hp.2
  intro T hT X
  rcases vx_callSN X hx (bytes := bytes) (maxL := maxL) (ret := ret) ho hl hx1 hini hcode hy hK hg (hsize.trans hml.symm) (argsL := As) (rest := rest) (fun sig h => hn.trans (hlen sig h)) hstack hW (by rw [hb]; exact hdg)
    (fun vm₁ hW₁ => ⟨hf.1, hf.2, hPc (T.setVm vm₁) hT hW₁⟩) with ⟨v, vm₁, ⟨U', l2, c2, s2⟩, hW₁, X', ⟨g', mk, t, L, e1, e2, hq, h1, hL, h2, h3⟩, st⟩ | ⟨q, vm₁, ⟨U', l2, c2, s2⟩, hW₁, X', ⟨g', mk, t, L, E, ce, e1, e2, hq, hce, hcv, hcl, h1, hL, h2, h3⟩, st⟩
  · dsimp only [Pt.U, Pt.locs, Pt.cells, Pt.slots] at X' e1 e2 h1 h2 h3 st
    subst h1; subst h2; subst h3
    exact Or.inl ⟨v, (T.setVm vm₁).calling g' mk As.toArray, t, U', L, hT, X', hL, e1, e2, hq, st⟩
  · dsimp only [Pt.U, Pt.locs, Pt.cells, Pt.slots] at X' e1 e2 h1 h2 h3 st hcl
    subst h1; subst h2; subst h3
    exact Or.inr ⟨q, (T.setVm vm₁).calling g' mk As.toArray, t, U', L, E, ce, hT, X', hL, e1, e2, hq, hce, hcv, vx_cls hW₁ hcl, st⟩
end
/-! ===== END ===== -/
/-! ===== BEGIN calls by an interface of methods that may throw (vx_callIF, vx_runF follow va_callIF, va_runF of this kit) ===== -/
section
variable {p : Program} {l : Launch} {e : Env} {R : Room} {s : State} {m : MethodId} {args : Array Value} {below : List Frame} {meth : Method} {c : Code} {H : Heap} {locs : List Loc} {cells slots : Nat} {Q : State → Prop}
variable {mc ms : Nat} {free : Addr → Prop} {A0 A1 : Nat → Prop} {H0 : Heap} {a : Array Value} {pc : Nat} {ls : Array Slot} {st0 rest : List Value}
def vx_Run5 (p : Program) (l : Launch) (e : Env) (R : Room) (s : State) (m : MethodId) (args : Array Value) (below : List Frame) (meth : Method) (c : Code) (H : Heap) (locs : List Loc) (cells slots mc ms : Nat) (g : JFrame) (rest : List Value) (Qa : State → Outcome → State → Prop) (XC : String → State → State → Prop) (free : Addr → Prop) : Prop :=
  ∀ T : State, T.heap = H → Stand p l e R s m args below meth c T locs cells slots →
    (∃ (v : Option Value) (st₀ t T' : State) (L : List Loc), st₀.heap = H ∧ Stand p l e R s m args below meth c T' (locs ++ L) (cells + mc) (slots + ms) ∧ (∀ q ∈ L, free q.base) ∧ T'.heap = t.heap ∧ T'.vm = t.vm ∧ Qa st₀ (.returned v) t ∧
      Goes p e below T g T' { g with pc := g.pc + 5, stack := v.toList ++ rest }) ∨
    (∃ (q : Addr) (st₀ t T' : State) (L : List Loc) (E : String) (ce : Cell), st₀.heap = H ∧ Stand p l e R s m args below meth c T' (locs ++ L) (cells + mc) (slots + ms) ∧ (∀ z ∈ L, free z.base) ∧ T'.heap = t.heap ∧ T'.vm = t.vm ∧ XC E st₀ t ∧ t.heap[q]? = some ce ∧ ce.vm = .none ∧ s.vm.findClass E = some ce.cls ∧
      Steps p.tables e below (T.setTop g) ((T'.setTop { g with stack := rest }).pushFrame (.throwing q)))
theorem vx_callIF {T : State} (X : Stand p l e R s m args below meth c T locs cells slots) (hexec : p.tables.exec = Jvm.exec) {own C : String} {index count : Nat} {x y : MethodName} {bytes : ByteArray} {maxL : Nat} {ret : Option FieldType}
    (hown : s.vm.findClass own = some m.cls) (hlink : (Cond.methodLink own index x).before args s = true) (hdecl : (Cond.declares x).before args s = true) (hface : (Cond.interfaceMethod x.cls x.cls x.name x.desc).before args s = true)
    (hsel : (Cond.selects C x y).before args s = true) (hinst : (Cond.instanceMethod y).before args s = true) (hpub : (Cond.publicMethod y).before args s = true) (hunh : (Cond.unhidden C x.name x.desc).before args s = true)
    (hcast : (Cond.castable C x.cls).before args s = true) (hcode : (Cond.code y bytes maxL ret).before args s = true) (hx : x.cls ≠ "java/lang/invoke/MethodHandle" ∧ x.cls ≠ "java/lang/invoke/VarHandle")
    {W9 : Nat} {Pre : Pt → Array Value → Prop} {Post : Pt → Array Value → Option Value → Pt → Prop} {PostX : Pt → Array Value → Addr → Pt → Prop} (hK : vx_Back l R p e below s args y 5 W9 Pre Post PostX)
    {b : Addr} {cellB : Cell} {kB : Class} (hcell : T.heap[b]? = some cellB) (hobj : cellB.vm.isStatics = false) (hcls : s.vm.findClass C = some cellB.cls) (hkB : s.vm.classes[cellB.cls]? = some kB)
    {g : JFrame} (hg : g.method = m) (hsize : g.locals.size = c.maxLocals) {argsL rest : List Value} (hlen : ∀ sig, parseMethodDescriptor x.desc = some sig → argsL.length = sig.parameters.length)
    (hstack : g.stack = argsL.reverse ++ .ref b :: rest) (hW : 2 * g.monitorRoom + (rest.map fun v => v.category).sum ≤ W9) (hdg : decode c.code g.pc = .ok (.invokeinterface index count, 5))
    (hpre : ∀ vm₁, s.WarmedH vm₁ → Pre ⟨T.setVm vm₁, locs, cells, slots⟩ (Value.ref b :: argsL).toArray) :
    (∃ (v : Option Value) (vm₁ : Vm) (B : Pt), s.WarmedH vm₁ ∧ Stand p l e R s m args below meth c B.U B.locs B.cells B.slots ∧ Post ⟨T.setVm vm₁, locs, cells, slots⟩ (Value.ref b :: argsL).toArray v B ∧
      ∀ target, Steps p.tables e below (B.U.setTop { g with pc := g.pc + 5, stack := v.toList ++ rest }) target → Steps p.tables e below (T.setTop g) target) ∨
    (∃ (q : Addr) (vm₁ : Vm) (B : Pt), s.WarmedH vm₁ ∧ Stand p l e R s m args below meth c B.U B.locs B.cells B.slots ∧ PostX ⟨T.setVm vm₁, locs, cells, slots⟩ (Value.ref b :: argsL).toArray q B ∧
      Steps p.tables e below (T.setTop g) ((B.U.setTop { g with stack := rest }).pushFrame (.throwing q))) := by
  obtain ⟨r0, r, hn, hrm, hstR, hsigR⟩ := Cond.declares_spec hdecl
  obtain ⟨cL, kL, r1, hcL, hkL, hiL, hfoundL, hn1⟩ := Cond.interfaceMethod_spec hface
  cases hn.symm.trans hn1
  have hr0cls : r0.cls = cL := Option.some.inj ((findClass_of_methodNamed hn).symm.trans hcL)
  obtain ⟨hnameR, hdescR⟩ := name_of_methodNamed hn hrm
  obtain ⟨mk, methM, hnamed, hmethM, -, habM⟩ := Cond.instanceMethod_spec hinst
  obtain ⟨c2, r2, m2, q1, q2, q3, q4, -⟩ := Cond.selects_spec hsel
  cases hcls.symm.trans q1
  cases hfoundL.symm.trans q2
  cases hnamed.symm.trans q3
  have hselP : selectMethod e.platform s.vm cellB.cls r0 = .method mk := by rw [Launch.admits_selectMethod X.admits]; exact q4
  have hpubM : hasFlag methM.accessFlags Acc.public_ = true := Cond.publicMethod_spec hnamed hmethM hpub
  have hway : ((cellB.cls :: s.vm.superclasses cellB.cls).any fun k => (declaredIn s.vm r.name r.desc k).any fun (_, z) => z.isPrivate || z.isStatic) = false := by
    rw [hnameR, hdescR]; exact Cond.unhidden_spec hcls hunh
  obtain ⟨c3, t3, w1, w2, w3⟩ := Cond.castable_spec hcast
  cases hcls.symm.trans w1
  cases hcL.symm.trans w2
  obtain ⟨vm₁, X₁, hstep₁⟩ := X.invokeinterface hexec hown hlink hn hrm hstR (by rw [hr0cls]; exact hkL) hiL hx (a := b) (cell := cellB) (kcell := kB) hcell
    (fun z h => by rw [h] at hobj; cases hobj) hkB (by rw [hr0cls]; exact w3) hselP hmethM hway hpubM habM (g := g) hg (argsL := argsL) (rest := rest) (hlen _ hsigR) hstack hdg
  rcases hK m meth c ⟨T.setVm vm₁, locs, cells, slots⟩ { g with stack := rest } (.invokeinterface index count) mk (Value.ref b :: argsL).toArray X₁ hg hsize hdg hW (X₁.named hnamed) (hpre vm₁ X₁.warmed) with ⟨v, B, X', hpost, hsteps⟩ | ⟨q, B, X', hpost, hsteps⟩
  · exact Or.inl ⟨v, vm₁, B, X₁.warmed, X', hpost, fun target h => hstep₁ _ fun acts => by rw [doInvoke_state]; exact hsteps.trans h⟩
  · exact Or.inr ⟨q, vm₁, B, X₁.warmed, X', hpost, hstep₁ _ fun acts => by rw [doInvoke_state]; exact hsteps⟩
theorem vx_runF {x y : MethodName} {bytes cc : ByteArray} {maxL nL mc ms n index count : Nat} {ret : Option FieldType} {ws : List Cond} {rm : Room} {Pc : Array Value → State → Prop} {Qc : Array Value → State → Outcome → State → Prop} {XC : String → State → State → Prop} {free : Addr → Prop} {Ts : List Cond} {own C : String} {cC : ClassId} {b : Addr} {As rest : List Value} {g : JFrame}
    (hat : ClassAt s C cC) (S : CallFix p m c cc nL s args Ts own) (hM : vx_Met l y ws rm Pc Qc XC mc ms free) (cw : va_CI R s args own C index x y bytes maxL ret ws rm mc ms n) (hp : PreV s H C b Pc As)
    (hg : g.method = m) (hn : As.length = n) (hsize : g.locals.size = nL) (hstack : g.stack = As.reverse ++ .ref b :: rest) (hW : 2 * g.monitorRoom + (rest.map fun v => v.category).sum ≤ 8) (hdg : decode cc g.pc = .ok (.invokeinterface index count, 5)) (hf : cells + mc ≤ R.cells ∧ slots + ms ≤ R.slots) :
    vx_Run5 p l e R s m args below meth c H locs cells slots mc ms g rest (Qc (Value.ref b :: As).toArray) XC free := by
  obtain ⟨hrc, hrs, hfr, hlo, hws, hcw⟩ := cw.back
  have hini := cw.init
  have hK : vx_Back l R p e below s args y 5 8 (PreOf R mc ms Pc) (PostOf Qc mc ms free) (vx_Post XC mc ms free) := vx_back (bytes := bytes) (maxL := maxL) (ret := ret) hM hp.1 hrc hrs hfr hlo hws hcw (fun a' U hW => word_at hW (Or.inl (by first | rfl | simp [Cond.onTables, Cond.keeps, Cond.steady])) hini)
  obtain ⟨hx, hb, hml, ho, -⟩ := S
  obtain ⟨-, ⟨cellB, hcB, hoB, hclB⟩, hPc⟩ := hp
  obtain ⟨hfc, kB, hkB, -⟩ := hat
  cases hfc.symm.trans hclB
  intro T hT X
  rcases vx_callIF X hx (C := C) (bytes := bytes) (maxL := maxL) (ret := ret) ho cw.link cw.decl cw.face cw.sel cw.inst cw.pub cw.unh cw.cast cw.code cw.notMH hK (by rw [hT]; exact hcB) hoB hclB hkB hg (hsize.trans hml.symm) (argsL := As) (rest := rest) (fun sig h => hn.trans (cw.len sig h)) hstack hW (by rw [hb]; exact hdg)
    (fun vm₁ hW₁ => ⟨hf.1, hf.2, hPc (T.setVm vm₁) hT hW₁⟩) with ⟨v, vm₁, ⟨U', l2, c2, s2⟩, hW₁, X', ⟨g', mk, t, L, e1, e2, hq, h1, hL, h2, h3⟩, st⟩ | ⟨q, vm₁, ⟨U', l2, c2, s2⟩, hW₁, X', ⟨g', mk, t, L, E, ce, e1, e2, hq, hce, hcv, hcl, h1, hL, h2, h3⟩, st⟩
  · dsimp only [Pt.U, Pt.locs, Pt.cells, Pt.slots] at X' e1 e2 h1 h2 h3 st
    subst h1; subst h2; subst h3
    exact Or.inl ⟨v, (T.setVm vm₁).calling g' mk (Value.ref b :: As).toArray, t, U', L, hT, X', hL, e1, e2, hq, st⟩
  · dsimp only [Pt.U, Pt.locs, Pt.cells, Pt.slots] at X' e1 e2 h1 h2 h3 st hcl
    subst h1; subst h2; subst h3
    exact Or.inr ⟨q, (T.setVm vm₁).calling g' mk (Value.ref b :: As).toArray, t, U', L, E, ce, hT, X', hL, e1, e2, hq, hce, hcv, vx_cls hW₁ hcl, st⟩
theorem vx_callFv {S SX : Type} {post : S → Prop} {px : SX → Prop} {B : S → State → Prop} {BX : String → SX → State → Prop} {AX : Nat → Prop} (hr : vx_Run5 p l e R s m args below meth c H locs cells slots mc ms (F0 m pc ls st0) rest (va_Qv post B A1 a) (vx_X px BX AX) free) (hS : va_S A0 H0 H locs) (hA : ∀ q, q < H.size → A1 q → A0 q) (hf : ∀ q, free q → A0 q) (hAX : ∀ q, q < H.size → AX q → A0 q)
    (kx : ∀ (E : String) (ce : Cell) (q9 : Addr) (u : SX) (t : State) (H1 : Heap) (locs1 : List Loc), t.heap = H1 → s.vm.Alike t.vm → px u → BX E u t → H.size ≤ H1.size → (∀ q : Nat, q < H.size → ¬ AX q → H1[q]? = H[q]?) → va_S A0 H0 H1 locs1 → H1[q9]? = some ce → ce.vm = .none → s.vm.findClass E = some ce.cls → vx_W p l e R s m args below meth c H1 locs1 (cells + mc) (slots + ms) Q (F0 m pc ls rest) q9)
    (kk : ∀ (u : S) (t : State) (H1 : Heap) (locs1 : List Loc), t.heap = H1 → s.vm.Alike t.vm → post u → B u t → H.size ≤ H1.size → (∀ q : Nat, q < H.size → ¬ A1 q → H1[q]? = H[q]?) → va_S A0 H0 H1 locs1 → W p l e R s m args below meth c H1 locs1 (cells + mc) (slots + ms) Q (F0 m (pc + 5) ls (rest))) : W p l e R s m args below meth c H locs cells slots Q (F0 m pc ls st0) := by
  intro T hT X
  rcases hr T hT X with ⟨v, st₀, t, T', L, h0, X', hL, e1, e2, ⟨⟨u, hv, hp, hb⟩, hF⟩, st⟩ | ⟨q, st₀, t, T', L, E, ce, h0, X', hL, e1, e2, ⟨u, hp, hb, hF⟩, hce, hcv, hcl, st⟩
  · cases hv
    obtain ⟨k1, k2, k3⟩ := vx_keep h0 e1 hS hA hf hL hF
    obtain ⟨t2, a1, b1⟩ := kk u t T'.heap (locs ++ L) e1.symm (by rw [← e2]; exact X'.warmed.alike) hp hb k1 k2 k3 T' rfl X'
    exact ⟨t2, st t2 a1, b1⟩
  · obtain ⟨k1, k2, k3⟩ := vx_keep h0 e1 hS hAX hf hL hF
    obtain ⟨t2, a1, b1⟩ := kx E ce q u t T'.heap (locs ++ L) e1.symm (by rw [← e2]; exact X'.warmed.alike) hp hb k1 k2 k3 (by rw [e1]; exact hce) hcv hcl T' rfl X'
    exact ⟨t2, st.trans a1, b1⟩
theorem vx_callFi {S SX : Type} {post : Int32 → S → Prop} {px : SX → Prop} {B : S → State → Prop} {BX : String → SX → State → Prop} {AX : Nat → Prop} (hr : vx_Run5 p l e R s m args below meth c H locs cells slots mc ms (F0 m pc ls st0) rest (va_Qi post B A1 a) (vx_X px BX AX) free) (hS : va_S A0 H0 H locs) (hA : ∀ q, q < H.size → A1 q → A0 q) (hf : ∀ q, free q → A0 q) (hAX : ∀ q, q < H.size → AX q → A0 q)
    (kx : ∀ (E : String) (ce : Cell) (q9 : Addr) (u : SX) (t : State) (H1 : Heap) (locs1 : List Loc), t.heap = H1 → s.vm.Alike t.vm → px u → BX E u t → H.size ≤ H1.size → (∀ q : Nat, q < H.size → ¬ AX q → H1[q]? = H[q]?) → va_S A0 H0 H1 locs1 → H1[q9]? = some ce → ce.vm = .none → s.vm.findClass E = some ce.cls → vx_W p l e R s m args below meth c H1 locs1 (cells + mc) (slots + ms) Q (F0 m pc ls rest) q9)
    (kk : ∀ (r : Int32) (u : S) (t : State) (H1 : Heap) (locs1 : List Loc), t.heap = H1 → s.vm.Alike t.vm → post r u → B u t → H.size ≤ H1.size → (∀ q : Nat, q < H.size → ¬ A1 q → H1[q]? = H[q]?) → va_S A0 H0 H1 locs1 → W p l e R s m args below meth c H1 locs1 (cells + mc) (slots + ms) Q (F0 m (pc + 5) ls (.int r :: rest))) : W p l e R s m args below meth c H locs cells slots Q (F0 m pc ls st0) := by
  intro T hT X
  rcases hr T hT X with ⟨v, st₀, t, T', L, h0, X', hL, e1, e2, ⟨⟨r, u, hv, hp, hb⟩, hF⟩, st⟩ | ⟨q, st₀, t, T', L, E, ce, h0, X', hL, e1, e2, ⟨u, hp, hb, hF⟩, hce, hcv, hcl, st⟩
  · cases hv
    obtain ⟨k1, k2, k3⟩ := vx_keep h0 e1 hS hA hf hL hF
    obtain ⟨t2, a1, b1⟩ := kk r u t T'.heap (locs ++ L) e1.symm (by rw [← e2]; exact X'.warmed.alike) hp hb k1 k2 k3 T' rfl X'
    exact ⟨t2, st t2 a1, b1⟩
  · obtain ⟨k1, k2, k3⟩ := vx_keep h0 e1 hS hAX hf hL hF
    obtain ⟨t2, a1, b1⟩ := kx E ce q u t T'.heap (locs ++ L) e1.symm (by rw [← e2]; exact X'.warmed.alike) hp hb k1 k2 k3 (by rw [e1]; exact hce) hcv hcl T' rfl X'
    exact ⟨t2, st.trans a1, b1⟩
theorem vx_callFl {S SX : Type} {post : Int64 → S → Prop} {px : SX → Prop} {B : S → State → Prop} {BX : String → SX → State → Prop} {AX : Nat → Prop} (hr : vx_Run5 p l e R s m args below meth c H locs cells slots mc ms (F0 m pc ls st0) rest (va_Ql post B A1 a) (vx_X px BX AX) free) (hS : va_S A0 H0 H locs) (hA : ∀ q, q < H.size → A1 q → A0 q) (hf : ∀ q, free q → A0 q) (hAX : ∀ q, q < H.size → AX q → A0 q)
    (kx : ∀ (E : String) (ce : Cell) (q9 : Addr) (u : SX) (t : State) (H1 : Heap) (locs1 : List Loc), t.heap = H1 → s.vm.Alike t.vm → px u → BX E u t → H.size ≤ H1.size → (∀ q : Nat, q < H.size → ¬ AX q → H1[q]? = H[q]?) → va_S A0 H0 H1 locs1 → H1[q9]? = some ce → ce.vm = .none → s.vm.findClass E = some ce.cls → vx_W p l e R s m args below meth c H1 locs1 (cells + mc) (slots + ms) Q (F0 m pc ls rest) q9)
    (kk : ∀ (r : Int64) (u : S) (t : State) (H1 : Heap) (locs1 : List Loc), t.heap = H1 → s.vm.Alike t.vm → post r u → B u t → H.size ≤ H1.size → (∀ q : Nat, q < H.size → ¬ A1 q → H1[q]? = H[q]?) → va_S A0 H0 H1 locs1 → W p l e R s m args below meth c H1 locs1 (cells + mc) (slots + ms) Q (F0 m (pc + 5) ls (.long r :: rest))) : W p l e R s m args below meth c H locs cells slots Q (F0 m pc ls st0) := by
  intro T hT X
  rcases hr T hT X with ⟨v, st₀, t, T', L, h0, X', hL, e1, e2, ⟨⟨r, u, hv, hp, hb⟩, hF⟩, st⟩ | ⟨q, st₀, t, T', L, E, ce, h0, X', hL, e1, e2, ⟨u, hp, hb, hF⟩, hce, hcv, hcl, st⟩
  · cases hv
    obtain ⟨k1, k2, k3⟩ := vx_keep h0 e1 hS hA hf hL hF
    obtain ⟨t2, a1, b1⟩ := kk r u t T'.heap (locs ++ L) e1.symm (by rw [← e2]; exact X'.warmed.alike) hp hb k1 k2 k3 T' rfl X'
    exact ⟨t2, st t2 a1, b1⟩
  · obtain ⟨k1, k2, k3⟩ := vx_keep h0 e1 hS hAX hf hL hF
    obtain ⟨t2, a1, b1⟩ := kx E ce q u t T'.heap (locs ++ L) e1.symm (by rw [← e2]; exact X'.warmed.alike) hp hb k1 k2 k3 (by rw [e1]; exact hce) hcv hcl T' rfl X'
    exact ⟨t2, st.trans a1, b1⟩
theorem vx_callFf {S SX : Type} {post : UInt32 → S → Prop} {px : SX → Prop} {B : S → State → Prop} {BX : String → SX → State → Prop} {AX : Nat → Prop} (hr : vx_Run5 p l e R s m args below meth c H locs cells slots mc ms (F0 m pc ls st0) rest (va_Qf post B A1 a) (vx_X px BX AX) free) (hS : va_S A0 H0 H locs) (hA : ∀ q, q < H.size → A1 q → A0 q) (hf : ∀ q, free q → A0 q) (hAX : ∀ q, q < H.size → AX q → A0 q)
    (kx : ∀ (E : String) (ce : Cell) (q9 : Addr) (u : SX) (t : State) (H1 : Heap) (locs1 : List Loc), t.heap = H1 → s.vm.Alike t.vm → px u → BX E u t → H.size ≤ H1.size → (∀ q : Nat, q < H.size → ¬ AX q → H1[q]? = H[q]?) → va_S A0 H0 H1 locs1 → H1[q9]? = some ce → ce.vm = .none → s.vm.findClass E = some ce.cls → vx_W p l e R s m args below meth c H1 locs1 (cells + mc) (slots + ms) Q (F0 m pc ls rest) q9)
    (kk : ∀ (r : UInt32) (u : S) (t : State) (H1 : Heap) (locs1 : List Loc), t.heap = H1 → s.vm.Alike t.vm → post r u → B u t → H.size ≤ H1.size → (∀ q : Nat, q < H.size → ¬ A1 q → H1[q]? = H[q]?) → va_S A0 H0 H1 locs1 → W p l e R s m args below meth c H1 locs1 (cells + mc) (slots + ms) Q (F0 m (pc + 5) ls (.float r :: rest))) : W p l e R s m args below meth c H locs cells slots Q (F0 m pc ls st0) := by
  intro T hT X
  rcases hr T hT X with ⟨v, st₀, t, T', L, h0, X', hL, e1, e2, ⟨⟨r, u, hv, hp, hb⟩, hF⟩, st⟩ | ⟨q, st₀, t, T', L, E, ce, h0, X', hL, e1, e2, ⟨u, hp, hb, hF⟩, hce, hcv, hcl, st⟩
  · cases hv
    obtain ⟨k1, k2, k3⟩ := vx_keep h0 e1 hS hA hf hL hF
    obtain ⟨t2, a1, b1⟩ := kk r u t T'.heap (locs ++ L) e1.symm (by rw [← e2]; exact X'.warmed.alike) hp hb k1 k2 k3 T' rfl X'
    exact ⟨t2, st t2 a1, b1⟩
  · obtain ⟨k1, k2, k3⟩ := vx_keep h0 e1 hS hAX hf hL hF
    obtain ⟨t2, a1, b1⟩ := kx E ce q u t T'.heap (locs ++ L) e1.symm (by rw [← e2]; exact X'.warmed.alike) hp hb k1 k2 k3 (by rw [e1]; exact hce) hcv hcl T' rfl X'
    exact ⟨t2, st.trans a1, b1⟩
theorem vx_callFd {S SX : Type} {post : UInt64 → S → Prop} {px : SX → Prop} {B : S → State → Prop} {BX : String → SX → State → Prop} {AX : Nat → Prop} (hr : vx_Run5 p l e R s m args below meth c H locs cells slots mc ms (F0 m pc ls st0) rest (va_Qd post B A1 a) (vx_X px BX AX) free) (hS : va_S A0 H0 H locs) (hA : ∀ q, q < H.size → A1 q → A0 q) (hf : ∀ q, free q → A0 q) (hAX : ∀ q, q < H.size → AX q → A0 q)
    (kx : ∀ (E : String) (ce : Cell) (q9 : Addr) (u : SX) (t : State) (H1 : Heap) (locs1 : List Loc), t.heap = H1 → s.vm.Alike t.vm → px u → BX E u t → H.size ≤ H1.size → (∀ q : Nat, q < H.size → ¬ AX q → H1[q]? = H[q]?) → va_S A0 H0 H1 locs1 → H1[q9]? = some ce → ce.vm = .none → s.vm.findClass E = some ce.cls → vx_W p l e R s m args below meth c H1 locs1 (cells + mc) (slots + ms) Q (F0 m pc ls rest) q9)
    (kk : ∀ (r : UInt64) (u : S) (t : State) (H1 : Heap) (locs1 : List Loc), t.heap = H1 → s.vm.Alike t.vm → post r u → B u t → H.size ≤ H1.size → (∀ q : Nat, q < H.size → ¬ A1 q → H1[q]? = H[q]?) → va_S A0 H0 H1 locs1 → W p l e R s m args below meth c H1 locs1 (cells + mc) (slots + ms) Q (F0 m (pc + 5) ls (.double r :: rest))) : W p l e R s m args below meth c H locs cells slots Q (F0 m pc ls st0) := by
  intro T hT X
  rcases hr T hT X with ⟨v, st₀, t, T', L, h0, X', hL, e1, e2, ⟨⟨r, u, hv, hp, hb⟩, hF⟩, st⟩ | ⟨q, st₀, t, T', L, E, ce, h0, X', hL, e1, e2, ⟨u, hp, hb, hF⟩, hce, hcv, hcl, st⟩
  · cases hv
    obtain ⟨k1, k2, k3⟩ := vx_keep h0 e1 hS hA hf hL hF
    obtain ⟨t2, a1, b1⟩ := kk r u t T'.heap (locs ++ L) e1.symm (by rw [← e2]; exact X'.warmed.alike) hp hb k1 k2 k3 T' rfl X'
    exact ⟨t2, st t2 a1, b1⟩
  · obtain ⟨k1, k2, k3⟩ := vx_keep h0 e1 hS hAX hf hL hF
    obtain ⟨t2, a1, b1⟩ := kx E ce q u t T'.heap (locs ++ L) e1.symm (by rw [← e2]; exact X'.warmed.alike) hp hb k1 k2 k3 (by rw [e1]; exact hce) hcv hcl T' rfl X'
    exact ⟨t2, st.trans a1, b1⟩
end
/-! ===== END ===== -/
/-! ===== BEGIN by an interface, a method with a table of its own that may throw (follows va_callIFW, va_runFW) ===== -/
section
variable {p : Program} {l : Launch} {e : Env} {R : Room} {s : State} {m : MethodId} {args : Array Value} {below : List Frame} {meth : Method} {c : Code} {H : Heap} {locs : List Loc} {cells slots : Nat}
theorem vx_callIFW {T : State} (X : Stand p l e R s m args below meth c T locs cells slots) (hexec : p.tables.exec = Jvm.exec) {own C : String} {index count : Nat} {x y : MethodName} {bytes : ByteArray} {maxL : Nat} {ret : Option FieldType} {hh : List (Nat × Nat × Nat × Nat)}
    (hown : s.vm.findClass own = some m.cls) (hlink : (Cond.methodLink own index x).before args s = true) (hdecl : (Cond.declares x).before args s = true) (hface : (Cond.interfaceMethod x.cls x.cls x.name x.desc).before args s = true)
    (hsel : (Cond.selects C x y).before args s = true) (hinst : (Cond.instanceMethod y).before args s = true) (hpub : (Cond.publicMethod y).before args s = true) (hunh : (Cond.unhidden C x.name x.desc).before args s = true)
    (hcast : (Cond.castable C x.cls).before args s = true) (hcode : (Cond.codeWith y bytes maxL ret hh).before args s = true) (hx : x.cls ≠ "java/lang/invoke/MethodHandle" ∧ x.cls ≠ "java/lang/invoke/VarHandle")
    {W : Nat} {Pre : Pt → Array Value → Prop} {Post : Pt → Array Value → Option Value → Pt → Prop} {PostX : Pt → Array Value → Addr → Pt → Prop} (hK : vx_Back l R p e below s args y 5 W Pre Post PostX)
    {b : Addr} {cellB : Cell} {kB : Class} (hcell : T.heap[b]? = some cellB) (hobj : cellB.vm.isStatics = false) (hcls : s.vm.findClass C = some cellB.cls) (hkB : s.vm.classes[cellB.cls]? = some kB)
    {g : JFrame} (hg : g.method = m) (hsize : g.locals.size = c.maxLocals) {argsL rest : List Value} (hlen : ∀ sig, parseMethodDescriptor x.desc = some sig → argsL.length = sig.parameters.length)
    (hstack : g.stack = argsL.reverse ++ .ref b :: rest) (hW : 2 * g.monitorRoom + (rest.map fun v => v.category).sum ≤ W) (hdg : decode c.code g.pc = .ok (.invokeinterface index count, 5))
    (hpre : ∀ vm₁, s.WarmedH vm₁ → Pre ⟨T.setVm vm₁, locs, cells, slots⟩ (Value.ref b :: argsL).toArray) :
    (∃ (v : Option Value) (vm₁ : Vm) (B : Pt), s.WarmedH vm₁ ∧ Stand p l e R s m args below meth c B.U B.locs B.cells B.slots ∧ Post ⟨T.setVm vm₁, locs, cells, slots⟩ (Value.ref b :: argsL).toArray v B ∧
      ∀ target, Steps p.tables e below (B.U.setTop { g with pc := g.pc + 5, stack := v.toList ++ rest }) target → Steps p.tables e below (T.setTop g) target) ∨
    (∃ (q : Addr) (vm₁ : Vm) (B : Pt), s.WarmedH vm₁ ∧ Stand p l e R s m args below meth c B.U B.locs B.cells B.slots ∧ PostX ⟨T.setVm vm₁, locs, cells, slots⟩ (Value.ref b :: argsL).toArray q B ∧
      Steps p.tables e below (T.setTop g) ((B.U.setTop { g with stack := rest }).pushFrame (.throwing q))) := by
  obtain ⟨r0, r, hn, hrm, hstR, hsigR⟩ := Cond.declares_spec hdecl
  obtain ⟨cL, kL, r1, hcL, hkL, hiL, hfoundL, hn1⟩ := Cond.interfaceMethod_spec hface
  cases hn.symm.trans hn1
  have hr0cls : r0.cls = cL := Option.some.inj ((findClass_of_methodNamed hn).symm.trans hcL)
  obtain ⟨hnameR, hdescR⟩ := name_of_methodNamed hn hrm
  obtain ⟨mk, methM, hnamed, hmethM, -, habM⟩ := Cond.instanceMethod_spec hinst
  obtain ⟨c2, r2, m2, q1, q2, q3, q4, -⟩ := Cond.selects_spec hsel
  cases hcls.symm.trans q1
  cases hfoundL.symm.trans q2
  cases hnamed.symm.trans q3
  have hselP : selectMethod e.platform s.vm cellB.cls r0 = .method mk := by rw [Launch.admits_selectMethod X.admits]; exact q4
  have hpubM : hasFlag methM.accessFlags Acc.public_ = true := Cond.publicMethod_spec hnamed hmethM hpub
  have hway : ((cellB.cls :: s.vm.superclasses cellB.cls).any fun k => (declaredIn s.vm r.name r.desc k).any fun (_, z) => z.isPrivate || z.isStatic) = false := by
    rw [hnameR, hdescR]; exact Cond.unhidden_spec hcls hunh
  obtain ⟨c3, t3, w1, w2, w3⟩ := Cond.castable_spec hcast
  cases hcls.symm.trans w1
  cases hcL.symm.trans w2
  obtain ⟨vm₁, X₁, hstep₁⟩ := X.invokeinterface hexec hown hlink hn hrm hstR (by rw [hr0cls]; exact hkL) hiL hx (a := b) (cell := cellB) (kcell := kB) hcell
    (fun z h => by rw [h] at hobj; cases hobj) hkB (by rw [hr0cls]; exact w3) hselP hmethM hway hpubM habM (g := g) hg (argsL := argsL) (rest := rest) (hlen _ hsigR) hstack hdg
  rcases hK m meth c ⟨T.setVm vm₁, locs, cells, slots⟩ { g with stack := rest } (.invokeinterface index count) mk (Value.ref b :: argsL).toArray X₁ hg hsize hdg hW (X₁.named hnamed) (hpre vm₁ X₁.warmed) with ⟨v, B, X', hpost, hsteps⟩ | ⟨q, B, X', hpost, hsteps⟩
  · exact Or.inl ⟨v, vm₁, B, X₁.warmed, X', hpost, fun target h => hstep₁ _ fun acts => by rw [doInvoke_state]; exact hsteps.trans h⟩
  · exact Or.inr ⟨q, vm₁, B, X₁.warmed, X', hpost, hstep₁ _ fun acts => by rw [doInvoke_state]; exact hsteps⟩
theorem vx_runFW {x y : MethodName} {bytes cc : ByteArray} {maxL nL mc ms n index count : Nat} {ret : Option FieldType} {hh : List (Nat × Nat × Nat × Nat)} {ws : List Cond} {rm : Room} {Pc : Array Value → State → Prop} {Qc : Array Value → State → Outcome → State → Prop} {XC : String → State → State → Prop} {free : Addr → Prop} {Ts : List Cond} {own C : String} {cC : ClassId} {b : Addr} {As rest : List Value} {g : JFrame}
    (hat : ClassAt s C cC) (S : CallFix p m c cc nL s args Ts own) (hM : vx_Met l y ws rm Pc Qc XC mc ms free) (cw : va_CIW R s args own C index x y bytes maxL ret hh ws rm mc ms n) (hp : PreV s H C b Pc As)
    (hg : g.method = m) (hn : As.length = n) (hsize : g.locals.size = nL) (hstack : g.stack = As.reverse ++ .ref b :: rest) (hW : 2 * g.monitorRoom + (rest.map fun v => v.category).sum ≤ 8) (hdg : decode cc g.pc = .ok (.invokeinterface index count, 5)) (hf : cells + mc ≤ R.cells ∧ slots + ms ≤ R.slots) :
    vx_Run5 p l e R s m args below meth c H locs cells slots mc ms g rest (Qc (Value.ref b :: As).toArray) XC free := by
  obtain ⟨hrc, hrs, hfr, hlo, hws, hcw⟩ := cw.back
  have hini := cw.init
  have hK : vx_Back l R p e below s args y 5 8 (PreOf R mc ms Pc) (PostOf Qc mc ms free) (vx_Post XC mc ms free) := vx_backW (hh := hh) (bytes := bytes) (maxL := maxL) (ret := ret) hM hp.1 hrc hrs hfr hlo hws hcw (fun a' U hW => word_at hW (Or.inl (by first | rfl | simp [Cond.onTables, Cond.keeps, Cond.steady])) hini)
  obtain ⟨hx, hb, hml, ho, -⟩ := S
  obtain ⟨-, ⟨cellB, hcB, hoB, hclB⟩, hPc⟩ := hp
  obtain ⟨hfc, kB, hkB, -⟩ := hat
  cases hfc.symm.trans hclB
  intro T hT X
  rcases vx_callIFW X hx (C := C) (hh := hh) (bytes := bytes) (maxL := maxL) (ret := ret) ho cw.link cw.decl cw.face cw.sel cw.inst cw.pub cw.unh cw.cast cw.code cw.notMH hK (by rw [hT]; exact hcB) hoB hclB hkB hg (hsize.trans hml.symm) (argsL := As) (rest := rest) (fun sig h => hn.trans (cw.len sig h)) hstack hW (by rw [hb]; exact hdg)
    (fun vm₁ hW₁ => ⟨hf.1, hf.2, hPc (T.setVm vm₁) hT hW₁⟩) with ⟨v, vm₁, ⟨U', l2, c2, s2⟩, hW₁, X', ⟨g', mk, t, L, e1, e2, hq, h1, hL, h2, h3⟩, st⟩ | ⟨q, vm₁, ⟨U', l2, c2, s2⟩, hW₁, X', ⟨g', mk, t, L, E, ce, e1, e2, hq, hce, hcv, hcl, h1, hL, h2, h3⟩, st⟩
  · dsimp only [Pt.U, Pt.locs, Pt.cells, Pt.slots] at X' e1 e2 h1 h2 h3 st
    subst h1; subst h2; subst h3
    exact Or.inl ⟨v, (T.setVm vm₁).calling g' mk (Value.ref b :: As).toArray, t, U', L, hT, X', hL, e1, e2, hq, st⟩
  · dsimp only [Pt.U, Pt.locs, Pt.cells, Pt.slots] at X' e1 e2 h1 h2 h3 st hcl
    subst h1; subst h2; subst h3
    exact Or.inr ⟨q, (T.setVm vm₁).calling g' mk (Value.ref b :: As).toArray, t, U', L, E, ce, hT, X', hL, e1, e2, hq, hce, hcv, vx_cls hW₁ hcl, st⟩
end
/-! ===== END ===== -/
/-! ===== BEGIN .. of methods that hand back an object of the pool ===== -/
section
variable {p : Program} {l : Launch} {e : Env} {R : Room} {s : State} {m : MethodId} {args : Array Value} {below : List Frame} {meth : Method} {c : Code} {H : Heap} {locs : List Loc} {cells slots : Nat} {Q : State → Prop}
variable {mc ms : Nat} {free : Addr → Prop} {A0 A1 : Nat → Prop} {H0 : Heap} {a : Array Value} {pc : Nat} {ls : Array Slot} {st0 rest : List Value}
theorem vx_callq {S SX : Type} {post : Option Nat → S → Prop} {px : SX → Prop} {B : S → State → Prop} {BX : String → SX → State → Prop} {AX : Nat → Prop} (hr : vx_Run p l e R s m args below meth c H locs cells slots mc ms (F0 m pc ls st0) rest (va_Qq post B A1 a) (vx_X px BX AX) free) (hS : va_S A0 H0 H locs) (hA : ∀ q, q < H.size → A1 q → A0 q) (hf : ∀ q, free q → A0 q) (hAX : ∀ q, q < H.size → AX q → A0 q)
    (kx : ∀ (E : String) (ce : Cell) (q9 : Addr) (u : SX) (t : State) (H1 : Heap) (locs1 : List Loc), t.heap = H1 → s.vm.Alike t.vm → px u → BX E u t → H.size ≤ H1.size → (∀ q : Nat, q < H.size → ¬ AX q → H1[q]? = H[q]?) → va_S A0 H0 H1 locs1 → H1[q9]? = some ce → ce.vm = .none → s.vm.findClass E = some ce.cls → vx_W p l e R s m args below meth c H1 locs1 (cells + mc) (slots + ms) Q (F0 m pc ls rest) q9)
    (kk : ∀ (r : Option Nat) (u : S) (t : State) (H1 : Heap) (locs1 : List Loc), t.heap = H1 → s.vm.Alike t.vm → post r u → B u t → H.size ≤ H1.size → (∀ q : Nat, q < H.size → ¬ A1 q → H1[q]? = H[q]?) → va_S A0 H0 H1 locs1 → W p l e R s m args below meth c H1 locs1 (cells + mc) (slots + ms) Q (F0 m (pc + 3) ls (va_rf r :: rest))) : W p l e R s m args below meth c H locs cells slots Q (F0 m pc ls st0) := by
  intro T hT X
  rcases hr T hT X with ⟨v, st₀, t, T', L, h0, X', hL, e1, e2, ⟨⟨r, u, hv, hp, hb⟩, hF⟩, st⟩ | ⟨q, st₀, t, T', L, E, ce, h0, X', hL, e1, e2, ⟨u, hp, hb, hF⟩, hce, hcv, hcl, st⟩
  · cases hv
    obtain ⟨k1, k2, k3⟩ := vx_keep h0 e1 hS hA hf hL hF
    obtain ⟨t2, a1, b1⟩ := kk r u t T'.heap (locs ++ L) e1.symm (by rw [← e2]; exact X'.warmed.alike) hp hb k1 k2 k3 T' rfl X'
    exact ⟨t2, st t2 a1, b1⟩
  · obtain ⟨k1, k2, k3⟩ := vx_keep h0 e1 hS hAX hf hL hF
    obtain ⟨t2, a1, b1⟩ := kx E ce q u t T'.heap (locs ++ L) e1.symm (by rw [← e2]; exact X'.warmed.alike) hp hb k1 k2 k3 (by rw [e1]; exact hce) hcv hcl T' rfl X'
    exact ⟨t2, st.trans a1, b1⟩
end
/-! ===== END ===== -/
/-! ===== BEGIN .. a constant ===== -/
section
variable {p : Program} {l : Launch} {e : Env} {R : Room} {s : State} {m : MethodId} {args : Array Value} {below : List Frame} {meth : Method} {c : Code} {H : Heap} {locs : List Loc} {cells slots : Nat} {Q : State → Prop}
variable {mc ms : Nat} {free : Addr → Prop} {A0 A1 : Nat → Prop} {H0 : Heap} {a : Array Value} {pc : Nat} {ls : Array Slot} {st0 rest : List Value}
theorem vx_calle {ad : Nat → Nat} {S SX : Type} {post : Option Nat → S → Prop} {px : SX → Prop} {B : S → State → Prop} {BX : String → SX → State → Prop} {AX : Nat → Prop} (hr : vx_Run p l e R s m args below meth c H locs cells slots mc ms (F0 m pc ls st0) rest (va_Qe ad post B A1 a) (vx_X px BX AX) free) (hS : va_S A0 H0 H locs) (hA : ∀ q, q < H.size → A1 q → A0 q) (hf : ∀ q, free q → A0 q) (hAX : ∀ q, q < H.size → AX q → A0 q)
    (kx : ∀ (E : String) (ce : Cell) (q9 : Addr) (u : SX) (t : State) (H1 : Heap) (locs1 : List Loc), t.heap = H1 → s.vm.Alike t.vm → px u → BX E u t → H.size ≤ H1.size → (∀ q : Nat, q < H.size → ¬ AX q → H1[q]? = H[q]?) → va_S A0 H0 H1 locs1 → H1[q9]? = some ce → ce.vm = .none → s.vm.findClass E = some ce.cls → vx_W p l e R s m args below meth c H1 locs1 (cells + mc) (slots + ms) Q (F0 m pc ls rest) q9)
    (kk : ∀ (r : Option Nat) (u : S) (t : State) (H1 : Heap) (locs1 : List Loc), t.heap = H1 → s.vm.Alike t.vm → post r u → B u t → H.size ≤ H1.size → (∀ q : Nat, q < H.size → ¬ A1 q → H1[q]? = H[q]?) → va_S A0 H0 H1 locs1 → W p l e R s m args below meth c H1 locs1 (cells + mc) (slots + ms) Q (F0 m (pc + 3) ls (va_re ad r :: rest))) : W p l e R s m args below meth c H locs cells slots Q (F0 m pc ls st0) := by
  intro T hT X
  rcases hr T hT X with ⟨v, st₀, t, T', L, h0, X', hL, e1, e2, ⟨⟨r, u, hv, hp, hb⟩, hF⟩, st⟩ | ⟨q, st₀, t, T', L, E, ce, h0, X', hL, e1, e2, ⟨u, hp, hb, hF⟩, hce, hcv, hcl, st⟩
  · cases hv
    obtain ⟨k1, k2, k3⟩ := vx_keep h0 e1 hS hA hf hL hF
    obtain ⟨t2, a1, b1⟩ := kk r u t T'.heap (locs ++ L) e1.symm (by rw [← e2]; exact X'.warmed.alike) hp hb k1 k2 k3 T' rfl X'
    exact ⟨t2, st t2 a1, b1⟩
  · obtain ⟨k1, k2, k3⟩ := vx_keep h0 e1 hS hAX hf hL hF
    obtain ⟨t2, a1, b1⟩ := kx E ce q u t T'.heap (locs ++ L) e1.symm (by rw [← e2]; exact X'.warmed.alike) hp hb k1 k2 k3 (by rw [e1]; exact hce) hcv hcl T' rfl X'
    exact ⟨t2, st.trans a1, b1⟩
end
/-! ===== END ===== -/
/-! ===== BEGIN .. by an interface, an object ===== -/
section
variable {p : Program} {l : Launch} {e : Env} {R : Room} {s : State} {m : MethodId} {args : Array Value} {below : List Frame} {meth : Method} {c : Code} {H : Heap} {locs : List Loc} {cells slots : Nat} {Q : State → Prop}
variable {mc ms : Nat} {free : Addr → Prop} {A0 A1 : Nat → Prop} {H0 : Heap} {a : Array Value} {pc : Nat} {ls : Array Slot} {st0 rest : List Value}
theorem vx_callFq {S SX : Type} {post : Option Nat → S → Prop} {px : SX → Prop} {B : S → State → Prop} {BX : String → SX → State → Prop} {AX : Nat → Prop} (hr : vx_Run5 p l e R s m args below meth c H locs cells slots mc ms (F0 m pc ls st0) rest (va_Qq post B A1 a) (vx_X px BX AX) free) (hS : va_S A0 H0 H locs) (hA : ∀ q, q < H.size → A1 q → A0 q) (hf : ∀ q, free q → A0 q) (hAX : ∀ q, q < H.size → AX q → A0 q)
    (kx : ∀ (E : String) (ce : Cell) (q9 : Addr) (u : SX) (t : State) (H1 : Heap) (locs1 : List Loc), t.heap = H1 → s.vm.Alike t.vm → px u → BX E u t → H.size ≤ H1.size → (∀ q : Nat, q < H.size → ¬ AX q → H1[q]? = H[q]?) → va_S A0 H0 H1 locs1 → H1[q9]? = some ce → ce.vm = .none → s.vm.findClass E = some ce.cls → vx_W p l e R s m args below meth c H1 locs1 (cells + mc) (slots + ms) Q (F0 m pc ls rest) q9)
    (kk : ∀ (r : Option Nat) (u : S) (t : State) (H1 : Heap) (locs1 : List Loc), t.heap = H1 → s.vm.Alike t.vm → post r u → B u t → H.size ≤ H1.size → (∀ q : Nat, q < H.size → ¬ A1 q → H1[q]? = H[q]?) → va_S A0 H0 H1 locs1 → W p l e R s m args below meth c H1 locs1 (cells + mc) (slots + ms) Q (F0 m (pc + 5) ls (va_rf r :: rest))) : W p l e R s m args below meth c H locs cells slots Q (F0 m pc ls st0) := by
  intro T hT X
  rcases hr T hT X with ⟨v, st₀, t, T', L, h0, X', hL, e1, e2, ⟨⟨r, u, hv, hp, hb⟩, hF⟩, st⟩ | ⟨q, st₀, t, T', L, E, ce, h0, X', hL, e1, e2, ⟨u, hp, hb, hF⟩, hce, hcv, hcl, st⟩
  · cases hv
    obtain ⟨k1, k2, k3⟩ := vx_keep h0 e1 hS hA hf hL hF
    obtain ⟨t2, a1, b1⟩ := kk r u t T'.heap (locs ++ L) e1.symm (by rw [← e2]; exact X'.warmed.alike) hp hb k1 k2 k3 T' rfl X'
    exact ⟨t2, st t2 a1, b1⟩
  · obtain ⟨k1, k2, k3⟩ := vx_keep h0 e1 hS hAX hf hL hF
    obtain ⟨t2, a1, b1⟩ := kx E ce q u t T'.heap (locs ++ L) e1.symm (by rw [← e2]; exact X'.warmed.alike) hp hb k1 k2 k3 (by rw [e1]; exact hce) hcv hcl T' rfl X'
    exact ⟨t2, st.trans a1, b1⟩
end
/-! ===== END ===== -/
/-! ===== BEGIN .. by an interface, a constant ===== -/
section
variable {p : Program} {l : Launch} {e : Env} {R : Room} {s : State} {m : MethodId} {args : Array Value} {below : List Frame} {meth : Method} {c : Code} {H : Heap} {locs : List Loc} {cells slots : Nat} {Q : State → Prop}
variable {mc ms : Nat} {free : Addr → Prop} {A0 A1 : Nat → Prop} {H0 : Heap} {a : Array Value} {pc : Nat} {ls : Array Slot} {st0 rest : List Value}
theorem vx_callFe {ad : Nat → Nat} {S SX : Type} {post : Option Nat → S → Prop} {px : SX → Prop} {B : S → State → Prop} {BX : String → SX → State → Prop} {AX : Nat → Prop} (hr : vx_Run5 p l e R s m args below meth c H locs cells slots mc ms (F0 m pc ls st0) rest (va_Qe ad post B A1 a) (vx_X px BX AX) free) (hS : va_S A0 H0 H locs) (hA : ∀ q, q < H.size → A1 q → A0 q) (hf : ∀ q, free q → A0 q) (hAX : ∀ q, q < H.size → AX q → A0 q)
    (kx : ∀ (E : String) (ce : Cell) (q9 : Addr) (u : SX) (t : State) (H1 : Heap) (locs1 : List Loc), t.heap = H1 → s.vm.Alike t.vm → px u → BX E u t → H.size ≤ H1.size → (∀ q : Nat, q < H.size → ¬ AX q → H1[q]? = H[q]?) → va_S A0 H0 H1 locs1 → H1[q9]? = some ce → ce.vm = .none → s.vm.findClass E = some ce.cls → vx_W p l e R s m args below meth c H1 locs1 (cells + mc) (slots + ms) Q (F0 m pc ls rest) q9)
    (kk : ∀ (r : Option Nat) (u : S) (t : State) (H1 : Heap) (locs1 : List Loc), t.heap = H1 → s.vm.Alike t.vm → post r u → B u t → H.size ≤ H1.size → (∀ q : Nat, q < H.size → ¬ A1 q → H1[q]? = H[q]?) → va_S A0 H0 H1 locs1 → W p l e R s m args below meth c H1 locs1 (cells + mc) (slots + ms) Q (F0 m (pc + 5) ls (va_re ad r :: rest))) : W p l e R s m args below meth c H locs cells slots Q (F0 m pc ls st0) := by
  intro T hT X
  rcases hr T hT X with ⟨v, st₀, t, T', L, h0, X', hL, e1, e2, ⟨⟨r, u, hv, hp, hb⟩, hF⟩, st⟩ | ⟨q, st₀, t, T', L, E, ce, h0, X', hL, e1, e2, ⟨u, hp, hb, hF⟩, hce, hcv, hcl, st⟩
  · cases hv
    obtain ⟨k1, k2, k3⟩ := vx_keep h0 e1 hS hA hf hL hF
    obtain ⟨t2, a1, b1⟩ := kk r u t T'.heap (locs ++ L) e1.symm (by rw [← e2]; exact X'.warmed.alike) hp hb k1 k2 k3 T' rfl X'
    exact ⟨t2, st t2 a1, b1⟩
  · obtain ⟨k1, k2, k3⟩ := vx_keep h0 e1 hS hAX hf hL hF
    obtain ⟨t2, a1, b1⟩ := kx E ce q u t T'.heap (locs ++ L) e1.symm (by rw [← e2]; exact X'.warmed.alike) hp hb k1 k2 k3 (by rw [e1]; exact hce) hcv hcl T' rfl X'
    exact ⟨t2, st.trans a1, b1⟩
end
/-! ===== END ===== -/
/-! ===== BEGIN what the machine throws by itself: null at a field, at athrow ===== -/
section VXM2
variable {p : Program} {l : Launch} {e : Env} {R : Room} {s : State} {m : MethodId} {args : Array Value} {below : List Frame} {meth : Method} {c : Code} {H : Heap} {locs : List Loc} {cells slots : Nat}
variable {Q : State → Prop} {cc : ByteArray} {pc : Nat} {ls : Array Slot} {rest : List Value}
theorem vx_getfN {D cl tys} {own ref C : String} {T : u_T} {N ci index : Nat} {Ts : List Cond} (hexec : p.tables.exec = Jvm.exec) (hb : c.code = cc) (hts : ∀ w ∈ Ts, w.before args s = true) (hin : ∀ w ∈ u_ws C T N, w ∈ Ts) (hown : s.vm.findClass own = some m.cls) (hK : va_K D cl tys s) (hc : cl[ci]? = some (C, T, N)) (k : Nat) (hk : k < N) (hlink : (Cond.fieldLink own index ref (T k).2.1 (T k).2.2.1).before args s = true) (hsame : ∀ x, s.fieldFound? (T k).1 (T k).2.1 (T k).2.2.1 = some x → s.fieldFound? ref (T k).2.1 (T k).2.2.1 = some x) (hdg : decode cc pc = .ok (.getfield index, 3)) (kk : vx_NoteN p l e R s m args below meth c H locs cells slots Q (F0 m pc ls rest)) : W p l e R s m args below meth c H locs cells slots Q (F0 m pc ls (.null :: rest)) := by
  obtain ⟨hS, hfc, kC, hkC, -⟩ := hK.1 ci _ hc
  obtain ⟨cf, kf, fi, f, hi, -⟩ := hS k hk
  intro U hU X
  obtain ⟨vm', X1, st1⟩ := X.getfieldNull hexec hown hlink (hsame _ hi) (u_facts hfc hkC (u_lays hts hin hk) hi).1 (g := F0 m pc ls (.null :: rest)) rfl (rest := rest) rfl (by rw [hb]; exact hdg)
  obtain ⟨t, st, q⟩ := kk (U.setVm vm') hU X1
  exact ⟨t, st1 t st, q⟩
theorem vx_getfNN {D cl tys} {own ref C host : String} {T : u_T} {N ci index : Nat} {Ts : List Cond} (hexec : p.tables.exec = Jvm.exec) (hb : c.code = cc) (hts : ∀ w ∈ Ts, w.before args s = true) (hin : ∀ w ∈ u_ws C T N, w ∈ Ts) (hown : s.vm.findClass own = some m.cls) (hK : va_K D cl tys s) (hc : cl[ci]? = some (C, T, N)) (k : Nat) (hk : k < N) (hlink : (Cond.fieldLinkNest own index ref (T k).2.1 (T k).2.2.1 host).before args s = true) (hsame : ∀ x, s.fieldFound? (T k).1 (T k).2.1 (T k).2.2.1 = some x → s.fieldFound? ref (T k).2.1 (T k).2.2.1 = some x) (hdg : decode cc pc = .ok (.getfield index, 3)) (kk : vx_NoteN p l e R s m args below meth c H locs cells slots Q (F0 m pc ls rest)) : W p l e R s m args below meth c H locs cells slots Q (F0 m pc ls (.null :: rest)) := by
  obtain ⟨hS, hfc, kC, hkC, -⟩ := hK.1 ci _ hc
  obtain ⟨cf, kf, fi, f, hi, -⟩ := hS k hk
  intro U hU X
  obtain ⟨vm', X1, st1⟩ := X.getfieldNullNest hexec hown hlink (hsame _ hi) (u_facts hfc hkC (u_lays hts hin hk) hi).1 (g := F0 m pc ls (.null :: rest)) rfl (rest := rest) rfl (by rw [hb]; exact hdg)
  obtain ⟨t, st, q⟩ := kk (U.setVm vm') hU X1
  exact ⟨t, st1 t st, q⟩
theorem vx_putfN {D cl tys} {own ref C : String} {T : u_T} {N ci index : Nat} {Ts : List Cond} (hexec : p.tables.exec = Jvm.exec) (hb : c.code = cc) (hts : ∀ w ∈ Ts, w.before args s = true) (hin : ∀ w ∈ u_ws C T N, w ∈ Ts) (hown : s.vm.findClass own = some m.cls) (hK : va_K D cl tys s) (hc : cl[ci]? = some (C, T, N)) (k : Nat) (hk : k < N) (hlink : (Cond.fieldLink own index ref (T k).2.1 (T k).2.2.1).before args s = true) (hsame : ∀ x, s.fieldFound? (T k).1 (T k).2.1 (T k).2.2.1 = some x → s.fieldFound? ref (T k).2.1 (T k).2.2.1 = some x) (hfin : (T k).2.2.2 = false) {v : Value} (hdg : decode cc pc = .ok (.putfield index, 3)) (kk : vx_NoteN p l e R s m args below meth c H locs cells slots Q (F0 m pc ls rest)) : W p l e R s m args below meth c H locs cells slots Q (F0 m pc ls (v :: .null :: rest)) := by
  obtain ⟨hS, hfc, kC, hkC, -⟩ := hK.1 ci _ hc
  obtain ⟨cf, kf, fi, f, hi, -⟩ := hS k hk
  have hlay := hts _ (hin _ (u_in_lay hk))
  unfold u_lay at hlay
  rw [if_neg (by rw [hfin]; decide)] at hlay
  obtain ⟨c9, k9, cf9, kf9, fi9, f9, -, -, hi9, hst9, hnf9, -⟩ := Cond.lays_spec hlay
  cases hi.symm.trans hi9
  intro U hU X
  obtain ⟨vm', X1, st1⟩ := X.putfieldNull hexec hown hlink (hsame _ hi) hst9 hnf9 (g := F0 m pc ls (v :: .null :: rest)) rfl (v := v) (rest := rest) rfl (by rw [hb]; exact hdg)
  obtain ⟨t, st, q⟩ := kk (U.setVm vm') hU X1
  exact ⟨t, st1 t st, q⟩
theorem vx_putfNN {D cl tys} {own ref C host : String} {T : u_T} {N ci index : Nat} {Ts : List Cond} (hexec : p.tables.exec = Jvm.exec) (hb : c.code = cc) (hts : ∀ w ∈ Ts, w.before args s = true) (hin : ∀ w ∈ u_ws C T N, w ∈ Ts) (hown : s.vm.findClass own = some m.cls) (hK : va_K D cl tys s) (hc : cl[ci]? = some (C, T, N)) (k : Nat) (hk : k < N) (hlink : (Cond.fieldLinkNest own index ref (T k).2.1 (T k).2.2.1 host).before args s = true) (hsame : ∀ x, s.fieldFound? (T k).1 (T k).2.1 (T k).2.2.1 = some x → s.fieldFound? ref (T k).2.1 (T k).2.2.1 = some x) (hfin : (T k).2.2.2 = false) {v : Value} (hdg : decode cc pc = .ok (.putfield index, 3)) (kk : vx_NoteN p l e R s m args below meth c H locs cells slots Q (F0 m pc ls rest)) : W p l e R s m args below meth c H locs cells slots Q (F0 m pc ls (v :: .null :: rest)) := by
  obtain ⟨hS, hfc, kC, hkC, -⟩ := hK.1 ci _ hc
  obtain ⟨cf, kf, fi, f, hi, -⟩ := hS k hk
  have hlay := hts _ (hin _ (u_in_lay hk))
  unfold u_lay at hlay
  rw [if_neg (by rw [hfin]; decide)] at hlay
  obtain ⟨c9, k9, cf9, kf9, fi9, f9, -, -, hi9, hst9, hnf9, -⟩ := Cond.lays_spec hlay
  cases hi.symm.trans hi9
  intro U hU X
  obtain ⟨vm', X1, st1⟩ := X.putfieldNullNest hexec hown hlink (hsame _ hi) hst9 hnf9 (g := F0 m pc ls (v :: .null :: rest)) rfl (v := v) (rest := rest) rfl (by rw [hb]; exact hdg)
  obtain ⟨t, st, q⟩ := kk (U.setVm vm') hU X1
  exact ⟨t, st1 t st, q⟩
theorem vx_athrowN (hexec : p.tables.exec = Jvm.exec) (hb : c.code = cc) (hdg : decode cc pc = .ok (.athrow, 1)) (k : vx_NoteN p l e R s m args below meth c H locs cells slots Q (F0 m pc ls rest)) : W p l e R s m args below meth c H locs cells slots Q (F0 m pc ls (.null :: rest)) := by
  intro T hT X
  obtain ⟨t, st, q⟩ := k T hT X
  exact ⟨t, X.athrowNull hexec (g := F0 m pc ls (.null :: rest)) rfl (rest := rest) rfl (by rw [hb]; exact hdg) t st, q⟩
end VXM2
/-! ===== END ===== -/

-- ===== PART A: goes FIRST, ahead of the names: the tables' words, and 'selects' of the private methods out of them =====
/-- a private method of a class that the tables say can be made, by its rows of tables_1 -/
def lw_okq (q : MethodName × Nat) : Prop := (q.1.cls ≠ "java/lang/invoke/MethodHandle" ∧ q.1.cls ≠ "java/lang/invoke/VarHandle") ∧ Cond.instantiable q.1.cls q.2 ∈ tables_1 ∧ Cond.privateMethod q.1 ∈ tables_1 ∧ Cond.instanceMethod q.1 ∈ tables_1
theorem lw_p0 : lw_okq (⟨"RugPunch$Rug", "punch", "()V"⟩, 9) := ⟨⟨by decide +kernel, by decide +kernel⟩, List.mem_of_getElem? (i := 27) (by decide +kernel), List.mem_of_getElem? (i := 408) (by decide +kernel), List.mem_of_getElem? (i := 409) (by decide +kernel)⟩
theorem lw_p1 : lw_okq (⟨"RugPunch$Rug", "feelKnot", "(I)V"⟩, 9) := ⟨⟨by decide +kernel, by decide +kernel⟩, List.mem_of_getElem? (i := 27) (by decide +kernel), List.mem_of_getElem? (i := 435) (by decide +kernel), List.mem_of_getElem? (i := 436) (by decide +kernel)⟩
theorem lw_p2 : lw_okq (⟨"RugPunch$Rug", "goOn", "()Z"⟩, 9) := ⟨⟨by decide +kernel, by decide +kernel⟩, List.mem_of_getElem? (i := 27) (by decide +kernel), List.mem_of_getElem? (i := 439) (by decide +kernel), List.mem_of_getElem? (i := 440) (by decide +kernel)⟩
theorem lw_p3 : lw_okq (⟨"java/lang/Throwable", "fillInStackTrace", "(I)Ljava/lang/Throwable;"⟩, 6) := ⟨⟨by decide +kernel, by decide +kernel⟩, List.mem_of_getElem? (i := 494) (by decide +kernel), List.mem_of_getElem? (i := 492) (by decide +kernel), List.mem_of_getElem? (i := 493) (by decide +kernel)⟩
theorem lw_p4 : lw_okq (⟨"RugPunch$Areas", "spreadFrom", "(I)V"⟩, 4) := ⟨⟨by decide +kernel, by decide +kernel⟩, List.mem_of_getElem? (i := 177) (by decide +kernel), List.mem_of_getElem? (i := 618) (by decide +kernel), List.mem_of_getElem? (i := 619) (by decide +kernel)⟩
theorem lw_p5 : lw_okq (⟨"RugPunch$Areas", "reach", "(I)V"⟩, 4) := ⟨⟨by decide +kernel, by decide +kernel⟩, List.mem_of_getElem? (i := 177) (by decide +kernel), List.mem_of_getElem? (i := 622) (by decide +kernel), List.mem_of_getElem? (i := 623) (by decide +kernel)⟩
theorem lw_p6 : lw_okq (⟨"RugPunch$Areas", "joinBeside", "(LRugPunch$Canvas;II)Z"⟩, 4) := ⟨⟨by decide +kernel, by decide +kernel⟩, List.mem_of_getElem? (i := 177) (by decide +kernel), List.mem_of_getElem? (i := 638) (by decide +kernel), List.mem_of_getElem? (i := 639) (by decide +kernel)⟩
theorem lw_p7 : lw_okq (⟨"RugPunch$Areas", "chiefOf", "(I)I"⟩, 4) := ⟨⟨by decide +kernel, by decide +kernel⟩, List.mem_of_getElem? (i := 177) (by decide +kernel), List.mem_of_getElem? (i := 642) (by decide +kernel), List.mem_of_getElem? (i := 643) (by decide +kernel)⟩
theorem lw_p8 : lw_okq (⟨"RugPunch", "needThreaded", "()V"⟩, 7) := ⟨⟨by decide +kernel, by decide +kernel⟩, List.mem_of_getElem? (i := 19) (by decide +kernel), List.mem_of_getElem? (i := 797) (by decide +kernel), List.mem_of_getElem? (i := 798) (by decide +kernel)⟩
theorem lw_p9 : lw_okq (⟨"RugPunch", "needMotifText", "()V"⟩, 7) := ⟨⟨by decide +kernel, by decide +kernel⟩, List.mem_of_getElem? (i := 19) (by decide +kernel), List.mem_of_getElem? (i := 917) (by decide +kernel), List.mem_of_getElem? (i := 918) (by decide +kernel)⟩
theorem lw_p10 : lw_okq (⟨"RugPunch$Player", "enter", "(LRugPunch$Script;)Z"⟩, 7) := ⟨⟨by decide +kernel, by decide +kernel⟩, List.mem_of_getElem? (i := 148) (by decide +kernel), List.mem_of_getElem? (i := 945) (by decide +kernel), List.mem_of_getElem? (i := 946) (by decide +kernel)⟩
theorem lw_p11 : lw_okq (⟨"RugPunch$Player", "endGroup", "(I)V"⟩, 7) := ⟨⟨by decide +kernel, by decide +kernel⟩, List.mem_of_getElem? (i := 148) (by decide +kernel), List.mem_of_getElem? (i := 951) (by decide +kernel), List.mem_of_getElem? (i := 952) (by decide +kernel)⟩
theorem lw_p12 : lw_okq (⟨"RugPunch$Player", "doOrder", "(LRugPunch$Rug;LRugPunch$Script;I)Z"⟩, 7) := ⟨⟨by decide +kernel, by decide +kernel⟩, List.mem_of_getElem? (i := 148) (by decide +kernel), List.mem_of_getElem? (i := 955) (by decide +kernel), List.mem_of_getElem? (i := 956) (by decide +kernel)⟩
theorem lw_p13 : lw_okq (⟨"RugPunch$Player", "goTo", "(I)V"⟩, 7) := ⟨⟨by decide +kernel, by decide +kernel⟩, List.mem_of_getElem? (i := 148) (by decide +kernel), List.mem_of_getElem? (i := 963) (by decide +kernel), List.mem_of_getElem? (i := 964) (by decide +kernel)⟩
theorem lw_p14 : lw_okq (⟨"RugPunch$Player", "startGroup", "(II)V"⟩, 7) := ⟨⟨by decide +kernel, by decide +kernel⟩, List.mem_of_getElem? (i := 148) (by decide +kernel), List.mem_of_getElem? (i := 974) (by decide +kernel), List.mem_of_getElem? (i := 975) (by decide +kernel)⟩
theorem lw_p15 : lw_okq (⟨"RugPunch$Canvas", "firstInRing", "(III)I"⟩, 3) := ⟨⟨by decide +kernel, by decide +kernel⟩, List.mem_of_getElem? (i := 33) (by decide +kernel), List.mem_of_getElem? (i := 1015) (by decide +kernel), List.mem_of_getElem? (i := 1016) (by decide +kernel)⟩
def lw_privs_1 : List (MethodName × Nat) := [(⟨"RugPunch$Rug", "punch", "()V"⟩, 9), (⟨"RugPunch$Rug", "feelKnot", "(I)V"⟩, 9), (⟨"RugPunch$Rug", "goOn", "()Z"⟩, 9), (⟨"java/lang/Throwable", "fillInStackTrace", "(I)Ljava/lang/Throwable;"⟩, 6), (⟨"RugPunch$Areas", "spreadFrom", "(I)V"⟩, 4), (⟨"RugPunch$Areas", "reach", "(I)V"⟩, 4), (⟨"RugPunch$Areas", "joinBeside", "(LRugPunch$Canvas;II)Z"⟩, 4), (⟨"RugPunch$Areas", "chiefOf", "(I)I"⟩, 4), (⟨"RugPunch", "needThreaded", "()V"⟩, 7), (⟨"RugPunch", "needMotifText", "()V"⟩, 7), (⟨"RugPunch$Player", "enter", "(LRugPunch$Script;)Z"⟩, 7), (⟨"RugPunch$Player", "endGroup", "(I)V"⟩, 7), (⟨"RugPunch$Player", "doOrder", "(LRugPunch$Rug;LRugPunch$Script;I)Z"⟩, 7), (⟨"RugPunch$Player", "goTo", "(I)V"⟩, 7), (⟨"RugPunch$Player", "startGroup", "(II)V"⟩, 7), (⟨"RugPunch$Canvas", "firstInRing", "(III)I"⟩, 3)]
theorem lw_r1 : ∀ q ∈ lw_privs_1, lw_okq q := List.forall_mem_cons.mpr ⟨lw_p0, List.forall_mem_cons.mpr ⟨lw_p1, List.forall_mem_cons.mpr ⟨lw_p2, List.forall_mem_cons.mpr ⟨lw_p3, List.forall_mem_cons.mpr ⟨lw_p4, List.forall_mem_cons.mpr ⟨lw_p5, List.forall_mem_cons.mpr ⟨lw_p6, List.forall_mem_cons.mpr ⟨lw_p7, List.forall_mem_cons.mpr ⟨lw_p8, List.forall_mem_cons.mpr ⟨lw_p9, List.forall_mem_cons.mpr ⟨lw_p10, List.forall_mem_cons.mpr ⟨lw_p11, List.forall_mem_cons.mpr ⟨lw_p12, List.forall_mem_cons.mpr ⟨lw_p13, List.forall_mem_cons.mpr ⟨lw_p14, List.forall_mem_cons.mpr ⟨lw_p15, fun _ h => absurd h List.not_mem_nil⟩⟩⟩⟩⟩⟩⟩⟩⟩⟩⟩⟩⟩⟩⟩⟩
theorem lw_p16 : lw_okq (⟨"RugPunch$Canvas", "missesAt", "(III)Z"⟩, 3) := ⟨⟨by decide +kernel, by decide +kernel⟩, List.mem_of_getElem? (i := 33) (by decide +kernel), List.mem_of_getElem? (i := 1022) (by decide +kernel), List.mem_of_getElem? (i := 1023) (by decide +kernel)⟩
theorem lw_p17 : lw_okq (⟨"RugPunch", "tryText", "()V"⟩, 7) := ⟨⟨by decide +kernel, by decide +kernel⟩, List.mem_of_getElem? (i := 19) (by decide +kernel), List.mem_of_getElem? (i := 1044) (by decide +kernel), List.mem_of_getElem? (i := 1045) (by decide +kernel)⟩
theorem lw_p18 : lw_okq (⟨"RugPunch", "simulateTurn", "(I)V"⟩, 7) := ⟨⟨by decide +kernel, by decide +kernel⟩, List.mem_of_getElem? (i := 19) (by decide +kernel), List.mem_of_getElem? (i := 1071) (by decide +kernel), List.mem_of_getElem? (i := 1072) (by decide +kernel)⟩
theorem lw_p19 : lw_okq (⟨"RugPunchModel", "refused", "(I)Z"⟩, 20) := ⟨⟨by decide +kernel, by decide +kernel⟩, List.mem_of_getElem? (i := 1094) (by decide +kernel), List.mem_of_getElem? (i := 1173) (by decide +kernel), List.mem_of_getElem? (i := 1174) (by decide +kernel)⟩
theorem lw_p20 : lw_okq (⟨"RugPunchModel", "readAll", "()I"⟩, 20) := ⟨⟨by decide +kernel, by decide +kernel⟩, List.mem_of_getElem? (i := 1094) (by decide +kernel), List.mem_of_getElem? (i := 1185) (by decide +kernel), List.mem_of_getElem? (i := 1186) (by decide +kernel)⟩
theorem lw_p21 : lw_okq (⟨"RugPunchModel", "readOrder", "()V"⟩, 20) := ⟨⟨by decide +kernel, by decide +kernel⟩, List.mem_of_getElem? (i := 1094) (by decide +kernel), List.mem_of_getElem? (i := 1189) (by decide +kernel), List.mem_of_getElem? (i := 1190) (by decide +kernel)⟩
theorem lw_p22 : lw_okq (⟨"RugPunchModel", "here", "()I"⟩, 20) := ⟨⟨by decide +kernel, by decide +kernel⟩, List.mem_of_getElem? (i := 1094) (by decide +kernel), List.mem_of_getElem? (i := 1193) (by decide +kernel), List.mem_of_getElem? (i := 1194) (by decide +kernel)⟩
theorem lw_p23 : lw_okq (⟨"RugPunchModel", "readPlain", "()V"⟩, 20) := ⟨⟨by decide +kernel, by decide +kernel⟩, List.mem_of_getElem? (i := 1094) (by decide +kernel), List.mem_of_getElem? (i := 1199) (by decide +kernel), List.mem_of_getElem? (i := 1200) (by decide +kernel)⟩
theorem lw_p24 : lw_okq (⟨"RugPunchModel", "take", "(Z)V"⟩, 20) := ⟨⟨by decide +kernel, by decide +kernel⟩, List.mem_of_getElem? (i := 1094) (by decide +kernel), List.mem_of_getElem? (i := 1203) (by decide +kernel), List.mem_of_getElem? (i := 1204) (by decide +kernel)⟩
theorem lw_p25 : lw_okq (⟨"RugPunchModel", "digit", "(II)I"⟩, 20) := ⟨⟨by decide +kernel, by decide +kernel⟩, List.mem_of_getElem? (i := 1094) (by decide +kernel), List.mem_of_getElem? (i := 1207) (by decide +kernel), List.mem_of_getElem? (i := 1208) (by decide +kernel)⟩
theorem lw_p26 : lw_okq (⟨"RugPunchModel", "noCell", "(I)Z"⟩, 20) := ⟨⟨by decide +kernel, by decide +kernel⟩, List.mem_of_getElem? (i := 1094) (by decide +kernel), List.mem_of_getElem? (i := 1215) (by decide +kernel), List.mem_of_getElem? (i := 1216) (by decide +kernel)⟩
theorem lw_p27 : lw_okq (⟨"RugPunchModel", "noColour", "(I)Z"⟩, 20) := ⟨⟨by decide +kernel, by decide +kernel⟩, List.mem_of_getElem? (i := 1094) (by decide +kernel), List.mem_of_getElem? (i := 1265) (by decide +kernel), List.mem_of_getElem? (i := 1266) (by decide +kernel)⟩
theorem lw_p28 : lw_okq (⟨"RugPunchModel", "areas", "(I)I"⟩, 20) := ⟨⟨by decide +kernel, by decide +kernel⟩, List.mem_of_getElem? (i := 1094) (by decide +kernel), List.mem_of_getElem? (i := 1273) (by decide +kernel), List.mem_of_getElem? (i := 1274) (by decide +kernel)⟩
theorem lw_p29 : lw_okq (⟨"RugPunchModel", "tell", "(I)I"⟩, 20) := ⟨⟨by decide +kernel, by decide +kernel⟩, List.mem_of_getElem? (i := 1094) (by decide +kernel), List.mem_of_getElem? (i := 1301) (by decide +kernel), List.mem_of_getElem? (i := 1302) (by decide +kernel)⟩
theorem lw_p30 : lw_okq (⟨"RugPunchModel", "change", "(II)I"⟩, 20) := ⟨⟨by decide +kernel, by decide +kernel⟩, List.mem_of_getElem? (i := 1094) (by decide +kernel), List.mem_of_getElem? (i := 1383) (by decide +kernel), List.mem_of_getElem? (i := 1384) (by decide +kernel)⟩
theorem lw_p31 : lw_okq (⟨"RugPunchModel", "remember", "()V"⟩, 20) := ⟨⟨by decide +kernel, by decide +kernel⟩, List.mem_of_getElem? (i := 1094) (by decide +kernel), List.mem_of_getElem? (i := 1387) (by decide +kernel), List.mem_of_getElem? (i := 1388) (by decide +kernel)⟩
def lw_privs_2 : List (MethodName × Nat) := [(⟨"RugPunch$Canvas", "missesAt", "(III)Z"⟩, 3), (⟨"RugPunch", "tryText", "()V"⟩, 7), (⟨"RugPunch", "simulateTurn", "(I)V"⟩, 7), (⟨"RugPunchModel", "refused", "(I)Z"⟩, 20), (⟨"RugPunchModel", "readAll", "()I"⟩, 20), (⟨"RugPunchModel", "readOrder", "()V"⟩, 20), (⟨"RugPunchModel", "here", "()I"⟩, 20), (⟨"RugPunchModel", "readPlain", "()V"⟩, 20), (⟨"RugPunchModel", "take", "(Z)V"⟩, 20), (⟨"RugPunchModel", "digit", "(II)I"⟩, 20), (⟨"RugPunchModel", "noCell", "(I)Z"⟩, 20), (⟨"RugPunchModel", "noColour", "(I)Z"⟩, 20), (⟨"RugPunchModel", "areas", "(I)I"⟩, 20), (⟨"RugPunchModel", "tell", "(I)I"⟩, 20), (⟨"RugPunchModel", "change", "(II)I"⟩, 20), (⟨"RugPunchModel", "remember", "()V"⟩, 20)]
theorem lw_r2 : ∀ q ∈ lw_privs_2, lw_okq q := List.forall_mem_cons.mpr ⟨lw_p16, List.forall_mem_cons.mpr ⟨lw_p17, List.forall_mem_cons.mpr ⟨lw_p18, List.forall_mem_cons.mpr ⟨lw_p19, List.forall_mem_cons.mpr ⟨lw_p20, List.forall_mem_cons.mpr ⟨lw_p21, List.forall_mem_cons.mpr ⟨lw_p22, List.forall_mem_cons.mpr ⟨lw_p23, List.forall_mem_cons.mpr ⟨lw_p24, List.forall_mem_cons.mpr ⟨lw_p25, List.forall_mem_cons.mpr ⟨lw_p26, List.forall_mem_cons.mpr ⟨lw_p27, List.forall_mem_cons.mpr ⟨lw_p28, List.forall_mem_cons.mpr ⟨lw_p29, List.forall_mem_cons.mpr ⟨lw_p30, List.forall_mem_cons.mpr ⟨lw_p31, fun _ h => absurd h List.not_mem_nil⟩⟩⟩⟩⟩⟩⟩⟩⟩⟩⟩⟩⟩⟩⟩⟩
theorem lw_p32 : lw_okq (⟨"RugPunchModel", "goRun", "([III)I"⟩, 20) := ⟨⟨by decide +kernel, by decide +kernel⟩, List.mem_of_getElem? (i := 1094) (by decide +kernel), List.mem_of_getElem? (i := 1497) (by decide +kernel), List.mem_of_getElem? (i := 1498) (by decide +kernel)⟩
theorem lw_p33 : lw_okq (⟨"RugPunchModel", "push", "(IIII)V"⟩, 20) := ⟨⟨by decide +kernel, by decide +kernel⟩, List.mem_of_getElem? (i := 1094) (by decide +kernel), List.mem_of_getElem? (i := 1501) (by decide +kernel), List.mem_of_getElem? (i := 1502) (by decide +kernel)⟩
theorem lw_p34 : lw_okq (⟨"RugPunchModel", "order", "([I)V"⟩, 20) := ⟨⟨by decide +kernel, by decide +kernel⟩, List.mem_of_getElem? (i := 1094) (by decide +kernel), List.mem_of_getElem? (i := 1505) (by decide +kernel), List.mem_of_getElem? (i := 1506) (by decide +kernel)⟩
theorem lw_p35 : lw_okq (⟨"RugPunchModel", "sign", "([III)I"⟩, 20) := ⟨⟨by decide +kernel, by decide +kernel⟩, List.mem_of_getElem? (i := 1094) (by decide +kernel), List.mem_of_getElem? (i := 1509) (by decide +kernel), List.mem_of_getElem? (i := 1510) (by decide +kernel)⟩
theorem lw_p36 : lw_okq (⟨"RugPunchModel", "fails", "(Z)V"⟩, 20) := ⟨⟨by decide +kernel, by decide +kernel⟩, List.mem_of_getElem? (i := 1094) (by decide +kernel), List.mem_of_getElem? (i := 1513) (by decide +kernel), List.mem_of_getElem? (i := 1514) (by decide +kernel)⟩
theorem lw_p37 : lw_okq (⟨"RugPunchModel", "nearest", "(I)I"⟩, 20) := ⟨⟨by decide +kernel, by decide +kernel⟩, List.mem_of_getElem? (i := 1094) (by decide +kernel), List.mem_of_getElem? (i := 1544) (by decide +kernel), List.mem_of_getElem? (i := 1545) (by decide +kernel)⟩
theorem lw_p38 : lw_okq (⟨"RugPunchModel", "tried", "()Z"⟩, 20) := ⟨⟨by decide +kernel, by decide +kernel⟩, List.mem_of_getElem? (i := 1094) (by decide +kernel), List.mem_of_getElem? (i := 1556) (by decide +kernel), List.mem_of_getElem? (i := 1557) (by decide +kernel)⟩
theorem lw_p39 : lw_okq (⟨"RugPunchModel", "stir", "(I)I"⟩, 20) := ⟨⟨by decide +kernel, by decide +kernel⟩, List.mem_of_getElem? (i := 1094) (by decide +kernel), List.mem_of_getElem? (i := 1575) (by decide +kernel), List.mem_of_getElem? (i := 1576) (by decide +kernel)⟩
def lw_privs_3 : List (MethodName × Nat) := [(⟨"RugPunchModel", "goRun", "([III)I"⟩, 20), (⟨"RugPunchModel", "push", "(IIII)V"⟩, 20), (⟨"RugPunchModel", "order", "([I)V"⟩, 20), (⟨"RugPunchModel", "sign", "([III)I"⟩, 20), (⟨"RugPunchModel", "fails", "(Z)V"⟩, 20), (⟨"RugPunchModel", "nearest", "(I)I"⟩, 20), (⟨"RugPunchModel", "tried", "()Z"⟩, 20), (⟨"RugPunchModel", "stir", "(I)I"⟩, 20)]
theorem lw_r3 : ∀ q ∈ lw_privs_3, lw_okq q := List.forall_mem_cons.mpr ⟨lw_p32, List.forall_mem_cons.mpr ⟨lw_p33, List.forall_mem_cons.mpr ⟨lw_p34, List.forall_mem_cons.mpr ⟨lw_p35, List.forall_mem_cons.mpr ⟨lw_p36, List.forall_mem_cons.mpr ⟨lw_p37, List.forall_mem_cons.mpr ⟨lw_p38, List.forall_mem_cons.mpr ⟨lw_p39, fun _ h => absurd h List.not_mem_nil⟩⟩⟩⟩⟩⟩⟩⟩
def lw_privs : List (MethodName × Nat) := lw_privs_1 ++ (lw_privs_2 ++ (lw_privs_3))
def lw_tbl : List Cond := k2_sels lw_privs ++ tables_1
theorem lw_privs_ok : ∀ q ∈ lw_privs, lw_okq q := by
  show ∀ q ∈ lw_privs_1 ++ (lw_privs_2 ++ (lw_privs_3)), lw_okq q
  exact List.forall_mem_append.mpr ⟨lw_r1, List.forall_mem_append.mpr ⟨lw_r2, lw_r3⟩⟩
/-- the streams that the claim lets the run draw from -/
abbrev lw_cs : List Choice := [Jvm.Choice.named "NaN.bits"]
theorem lw_bits : nanBits ∈ lw_cs := by first | decide | exact List.mem_cons_self | simp [lw_cs, nanBits]
end
section
def RX0 : String := "RugPunch$Areas"
def TX0 : u_T := fun k => match k with
  | 0 => ("RugPunch$Areas", "open", "[Z", true)
  | 1 => ("RugPunch$Areas", "reached", "[I", true)
  | 2 => ("RugPunch$Areas", "reachedCount", "I", false)
  | _ => ("RugPunch$Areas", "chief", "[I", true)
def tyX0 : Nat → FieldType := fun k => match k with
  | 0 => .array .boolean
  | 1 => .array .int
  | 2 => .int
  | _ => .array .int
theorem nmX0 : ∀ a, a < 4 → ∀ b, b < 4 → a ≠ b → (TX0 a).2.1 ≠ (TX0 b).2.1 := by decide +kernel
theorem tyX0_ok : ∀ k, k < 4 → parseFieldDescriptor (TX0 k).2.2.1 = some (tyX0 k) := by decide +kernel
abbrev cX0_init : ByteArray := prog_2_method_1_code
def yX0_init : MethodName := ⟨RX0, "<init>", "()V"⟩
abbrev cX0_countSpreading : ByteArray := prog_2_method_2_code
def yX0_countSpreading : MethodName := ⟨RX0, "countSpreading", "(LRugPunch$Canvas;I)I"⟩
abbrev cX0_spreadFrom : ByteArray := prog_2_method_3_code
def yX0_spreadFrom : MethodName := ⟨RX0, "spreadFrom", "(I)V"⟩
abbrev cX0_reach : ByteArray := prog_2_method_4_code
def yX0_reach : MethodName := ⟨RX0, "reach", "(I)V"⟩
abbrev cX0_countJoining : ByteArray := prog_2_method_5_code
def yX0_countJoining : MethodName := ⟨RX0, "countJoining", "(LRugPunch$Canvas;I)I"⟩
abbrev cX0_joinBeside : ByteArray := prog_2_method_6_code
def yX0_joinBeside : MethodName := ⟨RX0, "joinBeside", "(LRugPunch$Canvas;II)Z"⟩
abbrev cX0_chiefOf : ByteArray := prog_2_method_7_code
def yX0_chiefOf : MethodName := ⟨RX0, "chiefOf", "(I)I"⟩
def RX1 : String := "RugPunch$Canvas"
def TX1 : u_T := fun k => match k with
  | 0 => ("RugPunch$Canvas", "plan", "[I", true)
  | 1 => ("RugPunch$Canvas", "loops", "[I", true)
  | _ => ("RugPunch$Canvas", "heights", "[I", true)
def tyX1 : Nat → FieldType := fun k => match k with
  | 0 => .array .int
  | 1 => .array .int
  | _ => .array .int
theorem nmX1 : ∀ a, a < 3 → ∀ b, b < 3 → a ≠ b → (TX1 a).2.1 ≠ (TX1 b).2.1 := by decide +kernel
theorem tyX1_ok : ∀ k, k < 3 → parseFieldDescriptor (TX1 k).2.2.1 = some (tyX1 k) := by decide +kernel
abbrev cX1_init : ByteArray := prog_3_method_1_code
def yX1_init : MethodName := ⟨RX1, "<init>", "()V"⟩
abbrev cX1_copyFrom : ByteArray := prog_3_method_2_code
def yX1_copyFrom : MethodName := ⟨RX1, "copyFrom", "(LRugPunch$Canvas;)V"⟩
abbrev cX1_planAt : ByteArray := prog_3_method_3_code
def yX1_planAt : MethodName := ⟨RX1, "planAt", "(I)I"⟩
abbrev cX1_loopAt : ByteArray := prog_3_method_4_code
def yX1_loopAt : MethodName := ⟨RX1, "loopAt", "(I)I"⟩
abbrev cX1_heightAt : ByteArray := prog_3_method_5_code
def yX1_heightAt : MethodName := ⟨RX1, "heightAt", "(I)I"⟩
abbrev cX1_skippedAt : ByteArray := prog_3_method_6_code
def yX1_skippedAt : MethodName := ⟨RX1, "skippedAt", "(I)Z"⟩
abbrev cX1_missingAt : ByteArray := prog_3_method_7_code
def yX1_missingAt : MethodName := ⟨RX1, "missingAt", "(I)Z"⟩
abbrev cX1_setPlanAt : ByteArray := prog_3_method_8_code
def yX1_setPlanAt : MethodName := ⟨RX1, "setPlanAt", "(II)V"⟩
abbrev cX1_fillBetween : ByteArray := prog_3_method_9_code
def yX1_fillBetween : MethodName := ⟨RX1, "fillBetween", "(III)I"⟩
abbrev cX1_putLoop : ByteArray := prog_3_method_10_code
def yX1_putLoop : MethodName := ⟨RX1, "putLoop", "(III)V"⟩
abbrev cX1_putSkipped : ByteArray := prog_3_method_11_code
def yX1_putSkipped : MethodName := ⟨RX1, "putSkipped", "(I)V"⟩
abbrev cX1_clearCell : ByteArray := prog_3_method_12_code
def yX1_clearCell : MethodName := ⟨RX1, "clearCell", "(I)V"⟩
abbrev cX1_countLoops : ByteArray := prog_3_method_13_code
def yX1_countLoops : MethodName := ⟨RX1, "countLoops", "()I"⟩
abbrev cX1_countRight : ByteArray := prog_3_method_14_code
def yX1_countRight : MethodName := ⟨RX1, "countRight", "()I"⟩
abbrev cX1_countMissing : ByteArray := prog_3_method_15_code
def yX1_countMissing : MethodName := ⟨RX1, "countMissing", "()I"⟩
abbrev cX1_countMissingOf : ByteArray := prog_3_method_16_code
def yX1_countMissingOf : MethodName := ⟨RX1, "countMissingOf", "(I)I"⟩
abbrev cX1_countSkipped : ByteArray := prog_3_method_17_code
def yX1_countSkipped : MethodName := ⟨RX1, "countSkipped", "()I"⟩
abbrev cX1_sumHeights : ByteArray := prog_3_method_18_code
def yX1_sumHeights : MethodName := ⟨RX1, "sumHeights", "()I"⟩
abbrev cX1_yarnInLoops : ByteArray := prog_3_method_19_code
def yX1_yarnInLoops : MethodName := ⟨RX1, "yarnInLoops", "(I)I"⟩
abbrev cX1_nearestInRings : ByteArray := prog_3_method_20_code
def yX1_nearestInRings : MethodName := ⟨RX1, "nearestInRings", "(II)I"⟩
abbrev cX1_firstInRing : ByteArray := prog_3_method_21_code
def yX1_firstInRing : MethodName := ⟨RX1, "firstInRing", "(III)I"⟩
abbrev cX1_missesAt : ByteArray := prog_3_method_22_code
def yX1_missesAt : MethodName := ⟨RX1, "missesAt", "(III)Z"⟩
abbrev cX1_nearestInCells : ByteArray := prog_3_method_23_code
def yX1_nearestInCells : MethodName := ⟨RX1, "nearestInCells", "(II)I"⟩
def RX2 : String := "RugPunch$History"
def TX2 : u_T := fun k => match k with
  | 0 => ("RugPunch$History", "states", "[LRugPunch$Rug;", true)
  | 1 => ("RugPunch$History", "oldest", "I", false)
  | _ => ("RugPunch$History", "count", "I", false)
def tyX2 : Nat → FieldType := fun k => match k with
  | 0 => .array (.object "RugPunch$Rug")
  | 1 => .int
  | _ => .int
theorem nmX2 : ∀ a, a < 3 → ∀ b, b < 3 → a ≠ b → (TX2 a).2.1 ≠ (TX2 b).2.1 := by decide +kernel
theorem tyX2_ok : ∀ k, k < 3 → parseFieldDescriptor (TX2 k).2.2.1 = some (tyX2 k) := by decide +kernel
abbrev cX2_init : ByteArray := prog_4_method_1_code
def yX2_init : MethodName := ⟨RX2, "<init>", "()V"⟩
abbrev cX2_remember : ByteArray := prog_4_method_2_code
def yX2_remember : MethodName := ⟨RX2, "remember", "(LRugPunch$Rug;)V"⟩
abbrev cX2_takeBack : ByteArray := prog_4_method_3_code
def yX2_takeBack : MethodName := ⟨RX2, "takeBack", "(LRugPunch$Rug;)V"⟩
def RX3 : String := "RugPunch$Player"
def TX3 : u_T := fun k => match k with
  | 0 => ("RugPunch$Player", "scripts", "[LRugPunch$Script;", true)
  | 1 => ("RugPunch$Player", "places", "[I", true)
  | 2 => ("RugPunch$Player", "groups", "[I", true)
  | 3 => ("RugPunch$Player", "times", "[I", true)
  | 4 => ("RugPunch$Player", "level", "I", false)
  | 5 => ("RugPunch$Player", "orders", "I", false)
  | _ => ("RugPunch$Player", "broken", "I", false)
def tyX3 : Nat → FieldType := fun k => match k with
  | 0 => .array (.object "RugPunch$Script")
  | 1 => .array .int
  | 2 => .array .int
  | 3 => .array .int
  | 4 => .int
  | 5 => .int
  | _ => .int
theorem nmX3 : ∀ a, a < 7 → ∀ b, b < 7 → a ≠ b → (TX3 a).2.1 ≠ (TX3 b).2.1 := by decide +kernel
theorem tyX3_ok : ∀ k, k < 7 → parseFieldDescriptor (TX3 k).2.2.1 = some (tyX3 k) := by decide +kernel
abbrev cX3_init : ByteArray := prog_5_method_1_code
def yX3_init : MethodName := ⟨RX3, "<init>", "()V"⟩
abbrev cX3_play : ByteArray := prog_5_method_2_code
def yX3_play : MethodName := ⟨RX3, "play", "(LRugPunch$Rug;LRugPunch$Script;)I"⟩
abbrev cX3_enter : ByteArray := prog_5_method_3_code
def yX3_enter : MethodName := ⟨RX3, "enter", "(LRugPunch$Script;)Z"⟩
abbrev cX3_endGroup : ByteArray := prog_5_method_4_code
def yX3_endGroup : MethodName := ⟨RX3, "endGroup", "(I)V"⟩
abbrev cX3_startGroup : ByteArray := prog_5_method_5_code
def yX3_startGroup : MethodName := ⟨RX3, "startGroup", "(II)V"⟩
abbrev cX3_goTo : ByteArray := prog_5_method_6_code
def yX3_goTo : MethodName := ⟨RX3, "goTo", "(I)V"⟩
abbrev cX3_doOrder : ByteArray := prog_5_method_7_code
def yX3_doOrder : MethodName := ⟨RX3, "doOrder", "(LRugPunch$Rug;LRugPunch$Script;I)Z"⟩
abbrev cX3_signsOf : ByteArray := prog_5_method_8_code
def yX3_signsOf : MethodName := ⟨RX3, "signsOf", "(C)I"⟩
def RX4 : String := "RugPunch$Rug"
def TX4 : u_T := fun k => match k with
  | 0 => ("RugPunch$Rug", "canvas", "LRugPunch$Canvas;", true)
  | 1 => ("RugPunch$Rug", "yarn", "LRugPunch$Yarn;", true)
  | 2 => ("RugPunch$Rug", "motifs", "[LRugPunch$Script;", true)
  | 3 => ("RugPunch$Rug", "needle", "I", false)
  | 4 => ("RugPunch$Rug", "heading", "I", false)
  | 5 => ("RugPunch$Rug", "threaded", "I", false)
  | 6 => ("RugPunch$Rug", "height", "I", false)
  | 7 => ("RugPunch$Rug", "tension", "I", false)
  | _ => ("RugPunch$Rug", "knots", "I", false)
def tyX4 : Nat → FieldType := fun k => match k with
  | 0 => .object "RugPunch$Canvas"
  | 1 => .object "RugPunch$Yarn"
  | 2 => .array (.object "RugPunch$Script")
  | 3 => .int
  | 4 => .int
  | 5 => .int
  | 6 => .int
  | 7 => .int
  | _ => .int
theorem nmX4 : ∀ a, a < 9 → ∀ b, b < 9 → a ≠ b → (TX4 a).2.1 ≠ (TX4 b).2.1 := by decide +kernel
theorem tyX4_ok : ∀ k, k < 9 → parseFieldDescriptor (TX4 k).2.2.1 = some (tyX4 k) := by decide +kernel
abbrev cX4_init : ByteArray := prog_6_method_1_code
def yX4_init : MethodName := ⟨RX4, "<init>", "()V"⟩
abbrev cX4_copyFrom : ByteArray := prog_6_method_2_code
def yX4_copyFrom : MethodName := ⟨RX4, "copyFrom", "(LRugPunch$Rug;)V"⟩
abbrev cX4_keepMotif : ByteArray := prog_6_method_3_code
def yX4_keepMotif : MethodName := ⟨RX4, "keepMotif", "(ILRugPunch$Script;)V"⟩
abbrev cX4_motifAt : ByteArray := prog_6_method_4_code
def yX4_motifAt : MethodName := ⟨RX4, "motifAt", "(I)LRugPunch$Script;"⟩
abbrev cX4_isTight : ByteArray := prog_6_method_5_code
def yX4_isTight : MethodName := ⟨RX4, "isTight", "()Z"⟩
abbrev cX4_reasonAgainstStitch : ByteArray := prog_6_method_6_code
def yX4_reasonAgainstStitch : MethodName := ⟨RX4, "reasonAgainstStitch", "()I"⟩
abbrev cX4_reasonAgainstMending : ByteArray := prog_6_method_7_code
def yX4_reasonAgainstMending : MethodName := ⟨RX4, "reasonAgainstMending", "(I)I"⟩
abbrev cX4_sewUpTo : ByteArray := prog_6_method_8_code
def yX4_sewUpTo : MethodName := ⟨RX4, "sewUpTo", "(I)I"⟩
abbrev cX4_punch : ByteArray := prog_6_method_9_code
def yX4_punch : MethodName := ⟨RX4, "punch", "()V"⟩
abbrev cX4_feelKnot : ByteArray := prog_6_method_10_code
def yX4_feelKnot : MethodName := ⟨RX4, "feelKnot", "(I)V"⟩
abbrev cX4_goOn : ByteArray := prog_6_method_11_code
def yX4_goOn : MethodName := ⟨RX4, "goOn", "()Z"⟩
abbrev cX4_jumpOver : ByteArray := prog_6_method_12_code
def yX4_jumpOver : MethodName := ⟨RX4, "jumpOver", "(I)I"⟩
abbrev cX4_turnBy : ByteArray := prog_6_method_13_code
def yX4_turnBy : MethodName := ⟨RX4, "turnBy", "(I)V"⟩
abbrev cX4_tryThread : ByteArray := prog_6_method_14_code
def yX4_tryThread : MethodName := ⟨RX4, "tryThread", "(I)Z"⟩
abbrev cX4_tryCut : ByteArray := prog_6_method_15_code
def yX4_tryCut : MethodName := ⟨RX4, "tryCut", "()Z"⟩
abbrev cX4_tryEase : ByteArray := prog_6_method_16_code
def yX4_tryEase : MethodName := ⟨RX4, "tryEase", "()Z"⟩
abbrev cX4_mendAt : ByteArray := prog_6_method_17_code
def yX4_mendAt : MethodName := ⟨RX4, "mendAt", "(I)V"⟩
abbrev cX4_tryUnpick : ByteArray := prog_6_method_18_code
def yX4_tryUnpick : MethodName := ⟨RX4, "tryUnpick", "(I)V"⟩
abbrev cX4_shearTo : ByteArray := prog_6_method_19_code
def yX4_shearTo : MethodName := ⟨RX4, "shearTo", "(I)I"⟩
def RX5 : String := "RugPunch$Script"
def TX5 : u_T := fun k => match k with
  | 0 => ("RugPunch$Script", "signs", "[C", true)
  | _ => ("RugPunch$Script", "length", "I", false)
def tyX5 : Nat → FieldType := fun k => match k with
  | 0 => .array .char
  | _ => .int
theorem nmX5 : ∀ a, a < 2 → ∀ b, b < 2 → a ≠ b → (TX5 a).2.1 ≠ (TX5 b).2.1 := by decide +kernel
theorem tyX5_ok : ∀ k, k < 2 → parseFieldDescriptor (TX5 k).2.2.1 = some (tyX5 k) := by decide +kernel
abbrev cX5_init : ByteArray := prog_7_method_1_code
def yX5_init : MethodName := ⟨RX5, "<init>", "()V"⟩
abbrev cX5_add : ByteArray := prog_7_method_2_code
def yX5_add : MethodName := ⟨RX5, "add", "(C)V"⟩
abbrev cX5_copyFrom : ByteArray := prog_7_method_3_code
def yX5_copyFrom : MethodName := ⟨RX5, "copyFrom", "(LRugPunch$Script;)V"⟩
abbrev cX5_signAt : ByteArray := prog_7_method_4_code
def yX5_signAt : MethodName := ⟨RX5, "signAt", "(I)C"⟩
abbrev cX5_digitAt : ByteArray := prog_7_method_5_code
def yX5_digitAt : MethodName := ⟨RX5, "digitAt", "(I)I"⟩
abbrev cX5_firstError : ByteArray := prog_7_method_6_code
def yX5_firstError : MethodName := ⟨RX5, "firstError", "()I"⟩
abbrev cX5_awaitedAfter : ByteArray := prog_7_method_7_code
def yX5_awaitedAfter : MethodName := ⟨RX5, "awaitedAfter", "(ICZ)I"⟩
abbrev cX5_startOfOrder : ByteArray := prog_7_method_8_code
def yX5_startOfOrder : MethodName := ⟨RX5, "startOfOrder", "(CZ)I"⟩
abbrev cX5_endOfOrder : ByteArray := prog_7_method_9_code
def yX5_endOfOrder : MethodName := ⟨RX5, "endOfOrder", "(CCC)I"⟩
abbrev cX5_hasMotifFrom : ByteArray := prog_7_method_10_code
def yX5_hasMotifFrom : MethodName := ⟨RX5, "hasMotifFrom", "(I)Z"⟩
def RX6 : String := "RugPunch$Yarn"
def TX6 : u_T := fun k => match k with
  | 0 => ("RugPunch$Yarn", "cones", "[I", true)
  | 1 => ("RugPunch$Yarn", "puts", "[I", true)
  | 2 => ("RugPunch$Yarn", "floats", "[I", true)
  | 3 => ("RugPunch$Yarn", "ends", "[I", true)
  | _ => ("RugPunch$Yarn", "waste", "[I", true)
def tyX6 : Nat → FieldType := fun k => match k with
  | 0 => .array .int
  | 1 => .array .int
  | 2 => .array .int
  | 3 => .array .int
  | _ => .array .int
theorem nmX6 : ∀ a, a < 5 → ∀ b, b < 5 → a ≠ b → (TX6 a).2.1 ≠ (TX6 b).2.1 := by decide +kernel
theorem tyX6_ok : ∀ k, k < 5 → parseFieldDescriptor (TX6 k).2.2.1 = some (tyX6 k) := by decide +kernel
abbrev cX6_init : ByteArray := prog_8_method_1_code
def yX6_init : MethodName := ⟨RX6, "<init>", "()V"⟩
abbrev cX6_copyFrom : ByteArray := prog_8_method_2_code
def yX6_copyFrom : MethodName := ⟨RX6, "copyFrom", "(LRugPunch$Yarn;)V"⟩
abbrev cX6_onCone : ByteArray := prog_8_method_3_code
def yX6_onCone : MethodName := ⟨RX6, "onCone", "(I)I"⟩
abbrev cX6_hasEnd : ByteArray := prog_8_method_4_code
def yX6_hasEnd : MethodName := ⟨RX6, "hasEnd", "(I)Z"⟩
abbrev cX6_drawn : ByteArray := prog_8_method_5_code
def yX6_drawn : MethodName := ⟨RX6, "drawn", "(I)I"⟩
abbrev cX6_wasted : ByteArray := prog_8_method_6_code
def yX6_wasted : MethodName := ⟨RX6, "wasted", "(I)I"⟩
abbrev cX6_outsideLoops : ByteArray := prog_8_method_7_code
def yX6_outsideLoops : MethodName := ⟨RX6, "outsideLoops", "(I)I"⟩
abbrev cX6_putOn : ByteArray := prog_8_method_8_code
def yX6_putOn : MethodName := ⟨RX6, "putOn", "(II)V"⟩
abbrev cX6_draw : ByteArray := prog_8_method_9_code
def yX6_draw : MethodName := ⟨RX6, "draw", "(II)I"⟩
abbrev cX6_drawFloat : ByteArray := prog_8_method_10_code
def yX6_drawFloat : MethodName := ⟨RX6, "drawFloat", "(II)V"⟩
abbrev cX6_drawEnd : ByteArray := prog_8_method_11_code
def yX6_drawEnd : MethodName := ⟨RX6, "drawEnd", "(I)V"⟩
abbrev cX6_addWaste : ByteArray := prog_8_method_12_code
def yX6_addWaste : MethodName := ⟨RX6, "addWaste", "(II)V"⟩
def RX7 : String := "RugPunch"
def TX7 : u_T := fun k => match k with
  | 0 => ("RugPunch", "rug", "LRugPunch$Rug;", true)
  | 1 => ("RugPunch", "trial", "LRugPunch$Rug;", true)
  | 2 => ("RugPunch", "slots", "[LRugPunch$Rug;", true)
  | 3 => ("RugPunch", "history", "LRugPunch$History;", true)
  | 4 => ("RugPunch", "text", "LRugPunch$Script;", true)
  | 5 => ("RugPunch", "player", "LRugPunch$Player;", true)
  | _ => ("RugPunch", "areas", "LRugPunch$Areas;", true)
def tyX7 : Nat → FieldType := fun k => match k with
  | 0 => .object "RugPunch$Rug"
  | 1 => .object "RugPunch$Rug"
  | 2 => .array (.object "RugPunch$Rug")
  | 3 => .object "RugPunch$History"
  | 4 => .object "RugPunch$Script"
  | 5 => .object "RugPunch$Player"
  | _ => .object "RugPunch$Areas"
theorem nmX7 : ∀ a, a < 7 → ∀ b, b < 7 → a ≠ b → (TX7 a).2.1 ≠ (TX7 b).2.1 := by decide +kernel
theorem tyX7_ok : ∀ k, k < 7 → parseFieldDescriptor (TX7 k).2.2.1 = some (tyX7 k) := by decide +kernel
abbrev cX7_init : ByteArray := prog_1_method_1_code
def yX7_init : MethodName := ⟨RX7, "<init>", "()V"⟩
abbrev cX7_append : ByteArray := prog_1_method_2_code
def yX7_append : MethodName := ⟨RX7, "append", "(I)I"⟩
abbrev cX7_clearText : ByteArray := prog_1_method_3_code
def yX7_clearText : MethodName := ⟨RX7, "clearText", "()I"⟩
abbrev cX7_errorPosition : ByteArray := prog_1_method_4_code
def yX7_errorPosition : MethodName := ⟨RX7, "errorPosition", "()I"⟩
abbrev cX7_planOf : ByteArray := prog_1_method_5_code
def yX7_planOf : MethodName := ⟨RX7, "planOf", "(I)I"⟩
abbrev cX7_loopOf : ByteArray := prog_1_method_6_code
def yX7_loopOf : MethodName := ⟨RX7, "loopOf", "(I)I"⟩
abbrev cX7_heightOf : ByteArray := prog_1_method_7_code
def yX7_heightOf : MethodName := ⟨RX7, "heightOf", "(I)I"⟩
abbrev cX7_isSkipped : ByteArray := prog_1_method_8_code
def yX7_isSkipped : MethodName := ⟨RX7, "isSkipped", "(I)Z"⟩
abbrev cX7_right : ByteArray := prog_1_method_9_code
def yX7_right : MethodName := ⟨RX7, "right", "()I"⟩
abbrev cX7_missing : ByteArray := prog_1_method_10_code
def yX7_missing : MethodName := ⟨RX7, "missing", "()I"⟩
abbrev cX7_wrong : ByteArray := prog_1_method_11_code
def yX7_wrong : MethodName := ⟨RX7, "wrong", "()I"⟩
abbrev cX7_skipped : ByteArray := prog_1_method_12_code
def yX7_skipped : MethodName := ⟨RX7, "skipped", "()I"⟩
abbrev cX7_areasBySpreading : ByteArray := prog_1_method_13_code
def yX7_areasBySpreading : MethodName := ⟨RX7, "areasBySpreading", "(I)I"⟩
abbrev cX7_areasByJoining : ByteArray := prog_1_method_14_code
def yX7_areasByJoining : MethodName := ⟨RX7, "areasByJoining", "(I)I"⟩
abbrev cX7_density : ByteArray := prog_1_method_15_code
def yX7_density : MethodName := ⟨RX7, "density", "()F"⟩
abbrev cX7_meanHeight : ByteArray := prog_1_method_16_code
def yX7_meanHeight : MethodName := ⟨RX7, "meanHeight", "()D"⟩
abbrev cX7_needle : ByteArray := prog_1_method_17_code
def yX7_needle : MethodName := ⟨RX7, "needle", "()I"⟩
abbrev cX7_heading : ByteArray := prog_1_method_18_code
def yX7_heading : MethodName := ⟨RX7, "heading", "()I"⟩
abbrev cX7_threaded : ByteArray := prog_1_method_19_code
def yX7_threaded : MethodName := ⟨RX7, "threaded", "()I"⟩
abbrev cX7_height : ByteArray := prog_1_method_20_code
def yX7_height : MethodName := ⟨RX7, "height", "()I"⟩
abbrev cX7_tension : ByteArray := prog_1_method_21_code
def yX7_tension : MethodName := ⟨RX7, "tension", "()I"⟩
abbrev cX7_canGo : ByteArray := prog_1_method_22_code
def yX7_canGo : MethodName := ⟨RX7, "canGo", "()Z"⟩
abbrev cX7_wouldSkip : ByteArray := prog_1_method_23_code
def yX7_wouldSkip : MethodName := ⟨RX7, "wouldSkip", "()Z"⟩
abbrev cX7_coneOf : ByteArray := prog_1_method_24_code
def yX7_coneOf : MethodName := ⟨RX7, "coneOf", "(I)I"⟩
abbrev cX7_drawnByCone : ByteArray := prog_1_method_25_code
def yX7_drawnByCone : MethodName := ⟨RX7, "drawnByCone", "(I)I"⟩
abbrev cX7_drawnByRug : ByteArray := prog_1_method_26_code
def yX7_drawnByRug : MethodName := ⟨RX7, "drawnByRug", "(I)I"⟩
abbrev cX7_wasteOf : ByteArray := prog_1_method_27_code
def yX7_wasteOf : MethodName := ⟨RX7, "wasteOf", "(I)I"⟩
abbrev cX7_neededFor : ByteArray := prog_1_method_28_code
def yX7_neededFor : MethodName := ⟨RX7, "neededFor", "(I)I"⟩
abbrev cX7_untilKnot : ByteArray := prog_1_method_29_code
def yX7_untilKnot : MethodName := ⟨RX7, "untilKnot", "(I)I"⟩
abbrev cX7_knots : ByteArray := prog_1_method_30_code
def yX7_knots : MethodName := ⟨RX7, "knots", "()I"⟩
abbrev cX7_motifLength : ByteArray := prog_1_method_31_code
def yX7_motifLength : MethodName := ⟨RX7, "motifLength", "(I)I"⟩
abbrev cX7_motifSign : ByteArray := prog_1_method_32_code
def yX7_motifSign : MethodName := ⟨RX7, "motifSign", "(II)I"⟩
abbrev cX7_setPlan : ByteArray := prog_1_method_33_code
def yX7_setPlan : MethodName := ⟨RX7, "setPlan", "(II)I"⟩
abbrev cX7_fillPlan : ByteArray := prog_1_method_34_code
def yX7_fillPlan : MethodName := ⟨RX7, "fillPlan", "(III)I"⟩
abbrev cX7_thread : ByteArray := prog_1_method_35_code
def yX7_thread : MethodName := ⟨RX7, "thread", "(I)I"⟩
abbrev cX7_cut : ByteArray := prog_1_method_36_code
def yX7_cut : MethodName := ⟨RX7, "cut", "()I"⟩
abbrev cX7_sew : ByteArray := prog_1_method_37_code
def yX7_sew : MethodName := ⟨RX7, "sew", "(I)I"⟩
abbrev cX7_jump : ByteArray := prog_1_method_38_code
def yX7_jump : MethodName := ⟨RX7, "jump", "(I)I"⟩
abbrev cX7_turnLeft : ByteArray := prog_1_method_39_code
def yX7_turnLeft : MethodName := ⟨RX7, "turnLeft", "()I"⟩
abbrev cX7_turnRight : ByteArray := prog_1_method_40_code
def yX7_turnRight : MethodName := ⟨RX7, "turnRight", "()I"⟩
abbrev cX7_ease : ByteArray := prog_1_method_41_code
def yX7_ease : MethodName := ⟨RX7, "ease", "()I"⟩
abbrev cX7_setHeight : ByteArray := prog_1_method_42_code
def yX7_setHeight : MethodName := ⟨RX7, "setHeight", "(I)I"⟩
abbrev cX7_place : ByteArray := prog_1_method_43_code
def yX7_place : MethodName := ⟨RX7, "place", "(II)I"⟩
abbrev cX7_wind : ByteArray := prog_1_method_44_code
def yX7_wind : MethodName := ⟨RX7, "wind", "(II)I"⟩
abbrev cX7_mend : ByteArray := prog_1_method_45_code
def yX7_mend : MethodName := ⟨RX7, "mend", "(I)I"⟩
abbrev cX7_unpick : ByteArray := prog_1_method_46_code
def yX7_unpick : MethodName := ⟨RX7, "unpick", "(I)I"⟩
abbrev cX7_shear : ByteArray := prog_1_method_47_code
def yX7_shear : MethodName := ⟨RX7, "shear", "(I)I"⟩
abbrev cX7_store : ByteArray := prog_1_method_48_code
def yX7_store : MethodName := ⟨RX7, "store", "(I)I"⟩
abbrev cX7_run : ByteArray := prog_1_method_49_code
def yX7_run : MethodName := ⟨RX7, "run", "(I)I"⟩
abbrev cX7_runText : ByteArray := prog_1_method_50_code
def yX7_runText : MethodName := ⟨RX7, "runText", "()I"⟩
abbrev cX7_undo : ByteArray := prog_1_method_51_code
def yX7_undo : MethodName := ⟨RX7, "undo", "()I"⟩
abbrev cX7_whyNoStitch : ByteArray := prog_1_method_52_code
def yX7_whyNoStitch : MethodName := ⟨RX7, "whyNoStitch", "()I"⟩
abbrev cX7_whyNoMending : ByteArray := prog_1_method_53_code
def yX7_whyNoMending : MethodName := ⟨RX7, "whyNoMending", "(I)I"⟩
abbrev cX7_couldSew : ByteArray := prog_1_method_54_code
def yX7_couldSew : MethodName := ⟨RX7, "couldSew", "()I"⟩
abbrev cX7_nearestByRings : ByteArray := prog_1_method_55_code
def yX7_nearestByRings : MethodName := ⟨RX7, "nearestByRings", "(I)I"⟩
abbrev cX7_nearestByCells : ByteArray := prog_1_method_56_code
def yX7_nearestByCells : MethodName := ⟨RX7, "nearestByCells", "(I)I"⟩
abbrev cX7_loopsBy : ByteArray := prog_1_method_57_code
def yX7_loopsBy : MethodName := ⟨RX7, "loopsBy", "()I"⟩
abbrev cX7_needleBy : ByteArray := prog_1_method_58_code
def yX7_needleBy : MethodName := ⟨RX7, "needleBy", "()I"⟩
abbrev cX7_yarnBy : ByteArray := prog_1_method_59_code
def yX7_yarnBy : MethodName := ⟨RX7, "yarnBy", "(I)I"⟩
abbrev cX7_simulate : ByteArray := prog_1_method_60_code
def yX7_simulate : MethodName := ⟨RX7, "simulate", "(JI)I"⟩
abbrev cX7_save : ByteArray := prog_1_method_61_code
def yX7_save : MethodName := ⟨RX7, "save", "(I)I"⟩
abbrev cX7_restore : ByteArray := prog_1_method_62_code
def yX7_restore : MethodName := ⟨RX7, "restore", "(I)I"⟩
abbrev cX7_tryText : ByteArray := prog_1_method_63_code
def yX7_tryText : MethodName := ⟨RX7, "tryText", "()V"⟩
abbrev cX7_simulateTurn : ByteArray := prog_1_method_64_code
def yX7_simulateTurn : MethodName := ⟨RX7, "simulateTurn", "(I)V"⟩
abbrev cX7_needThreaded : ByteArray := prog_1_method_65_code
def yX7_needThreaded : MethodName := ⟨RX7, "needThreaded", "()V"⟩
abbrev cX7_needMotifText : ByteArray := prog_1_method_66_code
def yX7_needMotifText : MethodName := ⟨RX7, "needMotifText", "()V"⟩
abbrev cX7_needCell : ByteArray := prog_1_method_67_code
def yX7_needCell : MethodName := ⟨RX7, "needCell", "(I)V"⟩
abbrev cX7_needColour : ByteArray := prog_1_method_68_code
def yX7_needColour : MethodName := ⟨RX7, "needColour", "(I)V"⟩
abbrev cX7_needMotif : ByteArray := prog_1_method_69_code
def yX7_needMotif : MethodName := ⟨RX7, "needMotif", "(I)V"⟩
abbrev cX7_needSlot : ByteArray := prog_1_method_70_code
def yX7_needSlot : MethodName := ⟨RX7, "needSlot", "(I)V"⟩
abbrev cX7_needRange : ByteArray := prog_1_method_71_code
def yX7_needRange : MethodName := ⟨RX7, "needRange", "(III)V"⟩
abbrev cX7_yarnForLoop : ByteArray := prog_1_method_72_code
def yX7_yarnForLoop : MethodName := ⟨RX7, "yarnForLoop", "(I)I"⟩
abbrev cX7_beside : ByteArray := prog_1_method_73_code
def yX7_beside : MethodName := ⟨RX7, "beside", "(II)I"⟩
def RX8 : String := "RugPunchModel"
def TX8 : u_T := fun k => match k with
  | 0 => ("RugPunchModel", "refusal", "I", false)
  | 1 => ("RugPunchModel", "now", "[I", true)
  | 2 => ("RugPunchModel", "trial", "[I", true)
  | 3 => ("RugPunchModel", "area", "[I", true)
  | 4 => ("RugPunchModel", "source", "[I", true)
  | 5 => ("RugPunchModel", "spot", "[I", true)
  | 6 => ("RugPunchModel", "first", "[I", true)
  | 7 => ("RugPunchModel", "end", "[I", true)
  | 8 => ("RugPunchModel", "times", "[I", true)
  | 9 => ("RugPunchModel", "deep", "I", false)
  | 10 => ("RugPunchModel", "broken", "I", false)
  | 11 => ("RugPunchModel", "book", "[I", true)
  | 12 => ("RugPunchModel", "states", "I", false)
  | 13 => ("RugPunchModel", "kept", "[I", true)
  | 14 => ("RugPunchModel", "isKept", "[Z", true)
  | 15 => ("RugPunchModel", "text", "[I", true)
  | 16 => ("RugPunchModel", "length", "I", false)
  | 17 => ("RugPunchModel", "at", "I", false)
  | 18 => ("RugPunchModel", "good", "Z", false)
  | _ => ("RugPunchModel", "greatest", "I", false)
def tyX8 : Nat → FieldType := fun k => match k with
  | 0 => .int
  | 1 => .array .int
  | 2 => .array .int
  | 3 => .array .int
  | 4 => .array .int
  | 5 => .array .int
  | 6 => .array .int
  | 7 => .array .int
  | 8 => .array .int
  | 9 => .int
  | 10 => .int
  | 11 => .array .int
  | 12 => .int
  | 13 => .array .int
  | 14 => .array .boolean
  | 15 => .array .int
  | 16 => .int
  | 17 => .int
  | 18 => .boolean
  | _ => .int
theorem nmX8 : ∀ a, a < 20 → ∀ b, b < 20 → a ≠ b → (TX8 a).2.1 ≠ (TX8 b).2.1 := by decide +kernel
theorem tyX8_ok : ∀ k, k < 20 → parseFieldDescriptor (TX8 k).2.2.1 = some (tyX8 k) := by decide +kernel
abbrev cX8_init : ByteArray := prog_10_method_1_code
def yX8_init : MethodName := ⟨RX8, "<init>", "()V"⟩
abbrev cX8_thrown : ByteArray := prog_10_method_2_code
def yX8_thrown : MethodName := ⟨RX8, "thrown", "()I"⟩
abbrev cX8_refused : ByteArray := prog_10_method_3_code
def yX8_refused : MethodName := ⟨RX8, "refused", "(I)Z"⟩
abbrev cX8_in : ByteArray := prog_10_method_4_code
def yX8_in : MethodName := ⟨RX8, "in", "(JJJ)Z"⟩
abbrev cX8_copy : ByteArray := prog_10_method_5_code
def yX8_copy : MethodName := ⟨RX8, "copy", "([I[I)V"⟩
abbrev cX8_isCell : ByteArray := prog_10_method_6_code
def yX8_isCell : MethodName := ⟨RX8, "isCell", "(I)Z"⟩
abbrev cX8_isColour : ByteArray := prog_10_method_7_code
def yX8_isColour : MethodName := ⟨RX8, "isColour", "(I)Z"⟩
abbrev cX8_hasLoop : ByteArray := prog_10_method_8_code
def yX8_hasLoop : MethodName := ⟨RX8, "hasLoop", "([II)Z"⟩
abbrev cX8_yarn : ByteArray := prog_10_method_9_code
def yX8_yarn : MethodName := ⟨RX8, "yarn", "(I)I"⟩
abbrev cX8_isMissing : ByteArray := prog_10_method_10_code
def yX8_isMissing : MethodName := ⟨RX8, "isMissing", "([II)Z"⟩
abbrev cX8_cone : ByteArray := prog_10_method_11_code
def yX8_cone : MethodName := ⟨RX8, "cone", "([III)I"⟩
abbrev cX8_drawn : ByteArray := prog_10_method_12_code
def yX8_drawn : MethodName := ⟨RX8, "drawn", "([II)I"⟩
abbrev cX8_next : ByteArray := prog_10_method_13_code
def yX8_next : MethodName := ⟨RX8, "next", "(II)I"⟩
abbrev cX8_draw : ByteArray := prog_10_method_14_code
def yX8_draw : MethodName := ⟨RX8, "draw", "([IIII)V"⟩
abbrev cX8_pull : ByteArray := prog_10_method_15_code
def yX8_pull : MethodName := ⟨RX8, "pull", "([IIIII)V"⟩
abbrev cX8_goCut : ByteArray := prog_10_method_16_code
def yX8_goCut : MethodName := ⟨RX8, "goCut", "([I)I"⟩
abbrev cX8_goThread : ByteArray := prog_10_method_17_code
def yX8_goThread : MethodName := ⟨RX8, "goThread", "([II)I"⟩
abbrev cX8_noStitch : ByteArray := prog_10_method_18_code
def yX8_noStitch : MethodName := ⟨RX8, "noStitch", "([I)I"⟩
abbrev cX8_stitch : ByteArray := prog_10_method_19_code
def yX8_stitch : MethodName := ⟨RX8, "stitch", "([I)Z"⟩
abbrev cX8_goSew : ByteArray := prog_10_method_20_code
def yX8_goSew : MethodName := ⟨RX8, "goSew", "([II)I"⟩
abbrev cX8_goJump : ByteArray := prog_10_method_21_code
def yX8_goJump : MethodName := ⟨RX8, "goJump", "([II)I"⟩
abbrev cX8_goTurn : ByteArray := prog_10_method_22_code
def yX8_goTurn : MethodName := ⟨RX8, "goTurn", "([II)I"⟩
abbrev cX8_goEase : ByteArray := prog_10_method_23_code
def yX8_goEase : MethodName := ⟨RX8, "goEase", "([I)I"⟩
abbrev cX8_goUnpick : ByteArray := prog_10_method_24_code
def yX8_goUnpick : MethodName := ⟨RX8, "goUnpick", "([II)I"⟩
abbrev cX8_goShear : ByteArray := prog_10_method_25_code
def yX8_goShear : MethodName := ⟨RX8, "goShear", "([II)I"⟩
abbrev cX8_loops : ByteArray := prog_10_method_26_code
def yX8_loops : MethodName := ⟨RX8, "loops", "([I)I"⟩
abbrev cX8_sign : ByteArray := prog_10_method_27_code
def yX8_sign : MethodName := ⟨RX8, "sign", "([III)I"⟩
abbrev cX8_push : ByteArray := prog_10_method_28_code
def yX8_push : MethodName := ⟨RX8, "push", "(IIII)V"⟩
abbrev cX8_fails : ByteArray := prog_10_method_29_code
def yX8_fails : MethodName := ⟨RX8, "fails", "(Z)V"⟩
abbrev cX8_order : ByteArray := prog_10_method_30_code
def yX8_order : MethodName := ⟨RX8, "order", "([I)V"⟩
abbrev cX8_goRun : ByteArray := prog_10_method_31_code
def yX8_goRun : MethodName := ⟨RX8, "goRun", "([III)I"⟩
abbrev cX8_remember : ByteArray := prog_10_method_32_code
def yX8_remember : MethodName := ⟨RX8, "remember", "()V"⟩
abbrev cX8_change : ByteArray := prog_10_method_33_code
def yX8_change : MethodName := ⟨RX8, "change", "(II)I"⟩
abbrev cX8_append : ByteArray := prog_10_method_34_code
def yX8_append : MethodName := ⟨RX8, "append", "(I)I"⟩
abbrev cX8_clearText : ByteArray := prog_10_method_35_code
def yX8_clearText : MethodName := ⟨RX8, "clearText", "()I"⟩
abbrev cX8_here : ByteArray := prog_10_method_36_code
def yX8_here : MethodName := ⟨RX8, "here", "()I"⟩
abbrev cX8_take : ByteArray := prog_10_method_37_code
def yX8_take : MethodName := ⟨RX8, "take", "(Z)V"⟩
abbrev cX8_digit : ByteArray := prog_10_method_38_code
def yX8_digit : MethodName := ⟨RX8, "digit", "(II)I"⟩
abbrev cX8_readPlain : ByteArray := prog_10_method_39_code
def yX8_readPlain : MethodName := ⟨RX8, "readPlain", "()V"⟩
abbrev cX8_readOrder : ByteArray := prog_10_method_40_code
def yX8_readOrder : MethodName := ⟨RX8, "readOrder", "()V"⟩
abbrev cX8_readAll : ByteArray := prog_10_method_41_code
def yX8_readAll : MethodName := ⟨RX8, "readAll", "()I"⟩
abbrev cX8_errorPosition : ByteArray := prog_10_method_42_code
def yX8_errorPosition : MethodName := ⟨RX8, "errorPosition", "()I"⟩
abbrev cX8_noCell : ByteArray := prog_10_method_43_code
def yX8_noCell : MethodName := ⟨RX8, "noCell", "(I)Z"⟩
abbrev cX8_noColour : ByteArray := prog_10_method_44_code
def yX8_noColour : MethodName := ⟨RX8, "noColour", "(I)Z"⟩
abbrev cX8_planOf : ByteArray := prog_10_method_45_code
def yX8_planOf : MethodName := ⟨RX8, "planOf", "(I)I"⟩
abbrev cX8_loopOf : ByteArray := prog_10_method_46_code
def yX8_loopOf : MethodName := ⟨RX8, "loopOf", "(I)I"⟩
abbrev cX8_heightOf : ByteArray := prog_10_method_47_code
def yX8_heightOf : MethodName := ⟨RX8, "heightOf", "(I)I"⟩
abbrev cX8_isSkipped : ByteArray := prog_10_method_48_code
def yX8_isSkipped : MethodName := ⟨RX8, "isSkipped", "(I)Z"⟩
abbrev cX8_right : ByteArray := prog_10_method_49_code
def yX8_right : MethodName := ⟨RX8, "right", "()I"⟩
abbrev cX8_missing : ByteArray := prog_10_method_50_code
def yX8_missing : MethodName := ⟨RX8, "missing", "()I"⟩
abbrev cX8_wrong : ByteArray := prog_10_method_51_code
def yX8_wrong : MethodName := ⟨RX8, "wrong", "()I"⟩
abbrev cX8_skippedIn : ByteArray := prog_10_method_52_code
def yX8_skippedIn : MethodName := ⟨RX8, "skippedIn", "([I)I"⟩
abbrev cX8_skipped : ByteArray := prog_10_method_53_code
def yX8_skipped : MethodName := ⟨RX8, "skipped", "()I"⟩
abbrev cX8_areas : ByteArray := prog_10_method_54_code
def yX8_areas : MethodName := ⟨RX8, "areas", "(I)I"⟩
abbrev cX8_areasBySpreading : ByteArray := prog_10_method_55_code
def yX8_areasBySpreading : MethodName := ⟨RX8, "areasBySpreading", "(I)I"⟩
abbrev cX8_areasByJoining : ByteArray := prog_10_method_56_code
def yX8_areasByJoining : MethodName := ⟨RX8, "areasByJoining", "(I)I"⟩
abbrev cX8_density : ByteArray := prog_10_method_57_code
def yX8_density : MethodName := ⟨RX8, "density", "()F"⟩
abbrev cX8_meanHeight : ByteArray := prog_10_method_58_code
def yX8_meanHeight : MethodName := ⟨RX8, "meanHeight", "()D"⟩
abbrev cX8_tell : ByteArray := prog_10_method_59_code
def yX8_tell : MethodName := ⟨RX8, "tell", "(I)I"⟩
abbrev cX8_needle : ByteArray := prog_10_method_60_code
def yX8_needle : MethodName := ⟨RX8, "needle", "()I"⟩
abbrev cX8_heading : ByteArray := prog_10_method_61_code
def yX8_heading : MethodName := ⟨RX8, "heading", "()I"⟩
abbrev cX8_threaded : ByteArray := prog_10_method_62_code
def yX8_threaded : MethodName := ⟨RX8, "threaded", "()I"⟩
abbrev cX8_height : ByteArray := prog_10_method_63_code
def yX8_height : MethodName := ⟨RX8, "height", "()I"⟩
abbrev cX8_tension : ByteArray := prog_10_method_64_code
def yX8_tension : MethodName := ⟨RX8, "tension", "()I"⟩
abbrev cX8_canGo : ByteArray := prog_10_method_65_code
def yX8_canGo : MethodName := ⟨RX8, "canGo", "()Z"⟩
abbrev cX8_wouldSkip : ByteArray := prog_10_method_66_code
def yX8_wouldSkip : MethodName := ⟨RX8, "wouldSkip", "()Z"⟩
abbrev cX8_coneOf : ByteArray := prog_10_method_67_code
def yX8_coneOf : MethodName := ⟨RX8, "coneOf", "(I)I"⟩
abbrev cX8_drawnByCone : ByteArray := prog_10_method_68_code
def yX8_drawnByCone : MethodName := ⟨RX8, "drawnByCone", "(I)I"⟩
abbrev cX8_drawnByRug : ByteArray := prog_10_method_69_code
def yX8_drawnByRug : MethodName := ⟨RX8, "drawnByRug", "(I)I"⟩
abbrev cX8_wasteOf : ByteArray := prog_10_method_70_code
def yX8_wasteOf : MethodName := ⟨RX8, "wasteOf", "(I)I"⟩
abbrev cX8_neededFor : ByteArray := prog_10_method_71_code
def yX8_neededFor : MethodName := ⟨RX8, "neededFor", "(I)I"⟩
abbrev cX8_untilKnot : ByteArray := prog_10_method_72_code
def yX8_untilKnot : MethodName := ⟨RX8, "untilKnot", "(I)I"⟩
abbrev cX8_knots : ByteArray := prog_10_method_73_code
def yX8_knots : MethodName := ⟨RX8, "knots", "()I"⟩
abbrev cX8_isMotif : ByteArray := prog_10_method_74_code
def yX8_isMotif : MethodName := ⟨RX8, "isMotif", "(I)Z"⟩
abbrev cX8_motifLength : ByteArray := prog_10_method_75_code
def yX8_motifLength : MethodName := ⟨RX8, "motifLength", "(I)I"⟩
abbrev cX8_motifSign : ByteArray := prog_10_method_76_code
def yX8_motifSign : MethodName := ⟨RX8, "motifSign", "(II)I"⟩
abbrev cX8_setPlan : ByteArray := prog_10_method_77_code
def yX8_setPlan : MethodName := ⟨RX8, "setPlan", "(II)I"⟩
abbrev cX8_fillPlan : ByteArray := prog_10_method_78_code
def yX8_fillPlan : MethodName := ⟨RX8, "fillPlan", "(III)I"⟩
abbrev cX8_thread : ByteArray := prog_10_method_79_code
def yX8_thread : MethodName := ⟨RX8, "thread", "(I)I"⟩
abbrev cX8_cut : ByteArray := prog_10_method_80_code
def yX8_cut : MethodName := ⟨RX8, "cut", "()I"⟩
abbrev cX8_sew : ByteArray := prog_10_method_81_code
def yX8_sew : MethodName := ⟨RX8, "sew", "(I)I"⟩
abbrev cX8_jump : ByteArray := prog_10_method_82_code
def yX8_jump : MethodName := ⟨RX8, "jump", "(I)I"⟩
abbrev cX8_turnLeft : ByteArray := prog_10_method_83_code
def yX8_turnLeft : MethodName := ⟨RX8, "turnLeft", "()I"⟩
abbrev cX8_turnRight : ByteArray := prog_10_method_84_code
def yX8_turnRight : MethodName := ⟨RX8, "turnRight", "()I"⟩
abbrev cX8_ease : ByteArray := prog_10_method_85_code
def yX8_ease : MethodName := ⟨RX8, "ease", "()I"⟩
abbrev cX8_setHeight : ByteArray := prog_10_method_86_code
def yX8_setHeight : MethodName := ⟨RX8, "setHeight", "(I)I"⟩
abbrev cX8_place : ByteArray := prog_10_method_87_code
def yX8_place : MethodName := ⟨RX8, "place", "(II)I"⟩
abbrev cX8_wind : ByteArray := prog_10_method_88_code
def yX8_wind : MethodName := ⟨RX8, "wind", "(II)I"⟩
abbrev cX8_noMending : ByteArray := prog_10_method_89_code
def yX8_noMending : MethodName := ⟨RX8, "noMending", "([II)I"⟩
abbrev cX8_mend : ByteArray := prog_10_method_90_code
def yX8_mend : MethodName := ⟨RX8, "mend", "(I)I"⟩
abbrev cX8_unpick : ByteArray := prog_10_method_91_code
def yX8_unpick : MethodName := ⟨RX8, "unpick", "(I)I"⟩
abbrev cX8_shear : ByteArray := prog_10_method_92_code
def yX8_shear : MethodName := ⟨RX8, "shear", "(I)I"⟩
abbrev cX8_store : ByteArray := prog_10_method_93_code
def yX8_store : MethodName := ⟨RX8, "store", "(I)I"⟩
abbrev cX8_run : ByteArray := prog_10_method_94_code
def yX8_run : MethodName := ⟨RX8, "run", "(I)I"⟩
abbrev cX8_runText : ByteArray := prog_10_method_95_code
def yX8_runText : MethodName := ⟨RX8, "runText", "()I"⟩
abbrev cX8_undo : ByteArray := prog_10_method_96_code
def yX8_undo : MethodName := ⟨RX8, "undo", "()I"⟩
abbrev cX8_whyNoStitch : ByteArray := prog_10_method_97_code
def yX8_whyNoStitch : MethodName := ⟨RX8, "whyNoStitch", "()I"⟩
abbrev cX8_whyNoMending : ByteArray := prog_10_method_98_code
def yX8_whyNoMending : MethodName := ⟨RX8, "whyNoMending", "(I)I"⟩
abbrev cX8_couldSew : ByteArray := prog_10_method_99_code
def yX8_couldSew : MethodName := ⟨RX8, "couldSew", "()I"⟩
abbrev cX8_nearest : ByteArray := prog_10_method_100_code
def yX8_nearest : MethodName := ⟨RX8, "nearest", "(I)I"⟩
abbrev cX8_nearestByRings : ByteArray := prog_10_method_101_code
def yX8_nearestByRings : MethodName := ⟨RX8, "nearestByRings", "(I)I"⟩
abbrev cX8_nearestByCells : ByteArray := prog_10_method_102_code
def yX8_nearestByCells : MethodName := ⟨RX8, "nearestByCells", "(I)I"⟩
abbrev cX8_tried : ByteArray := prog_10_method_103_code
def yX8_tried : MethodName := ⟨RX8, "tried", "()Z"⟩
abbrev cX8_loopsBy : ByteArray := prog_10_method_104_code
def yX8_loopsBy : MethodName := ⟨RX8, "loopsBy", "()I"⟩
abbrev cX8_needleBy : ByteArray := prog_10_method_105_code
def yX8_needleBy : MethodName := ⟨RX8, "needleBy", "()I"⟩
abbrev cX8_yarnBy : ByteArray := prog_10_method_106_code
def yX8_yarnBy : MethodName := ⟨RX8, "yarnBy", "(I)I"⟩
abbrev cX8_stir : ByteArray := prog_10_method_107_code
def yX8_stir : MethodName := ⟨RX8, "stir", "(I)I"⟩
abbrev cX8_simulate : ByteArray := prog_10_method_108_code
def yX8_simulate : MethodName := ⟨RX8, "simulate", "(JI)I"⟩
abbrev cX8_save : ByteArray := prog_10_method_109_code
def yX8_save : MethodName := ⟨RX8, "save", "(I)I"⟩
abbrev cX8_restore : ByteArray := prog_10_method_110_code
def yX8_restore : MethodName := ⟨RX8, "restore", "(I)I"⟩
def RJ9 : String := "java/lang/Math"
def RJ0 : String := "java/lang/String"
def RJ10 : String := "java/lang/System"
def RL : String := "RugPunchLaw"
abbrev cL_append : ByteArray := method_3_code
def yL_append : MethodName := ⟨RL, "append", "(LRugPunch;I[J)I"⟩
abbrev cL_planOf : ByteArray := method_4_code
def yL_planOf : MethodName := ⟨RL, "planOf", "(LRugPunch;I[J)I"⟩
abbrev cL_loopOf : ByteArray := method_5_code
def yL_loopOf : MethodName := ⟨RL, "loopOf", "(LRugPunch;I[J)I"⟩
abbrev cL_heightOf : ByteArray := method_6_code
def yL_heightOf : MethodName := ⟨RL, "heightOf", "(LRugPunch;I[J)I"⟩
abbrev cL_isSkipped : ByteArray := method_7_code
def yL_isSkipped : MethodName := ⟨RL, "isSkipped", "(LRugPunch;I[J)I"⟩
abbrev cL_areasBySpreading : ByteArray := method_8_code
def yL_areasBySpreading : MethodName := ⟨RL, "areasBySpreading", "(LRugPunch;I[J)I"⟩
abbrev cL_areasByJoining : ByteArray := method_9_code
def yL_areasByJoining : MethodName := ⟨RL, "areasByJoining", "(LRugPunch;I[J)I"⟩
abbrev cL_coneOf : ByteArray := method_10_code
def yL_coneOf : MethodName := ⟨RL, "coneOf", "(LRugPunch;I[J)I"⟩
abbrev cL_drawnByCone : ByteArray := method_11_code
def yL_drawnByCone : MethodName := ⟨RL, "drawnByCone", "(LRugPunch;I[J)I"⟩
abbrev cL_drawnByRug : ByteArray := method_12_code
def yL_drawnByRug : MethodName := ⟨RL, "drawnByRug", "(LRugPunch;I[J)I"⟩
abbrev cL_wasteOf : ByteArray := method_13_code
def yL_wasteOf : MethodName := ⟨RL, "wasteOf", "(LRugPunch;I[J)I"⟩
abbrev cL_neededFor : ByteArray := method_14_code
def yL_neededFor : MethodName := ⟨RL, "neededFor", "(LRugPunch;I[J)I"⟩
abbrev cL_untilKnot : ByteArray := method_15_code
def yL_untilKnot : MethodName := ⟨RL, "untilKnot", "(LRugPunch;I[J)I"⟩
abbrev cL_motifLength : ByteArray := method_16_code
def yL_motifLength : MethodName := ⟨RL, "motifLength", "(LRugPunch;I[J)I"⟩
abbrev cL_motifSign : ByteArray := method_17_code
def yL_motifSign : MethodName := ⟨RL, "motifSign", "(LRugPunch;II[J)I"⟩
abbrev cL_setPlan : ByteArray := method_18_code
def yL_setPlan : MethodName := ⟨RL, "setPlan", "(LRugPunch;II[J)I"⟩
abbrev cL_fillPlan : ByteArray := method_19_code
def yL_fillPlan : MethodName := ⟨RL, "fillPlan", "(LRugPunch;III[J)I"⟩
abbrev cL_thread : ByteArray := method_20_code
def yL_thread : MethodName := ⟨RL, "thread", "(LRugPunch;I[J)I"⟩
abbrev cL_cut : ByteArray := method_21_code
def yL_cut : MethodName := ⟨RL, "cut", "(LRugPunch;[J)I"⟩
abbrev cL_sew : ByteArray := method_22_code
def yL_sew : MethodName := ⟨RL, "sew", "(LRugPunch;I[J)I"⟩
abbrev cL_jump : ByteArray := method_23_code
def yL_jump : MethodName := ⟨RL, "jump", "(LRugPunch;I[J)I"⟩
abbrev cL_ease : ByteArray := method_24_code
def yL_ease : MethodName := ⟨RL, "ease", "(LRugPunch;[J)I"⟩
abbrev cL_setHeight : ByteArray := method_25_code
def yL_setHeight : MethodName := ⟨RL, "setHeight", "(LRugPunch;I[J)I"⟩
abbrev cL_place : ByteArray := method_26_code
def yL_place : MethodName := ⟨RL, "place", "(LRugPunch;II[J)I"⟩
abbrev cL_wind : ByteArray := method_27_code
def yL_wind : MethodName := ⟨RL, "wind", "(LRugPunch;II[J)I"⟩
abbrev cL_mend : ByteArray := method_28_code
def yL_mend : MethodName := ⟨RL, "mend", "(LRugPunch;I[J)I"⟩
abbrev cL_unpick : ByteArray := method_29_code
def yL_unpick : MethodName := ⟨RL, "unpick", "(LRugPunch;I[J)I"⟩
abbrev cL_shear : ByteArray := method_30_code
def yL_shear : MethodName := ⟨RL, "shear", "(LRugPunch;I[J)I"⟩
abbrev cL_store : ByteArray := method_31_code
def yL_store : MethodName := ⟨RL, "store", "(LRugPunch;I[J)I"⟩
abbrev cL_run : ByteArray := method_32_code
def yL_run : MethodName := ⟨RL, "run", "(LRugPunch;I[J)I"⟩
abbrev cL_runText : ByteArray := method_33_code
def yL_runText : MethodName := ⟨RL, "runText", "(LRugPunch;[J)I"⟩
abbrev cL_undo : ByteArray := method_34_code
def yL_undo : MethodName := ⟨RL, "undo", "(LRugPunch;[J)I"⟩
abbrev cL_whyNoMending : ByteArray := method_35_code
def yL_whyNoMending : MethodName := ⟨RL, "whyNoMending", "(LRugPunch;I[J)I"⟩
abbrev cL_nearestByRings : ByteArray := method_36_code
def yL_nearestByRings : MethodName := ⟨RL, "nearestByRings", "(LRugPunch;I[J)I"⟩
abbrev cL_nearestByCells : ByteArray := method_37_code
def yL_nearestByCells : MethodName := ⟨RL, "nearestByCells", "(LRugPunch;I[J)I"⟩
abbrev cL_loopsBy : ByteArray := method_38_code
def yL_loopsBy : MethodName := ⟨RL, "loopsBy", "(LRugPunch;[J)I"⟩
abbrev cL_needleBy : ByteArray := method_39_code
def yL_needleBy : MethodName := ⟨RL, "needleBy", "(LRugPunch;[J)I"⟩
abbrev cL_yarnBy : ByteArray := method_40_code
def yL_yarnBy : MethodName := ⟨RL, "yarnBy", "(LRugPunch;I[J)I"⟩
abbrev cL_simulate : ByteArray := method_41_code
def yL_simulate : MethodName := ⟨RL, "simulate", "(LRugPunch;JI[J)I"⟩
abbrev cL_save : ByteArray := method_42_code
def yL_save : MethodName := ⟨RL, "save", "(LRugPunch;I[J)I"⟩
abbrev cL_restore : ByteArray := method_43_code
def yL_restore : MethodName := ⟨RL, "restore", "(LRugPunch;I[J)I"⟩
abbrev cL_law : ByteArray := code
def yL_law : MethodName := ⟨RL, "law", "([I)Z"⟩
abbrev vwCl : List vw_C := [(RX0, TX0, 4), (RX1, TX1, 3), (RX2, TX2, 3), (RX3, TX3, 7), (RX4, TX4, 9), (RX5, TX5, 2), (RX6, TX6, 5), (RX7, TX7, 7), (RX8, TX8, 20)]
end
section
/-! a method: name, code, locals, answer, (frames, locals' words, cells, slots) of its room, handlers -/
abbrev GM : Type := MethodName × ByteArray × Nat × Option FieldType × (Nat × Nat × Nat × Nat) × List (Nat × Nat × Nat × Nat)
abbrev gy (m : GM) : MethodName := m.1
abbrev gc (m : GM) : ByteArray := m.2.1
abbrev gl (m : GM) : Nat := m.2.2.1
abbrev gr (m : GM) : Option FieldType := m.2.2.2.1
abbrev gfr (m : GM) : Nat := m.2.2.2.2.1.1
abbrev glo (m : GM) : Nat := m.2.2.2.2.1.2.1
abbrev gce (m : GM) : Nat := m.2.2.2.2.1.2.2.1
abbrev gsl (m : GM) : Nat := m.2.2.2.2.1.2.2.2
abbrev ghh (m : GM) : List (Nat × Nat × Nat × Nat) := m.2.2.2.2.2
abbrev dc (m : GM) (pc : Nat) (i : Instr) (len : Nat) : Prop := decode (gc m) pc = .ok (i, len)
/-- the words that every method is given -/
def gW : List Cond := lw_tbl.filter goodWord
def gcw (m : GM) : Cond := match ghh m with
  | [] => Cond.code (gy m) (gc m) (gl m) (gr m)
  | h :: t => Cond.codeWith (gy m) (gc m) (gl m) (gr m) (h :: t)
def gws (m : GM) : List Cond := gcw m :: gW
def grm (m : GM) : Room := { frames := gfr m, cells := gce m, slots := gsl m, locals := glo m }
theorem gW_mem {w : Cond} (i : Nat) (h : lw_tbl[i]? = some w) (g : goodWord w = true) : w ∈ gW := List.mem_filter.mpr ⟨List.mem_of_getElem? h, g⟩
theorem gW_good : ∀ w ∈ gW, w ∈ gW ∧ ((w.onTables && w.keeps) = true ∨ ∃ ty, w = .arrayClass ty) := fun w h => ⟨h, good_of_word (List.mem_filter.mp h).2⟩
/-! the heap as a function of addresses -/
abbrev GE : Type := (Nat × vp_A) ⊕ (Nat × List Value)
abbrev Hp : Type := Nat → Option GE
abbrev GR : Type := Option Value ⊕ String
def hpu (M : Hp) (a : Nat) (e : GE) : Hp := fun b => if b = a then some e else M b
theorem hpu_same (M : Hp) (a : Nat) (e : GE) : hpu M a e a = some e := by simp [hpu]
theorem hpu_ne (M : Hp) {a b : Nat} (e : GE) (h : b ≠ a) : hpu M a e b = M b := by simp [hpu, h]
def aI (n : Nat) (f : Nat → Int32) : GE := .inl (0, n, .inl f)
def aC (n : Nat) (f : Nat → Int32) : GE := .inl (1, n, .inl f)
def aZ (n : Nat) (f : Nat → Int32) : GE := .inl (2, n, .inl f)
def aJ (n : Nat) (f : Nat → Int64) : GE := .inl (3, n, .inr (.inl f))
def aR (n : Nat) (f : Nat → Option Nat) : GE := .inl (4, n, .inr (.inr (.inr (.inr f))))
def aS (n : Nat) (f : Nat → Option Nat) : GE := .inl (5, n, .inr (.inr (.inr (.inr f))))
/-- the law's script: only read -/
def aX (n : Nat) (f : Nat → Int32) : GE := .inl (9, n, .inl f)
def oB (ci : Nat) (fs : List Value) : GE := .inr (ci, fs)
def gty : Nat → FieldType := fun k => match k with
  | 0 => .int
  | 1 => .char
  | 2 => .boolean
  | 3 => .long
  | 4 => .object "RugPunch$Rug"
  | 5 => .object "RugPunch$Script"
  | _ => .int
def gro (e : GE) : Bool := match e with
  | .inl q => decide (q.1 = 9)
  | .inr _ => false
def gAt (D : va_G) (dA : Nat → ClassId) (a : Nat) (e : GE) (H : Heap) : Prop := match e with
  | .inl (k, x) => if k = 9 then ∃ (scr : Cell) (f : Nat → Int32), x.2 = .inl f ∧ H[a]? = some scr ∧ scr.cls = dA 9 ∧ scr.vm ≠ .unknown ∧ (∀ k, scr.vm ≠ .statics k) ∧ scr.slots.size = x.1 ∧ ∀ j : Nat, j < x.1 → scr.slots[j]? = some (.int (f j)) else H[a]? = some (vp_cell (dA k) x)
  | .inr o => va_at D vwCl (a, .inr o) H
/-- the heap H holds M; the cells of M that may be written lie from base on -/
def GRep (D : va_G) (dA : Nat → ClassId) (base z : Nat) (M : Hp) (H : Heap) : Prop :=
  H.size = z ∧ ∀ (a : Nat) (e : GE), M a = some e → gAt D dA a e H ∧ (gro e = false → base ≤ a)
theorem gAt.kept {D : va_G} {dA : Nat → ClassId} {a : Nat} {e : GE} {H H1 : Heap} (h : gAt D dA a e H) (hq : H1[a]? = H[a]?) : gAt D dA a e H1 := by
  cases e with
  | inl x =>
    obtain ⟨k, x⟩ := x
    by_cases hk : k = 9
    · simp only [gAt, hk, if_true] at h ⊢
      obtain ⟨scr, f, h0, h1, h2⟩ := h
      exact ⟨scr, f, h0, by rw [hq]; exact h1, h2⟩
    · simp only [gAt, hk, if_false] at h ⊢
      rw [hq]; exact h
  | inr o => exact va_at.kept (q := (a, .inr o)) h hq
theorem gAt.lt {D : va_G} {dA : Nat → ClassId} {a : Nat} {e : GE} {H : Heap} (h : gAt D dA a e H) : a < H.size := by
  cases e with
  | inl x =>
    obtain ⟨k, x⟩ := x
    by_cases hk : k = 9
    · simp only [gAt, hk, if_true] at h
      obtain ⟨scr, f, h0, h1, h2⟩ := h
      exact (Array.getElem?_eq_some_iff.mp h1).1
    · simp only [gAt, hk, if_false] at h
      exact (Array.getElem?_eq_some_iff.mp h).1
  | inr o => exact va_at.lt (q := (a, .inr o)) h
theorem gAt.arr {D : va_G} {dA : Nat → ClassId} {a k : Nat} {x : vp_A} {H : Heap} (hk : k ≠ 9) (h : gAt D dA a (.inl (k, x)) H) : H[a]? = some (vp_cell (dA k) x) := by
  simp only [gAt, hk, if_false] at h; exact h
theorem gAt.mk {D : va_G} {dA : Nat → ClassId} {a k : Nat} {x : vp_A} {H : Heap} (hk : k ≠ 9) (h : H[a]? = some (vp_cell (dA k) x)) : gAt D dA a (.inl (k, x)) H := by
  simp only [gAt, hk, if_false]; exact h
theorem GRep.put {D : va_G} {dA : Nat → ClassId} {base z : Nat} {M : Hp} {H H1 : Heap} {a : Nat} {e0 e : GE} (h : GRep D dA base z M H) (ha : M a = some e0) (hr : gro e0 = false) (he : gAt D dA a e H1) (hz : H1.size = H.size) (oq : ∀ q : Nat, q ≠ a → H1[q]? = H[q]?) : GRep D dA base z (hpu M a e) H1 := by
  refine ⟨hz.trans h.1, fun b e' hb => ?_⟩
  by_cases hba : b = a
  · subst hba
    rw [hpu_same] at hb
    cases hb
    exact ⟨he, fun _ => (h.2 b e0 ha).2 hr⟩
  · rw [hpu_ne M e hba] at hb
    exact ⟨(h.2 b e' hb).1.kept (oq b hba), (h.2 b e' hb).2⟩
theorem GRep.push {D : va_G} {dA : Nat → ClassId} {base z : Nat} {M : Hp} {H H1 : Heap} {e : GE} (h : GRep D dA base z M H) (hb : base ≤ z) (he : gAt D dA z e H1) (hz : H1.size = z + 1) (oq : ∀ q : Nat, q < z → H1[q]? = H[q]?) : GRep D dA base (z + 1) (hpu M z e) H1 := by
  refine ⟨hz, fun b e' hb' => ?_⟩
  by_cases hba : b = z
  · subst hba
    rw [hpu_same] at hb'
    cases hb'
    exact ⟨he, fun _ => hb⟩
  · rw [hpu_ne M e hba] at hb'
    have h1 := (h.2 b e' hb').1
    have hlt : b < z := by rw [← h.1]; exact h1.lt
    exact ⟨h1.kept (oq b hlt), (h.2 b e' hb').2⟩
theorem GRep.grow {D : va_G} {dA : Nat → ClassId} {base z : Nat} {M : Hp} {H H1 : Heap} (h : GRep D dA base z M H) (hz : H.size ≤ H1.size) (oq : ∀ q : Nat, q < H.size → H1[q]? = H[q]?) : GRep D dA base H1.size M H1 :=
  ⟨rfl, fun b e' hb' => ⟨(h.2 b e' hb').1.kept (oq b (h.2 b e' hb').1.lt), (h.2 b e' hb').2⟩⟩
/-! what stays of the tables -/
def gnest : Cond → Bool
  | .fieldLinkNest .. => true
  | .methodLinkNest .. => true
  | _ => false
def gN : List Cond := tables_1.filter gnest
def gS : List (String × Nat × String) := tables_1.filterMap (fun w => match w with
  | .stringRef o k t => some (o, k, t)
  | _ => none)
/-- words on the tables that are no good words, yet stay -/
def gothr : Cond → Bool
  | .castable .. => true
  | .declares .. => true
  | _ => false
def gO : List Cond := tables_1.filter gothr
def gNC : List (String × String) := [("java/lang/IllegalStateException", "java/lang/IllegalArgumentException"), ("java/lang/IndexOutOfBoundsException", "java/lang/IllegalArgumentException"), ("java/lang/IllegalArgumentException", "java/lang/IllegalStateException"), ("java/lang/IndexOutOfBoundsException", "java/lang/IllegalStateException"), ("java/lang/IllegalArgumentException", "java/lang/IndexOutOfBoundsException"), ("java/lang/IllegalStateException", "java/lang/IndexOutOfBoundsException")]
def gtys (dA : Nat → ClassId) : List (ClassId × FieldType) := [(dA 0, .int), (dA 1, .char), (dA 2, .boolean), (dA 3, .long), (dA 4, .object "RugPunch$Rug"), (dA 5, .object "RugPunch$Script")]
def GT (D : va_G) (dA : Nat → ClassId) (U : State) : Prop :=
  va_K D vwCl (gtys dA) U ∧ ArrOfT U (dA 9) .int ∧ (∀ w ∈ gN, va_Nw w U) ∧ (∀ q ∈ gS, ∃ sa, vk_R q.1 q.2.1 q.2.2 sa U) ∧ va_AO "RugPunch$Rug" U ∧ va_AO "RugPunch$Script" U ∧ (∀ w ∈ gO, va_Nw w U) ∧ (∀ q ∈ gNC, va_Nc q.1 q.2 U)
theorem va_Nw.warmD2 {x : MethodName} {s U : State} (hW : s.WarmedH U.vm) (h : va_Nw (.declares x) s) : va_Nw (.declares x) U := by
  have h1 : (Cond.declares x).before #[] (s.setVm U.vm) = true := by
    rw [Cond.declares_setVm hW.alike]
    exact h
  exact va_tabs rfl (rfl : (s.setVm U.vm).vm = U.vm) h1
theorem va_Nw.warmK {a b : String} {s U : State} (hW : s.WarmedH U.vm) (h : va_Nw (.castable a b) s) : va_Nw (.castable a b) U := by
  have hvm := hW.alike
  obtain ⟨c, t, h1, h2, h3⟩ := Cond.castable_spec (show (Cond.castable a b).holds #[] s none s [] = true from h)
  have e1 : U.vm.findClass a = some c := by rw [hvm.findClass]; exact h1
  have e2 : U.vm.findClass b = some t := by rw [hvm.findClass]; exact h2
  have e3 : U.vm.assignable c t = true := by rw [hvm.assignable]; exact h3
  simp [va_Nw, Cond.before, Cond.holds, Cond.value, e1, e2, e3]
theorem va_AO_warm {C : String} {s U : State} (hW : s.WarmedH U.vm) (h : va_AO C s) : va_AO C U := va_AO.moved hW.alike h
theorem GT.warm {D : va_G} {dA : Nat → ClassId} {s U : State} (hW : s.WarmedH U.vm) (h : GT D dA s) : GT D dA U := by
  obtain ⟨h1, h2, h3, h4, h5, h6, h7, h8⟩ := h
  refine ⟨va_K.moved hW.alike h1, arrOfT_moved hW.alike h2, fun w hw => ?_, fun q hq => ?_, va_AO_warm hW h5, va_AO_warm hW h6, fun w hw => ?_, fun q hq => va_Nc.moved hW.alike (h8 q hq)⟩
  · have hg := (List.mem_filter.mp hw).2
    have h := h3 w hw
    cases w <;> first | exact va_Nw.warmF hW h | exact va_Nw.warmM hW h | (exact absurd hg (by simp [gnest]))
  · obtain ⟨sa, h⟩ := h4 q hq
    exact ⟨sa, vk_R.warm hW h⟩
  · have hg := (List.mem_filter.mp hw).2
    have h := h7 w hw
    cases w <;> first | exact va_Nw.warmK hW h | exact va_Nw.warmD2 hW h | (exact absurd hg (by simp [gothr]))
def gA (base : Nat) : Nat → Prop := fun q => base ≤ q
def GS (base : Nat) (U : State) (H : Heap) : Prop := vx_Zq Bundle.tN "UNASSIGNED_STACK" Bundle.steD (gA base) U H ∧ vx_Zq Bundle.tN "SUPPRESSED_SENTINEL" Bundle.listD (gA base) U H
theorem GS.moved {base : Nat} {u U : State} {H : Heap} (hvm : u.vm.Alike U.vm) (h : GS base u H) : GS base U H := ⟨vx_Zq.moved hvm h.1, vx_Zq.moved hvm h.2⟩
theorem GS.kept {base : Nat} {U : State} {H H1 : Heap} (h : GS base U H) (hq : ∀ a : Nat, a < H.size → ¬ gA base a → H1[a]? = H[a]?) : GS base U H1 := ⟨vx_Zq.kept h.1 hq, vx_Zq.kept h.2 hq⟩
end
section
/-! locals -/
def gprs : Nat → List (Option Value) → List (Nat × Value)
  | _, [] => []
  | i, none :: t => gprs (i + 1) t
  | i, some v :: t => (i, v) :: gprs (i + 1) t
theorem gprs_mem : ∀ (L : List (Option Value)) (i j : Nat) (v : Value), (j, v) ∈ gprs i L ↔ ∃ k, j = i + k ∧ L[k]? = some (some v)
  | [], i, j, v => by simp [gprs]
  | none :: t, i, j, v => by
    simp only [gprs]
    rw [gprs_mem t (i + 1) j v]
    constructor
    · rintro ⟨k, h1, h2⟩
      exact ⟨k + 1, by omega, by simpa using h2⟩
    · rintro ⟨k, h1, h2⟩
      cases k with
      | zero => simp at h2
      | succ k => exact ⟨k, by omega, by simpa using h2⟩
  | some w :: t, i, j, v => by
    simp only [gprs, List.mem_cons, Prod.mk.injEq]
    rw [gprs_mem t (i + 1) j v]
    constructor
    · rintro (⟨h1, h2⟩ | ⟨k, h1, h2⟩)
      · exact ⟨0, by omega, by simp [h2]⟩
      · exact ⟨k + 1, by omega, by simpa using h2⟩
    · rintro ⟨k, h1, h2⟩
      cases k with
      | zero => left; simp at h2; exact ⟨by omega, h2.symm⟩
      | succ k => right; exact ⟨k, by omega, by simpa using h2⟩
def LRep (ls : Array Slot) (n : Nat) (L : List (Option Value)) : Prop := L.length = n ∧ lv_has ls n (gprs 0 L)
theorem LRep.get {ls : Array Slot} {n : Nat} {L : List (Option Value)} (h : LRep ls n L) {i : Nat} {v : Value} (hi : L[i]? = some (some v)) : ls[i]? = some (.val v) :=
  h.2.2.2 (i, v) ((gprs_mem L 0 i v).mpr ⟨i, by omega, hi⟩)
/-- no first half of a wide value -/
def gw1 : Option Value → Bool
  | none => true
  | some v => v.category == 1
theorem LRep.set1 {ls ls' : Array Slot} {n i : Nat} {L : List (Option Value)} {v : Value} (h : LRep ls n L) (hp : ∀ a, (i ≠ 0 ∧ L[i - 1]? = some a) → gw1 a = true)
    (h' : lv_has ls' n ((i, v) :: (gprs 0 L).filter (fun q => !(q.1 == i) && !(q.1 + 1 == i && q.2.category == 2)))) : LRep ls' n (L.set i (some v)) := by
  refine ⟨by rw [List.length_set]; exact h.1, h'.1, h'.2.1, fun q hq => ?_⟩
  obtain ⟨j, w⟩ := q
  obtain ⟨k, hk, hw⟩ := (gprs_mem _ 0 j w).mp hq
  have hjk : j = k := by omega
  subst hjk
  refine h'.2.2 (j, w) ?_
  by_cases hji : i = j
  · subst hji
    have hl : i < L.length := by
      have := (List.getElem?_eq_some_iff.mp hw).1
      rwa [List.length_set] at this
    rw [List.getElem?_set_self hl] at hw
    cases hw
    exact List.mem_cons_self
  · rw [List.getElem?_set_ne hji] at hw
    refine List.mem_cons_of_mem _ (List.mem_filter.mpr ⟨(gprs_mem L 0 j w).mpr ⟨j, by omega, hw⟩, ?_⟩)
    have h1 : (j == i) = false := by simpa using Ne.symm hji
    simp only [h1, Bool.not_false, Bool.true_and, Bool.not_eq_true', Bool.and_eq_false_iff]
    by_cases hj1 : j + 1 = i
    · right
      have := hp (some w) ⟨by omega, by rw [show i - 1 = j by omega]; exact hw⟩
      simp only [gw1, beq_iff_eq] at this
      simp [this]
    · left; simpa using hj1
theorem LRep.set2 {ls ls' : Array Slot} {n i : Nat} {L : List (Option Value)} {v : Value} (h : LRep ls n L) (hp : ∀ a, (i ≠ 0 ∧ L[i - 1]? = some a) → gw1 a = true)
    (h' : lv_has ls' n ((i, v) :: (gprs 0 L).filter (fun q => !(q.1 == i) && (!(q.1 == i + 1) && !(q.1 + 1 == i && q.2.category == 2))))) : LRep ls' n ((L.set i (some v)).set (i + 1) none) := by
  refine ⟨by rw [List.length_set, List.length_set]; exact h.1, h'.1, h'.2.1, fun q hq => ?_⟩
  obtain ⟨j, w⟩ := q
  obtain ⟨k, hk, hw⟩ := (gprs_mem _ 0 j w).mp hq
  have hjk : j = k := by omega
  subst hjk
  refine h'.2.2 (j, w) ?_
  by_cases hj2 : i + 1 = j
  · subst hj2
    have hl : i + 1 < (L.set i (some v)).length := by
      have := (List.getElem?_eq_some_iff.mp hw).1
      rwa [List.length_set] at this
    rw [List.getElem?_set_self hl] at hw
    cases hw
  · rw [List.getElem?_set_ne hj2] at hw
    by_cases hji : i = j
    · subst hji
      have hl : i < L.length := by
        have := (List.getElem?_eq_some_iff.mp hw).1
        rwa [List.length_set] at this
      rw [List.getElem?_set_self hl] at hw
      cases hw
      exact List.mem_cons_self
    · rw [List.getElem?_set_ne hji] at hw
      refine List.mem_cons_of_mem _ (List.mem_filter.mpr ⟨(gprs_mem L 0 j w).mpr ⟨j, by omega, hw⟩, ?_⟩)
      have h1 : (j == i) = false := by simpa using Ne.symm hji
      have h2 : (j == i + 1) = false := by simpa using Ne.symm hj2
      simp only [h1, h2, Bool.not_false, Bool.true_and, Bool.not_eq_true', Bool.and_eq_false_iff]
      by_cases hj1 : j + 1 = i
      · right
        have := hp (some w) ⟨by omega, by rw [show i - 1 = j by omega]; exact hw⟩
        simp only [gw1, beq_iff_eq] at this
        simp [this]
      · left; simpa using hj1
/-- less is known -/
def gsub : List (Option Value) → List (Option Value) → Prop
  | [], [] => True
  | a :: t, b :: u => (a = none ∨ a = b) ∧ gsub t u
  | _, _ => False
theorem gsub_len : ∀ (L' L : List (Option Value)), gsub L' L → L'.length = L.length
  | [], [], _ => rfl
  | a :: t, b :: u, h => by simp [gsub_len t u h.2]
  | [], _ :: _, h => h.elim
  | _ :: _, [], h => h.elim
theorem gsub_get : ∀ (L' L : List (Option Value)), gsub L' L → ∀ (i : Nat) (v : Value), L'[i]? = some (some v) → L[i]? = some (some v)
  | [], [], _, i, v, hi => by simp at hi
  | a :: t, b :: u, h, i, v, hi => by
    cases i with
    | zero =>
      simp at hi ⊢
      rcases h.1 with h1 | h1
      · rw [h1] at hi; cases hi
      · rw [← h1]; exact hi
    | succ i => simp at hi ⊢; exact gsub_get t u h.2 i v hi
  | [], _ :: _, h, _, _, _ => h.elim
  | _ :: _, [], h, _, _, _ => h.elim
theorem LRep.weak {ls : Array Slot} {n : Nat} {L L' : List (Option Value)} (h : LRep ls n L) (hs : gsub L' L) : LRep ls n L' := by
  refine ⟨by rw [gsub_len L' L hs]; exact h.1, h.2.1, h.2.2.1, fun q hq => ?_⟩
  obtain ⟨j, w⟩ := q
  obtain ⟨k, hk, hw⟩ := (gprs_mem _ 0 j w).mp hq
  have hjk : j = k := by omega
  subst hjk
  exact h.get (gsub_get L' L hs j w hw)
def gLs : List Value → List (Option Value)
  | [] => []
  | v :: t => if v.category = 2 then some v :: none :: gLs t else some v :: gLs t
theorem gLs_args : ∀ (vs : List Value) (i : Nat) (L : List (Option Value)), L = gLs vs → gprs i L = lv_args i vs
  | [], i, _, rfl => rfl
  | v :: t, i, _, rfl => by
    by_cases hc : v.category = 2
    · simp only [gLs, hc, if_true, gprs, lv_args]
      rw [gLs_args t (i + 1 + 1) _ rfl]
    · simp only [gLs, hc, if_false, gprs, lv_args]
      rw [gLs_args t (i + 1) _ rfl]
theorem gLs_len (vs : List Value) : (gLs vs).length = (lg_sl vs).length := by
  induction vs with
  | nil => rfl
  | cons v t ih =>
    by_cases hc : v.category = 2
    · simp only [gLs, hc, if_true, List.length_cons, ih]
      simp [lg_sl, hc]
    · simp only [gLs, hc, if_false, List.length_cons, ih]
      simp [lg_sl, hc]
theorem gprs_app : ∀ (L : List (Option Value)) (i n : Nat), gprs i (L ++ List.replicate n none) = gprs i L
  | [], i, 0 => rfl
  | [], i, n + 1 => by
    simp only [List.nil_append, List.replicate_succ, gprs]
    have := gprs_app [] (i + 1) n
    simpa [gprs] using this
  | none :: t, i, n => by simp only [List.cons_append, gprs]; exact gprs_app t (i + 1) n
  | some v :: t, i, n => by simp only [List.cons_append, gprs]; rw [gprs_app t (i + 1) n]
/-- the locals of an entry -/
def gL0 (vs : List Value) (n : Nat) : List (Option Value) := gLs vs ++ List.replicate (n - (gLs vs).length) none
theorem LRep.entry (vs : List Value) {n : Nat} (h : (gLs vs).length ≤ n) : LRep ((lg_sl vs ++ List.replicate (n - (lg_sl vs).length) Slot.unset).toArray) n (gL0 vs n) := by
  refine ⟨by simp [gL0]; omega, ?_⟩
  have h1 := lv_entry vs (n := n) (by rw [← gLs_len]; exact h)
  rw [show gprs 0 (gL0 vs n) = lv_args 0 vs from by rw [gL0, gprs_app, gLs_args vs 0 _ rfl]]
  exact h1
end
section
/-! contracts and the walk's judgement -/
def gPre (D : va_G) (dA : Nat → ClassId) (base z : Nat) (M : Hp) (U : State) : Prop := GT D dA U ∧ GS base U U.heap ∧ base ≤ U.heap.size ∧ GRep D dA base z M U.heap
def gQ (Φ : GR → Hp → Nat → Prop) (D : va_G) (dA : Nat → ClassId) (base : Nat) : Array Value → State → Outcome → State → Prop := fun _ st o t => (∃ (r : Option Value) (M : Hp) (z : Nat), o = .returned r ∧ Φ (.inl r) M z ∧ GRep D dA base z M t.heap) ∧ va_F (gA base) st t
def gX (Φ : GR → Hp → Nat → Prop) (D : va_G) (dA : Nat → ClassId) (base : Nat) : String → State → State → Prop := fun E st t => (∃ (M : Hp) (z : Nat), Φ (.inr E) M z ∧ GRep D dA base z M t.heap) ∧ va_F (gA base) st t
/-- the method m, called with these arguments where the heap is M of z cells, ends with Φ -/
def Runs (m : GM) (as : List Value) (M : Hp) (z : Nat) (Φ : GR → Hp → Nat → Prop) : Prop :=
  ∀ (l : Launch), l.stackTraces = false → ∀ (D : va_G) (dA : Nat → ClassId) (base : Nat), vx_Met l (gy m) (gws m) (grm m) (va_Pc as (gPre D dA base z M)) (gQ Φ D dA base) (gX Φ D dA base) (gce m) (gsl m) (gA base)
def gtab (h : List (Nat × Nat × Nat × Nat)) (c : Code) : Prop := match h with
  | [] => ∀ x ∈ c.exceptionTable.toList, False
  | h => c.exceptionTable.toList = tableOf h
def GC (m : GM) (D : va_G) (dA : Nat → ClassId) (base : Nat) (p : Program) (l : Launch) (s : State) (mid : MethodId) (args : Array Value) (meth : Method) (c : Code) : Prop :=
  p.tables.exec = Jvm.exec ∧ c.code = gc m ∧ c.maxLocals = gl m ∧ s.vm.findClass (gy m).cls = some mid.cls ∧ (∀ w ∈ gW, w.before args s = true) ∧ meth.locks = false ∧ l.stackTraces = false ∧ meth.name = (gy m).name ∧ meth.sig.returnType = gr m ∧
  GT D dA s ∧ GS base s s.heap ∧ base ≤ s.heap.size ∧ gtab (ghh m) c
def WP (m : GM) (pc : Nat) (L : List (Option Value)) (st : List Value) (M : Hp) (z k n : Nat) (Φ : GR → Hp → Nat → Prop) : Prop :=
  ∀ (D : va_G) (dA : Nat → ClassId) (base : Nat) (p : Program) (l : Launch) (e : Env) (s : State) (mid : MethodId) (args : Array Value) (below : List Frame) (meth : Method) (c : Code), GC m D dA base p l s mid args meth c →
    ∀ (H : Heap) (locs : List Loc) (ls : Array Slot), GRep D dA base z M H → va_S (gA base) s.heap H locs → LRep ls (gl m) L →
      W p l e (grm m) s mid args below meth c H locs k n (vx_MQ below (gQ Φ D dA base) (gX Φ D dA base) args s (gce m) (gsl m) (gA base)) (F0 mid pc ls st)
/-- E has been thrown at pc -/
def WX (m : GM) (pc : Nat) (L : List (Option Value)) (rest : List Value) (M : Hp) (z k n : Nat) (E : String) (Φ : GR → Hp → Nat → Prop) : Prop :=
  ∀ (D : va_G) (dA : Nat → ClassId) (base : Nat) (p : Program) (l : Launch) (e : Env) (s : State) (mid : MethodId) (args : Array Value) (below : List Frame) (meth : Method) (c : Code), GC m D dA base p l s mid args meth c →
    ∀ (H : Heap) (locs : List Loc) (ls : Array Slot) (q : Addr) (ce : Cell), GRep D dA base z M H → va_S (gA base) s.heap H locs → LRep ls (gl m) L → H[q]? = some ce → ce.vm = .none → s.vm.findClass E = some ce.cls →
      vx_W p l e (grm m) s mid args below meth c H locs k n (vx_MQ below (gQ Φ D dA base) (gX Φ D dA base) args s (gce m) (gsl m) (gA base)) (F0 mid pc ls rest) q
theorem gPre_blind (D : va_G) (dA : Nat → ClassId) (base z : Nat) (M : Hp) (as : List Value) : FrameBlind (va_Pc as (gPre D dA base z M)) := by
  intro a U g mk h
  obtain ⟨h0, h1, h2, h3, h4⟩ := h
  refine ⟨h0, GT.warm (s := U) (U := U.calling g mk a) ?_ h1, GS.moved (u := U) (U := U.calling g mk a) (Vm.Alike.refl U.vm) h2, h3, h4⟩
  exact State.WarmedH.refl U
theorem runs_of {m : GM} {as : List Value} {M : Hp} {z : Nat} {Φ : GR → Hp → Nat → Prop} (hpl : plainName (gy m).cls = true) (hh : ghh m = []) (hlen : (gLs as).length ≤ gl m)
    (h : WP m 0 (gL0 as (gl m)) [] M z 0 0 Φ) : Runs m as M z Φ := by
  intro l hl D dA base
  have hcw : gcw m = Cond.code (gy m) (gc m) (gl m) (gr m) := by simp only [gcw, hh]
  refine vx_ofW (ws' := gW) (cc := gc m) (maxL := gl m) (ret := gr m) hpl (by rw [gws, hcw]) ?_
  intro p e s mid args below meth c s₁ B hml ht hv
  obtain ⟨rfl, h1, h2, h3, h4⟩ := hv
  have hts := atoms_spec (ws := gws m) B.pre
  have C : GC m D dA base p l s mid as.toArray meth c := ⟨B.exec, B.bytes, hml, findClass_of_methodNamed B.named, fun w hw => hts w (List.mem_cons_of_mem _ hw), B.notSynchronized, hl, (name_of_methodNamed B.named B.method).1, B.returns, h1, h2, h3, by rw [hh]; exact ht⟩
  have h5 := h D dA base p l e s mid as.toArray below meth c C s.heap [] _ h4 va_S.rf (LRep.entry as hlen)
  rw [lg_entry_eq]
  exact h5
theorem runs_ofH {m : GM} {as : List Value} {M : Hp} {z : Nat} {Φ : GR → Hp → Nat → Prop} (hpl : plainName (gy m).cls = true) (hh : ghh m ≠ []) (hlen : (gLs as).length ≤ gl m)
    (h : WP m 0 (gL0 as (gl m)) [] M z 0 0 Φ) : Runs m as M z Φ := by
  intro l hl D dA base
  obtain ⟨x, t, hxt⟩ := List.exists_cons_of_ne_nil hh
  have hcw : gcw m = Cond.codeWith (gy m) (gc m) (gl m) (gr m) (ghh m) := by simp only [gcw, hxt]
  refine vx_ofWH (ws' := gW) (cc := gc m) (maxL := gl m) (ret := gr m) (hh := ghh m) hpl (by rw [gws, hcw]) ?_
  intro p e s mid args below meth c s₁ B hml hv
  obtain ⟨rfl, h1, h2, h3, h4⟩ := hv
  have hts := atoms_spec (ws := gws m) B.pre
  have ht := vx_table (x := gy m) B (by rw [← hcw]; exact hts (gcw m) List.mem_cons_self)
  have C : GC m D dA base p l s mid as.toArray meth c := ⟨B.exec, B.bytes, hml, findClass_of_methodNamed B.named, fun w hw => hts w (List.mem_cons_of_mem _ hw), B.notSynchronized, hl, (name_of_methodNamed B.named B.method).1, B.returns, h1, h2, h3, by rw [hxt] at ht ⊢; exact ht⟩
  have h5 := h D dA base p l e s mid as.toArray below meth c C s.heap [] _ h4 va_S.rf (LRep.entry as hlen)
  rw [lg_entry_eq]
  exact h5
/-! calls -/
def gML (m : GM) (idx : Nat) (y : MethodName) : Prop := Cond.methodLink (gy m).cls idx y ∈ gW ∨ ∃ host, Cond.methodLinkNest (gy m).cls idx y host ∈ gN
def gCal (m : GM) (n : Nat) : Prop := gcw m ∈ gW ∧ Cond.initialized (gy m).cls ∈ gW ∧ ((gy m).cls ≠ "java/lang/invoke/MethodHandle" ∧ (gy m).cls ≠ "java/lang/invoke/VarHandle") ∧ (parseMethodDescriptor (gy m).desc).map (fun d => d.parameters.length) = some n
def gIn (m : GM) : Prop := Cond.instanceMethod (gy m) ∈ gW ∧ Cond.selects (gy m).cls (gy m) (gy m) ∈ gW
def gBud (m m' : GM) : Bool := decide (gfr m' + 1 ≤ gfr m) && decide (8 + (gl m' + 11) + glo m' ≤ glo m)
theorem gBud_ok {m m' : GM} (h : gBud m m' = true) : gfr m' + 1 ≤ gfr m ∧ 8 + (gl m' + 11) + glo m' ≤ glo m := by
  simp only [gBud, Bool.and_eq_true, decide_eq_true_eq] at h; exact h
theorem gws_in {m : GM} (h : gcw m ∈ gW) : GoodIn gW (gws m) := fun w hw => gW_good w ((List.mem_cons.mp hw).elim (fun e => e ▸ h) id)
theorem gparse {y : MethodName} {n : Nat} (h : (parseMethodDescriptor y.desc).map (fun d => d.parameters.length) = some n) : ∀ sig, parseMethodDescriptor y.desc = some sig → n = sig.parameters.length := fun sig hs => by
  rw [hs] at h; exact (Option.some.inj h).symm
section GRUN
variable {m m' : GM} {D : va_G} {dA : Nat → ClassId} {base z : Nat} {M : Hp} {p : Program} {l : Launch} {e : Env} {s : State} {mid : MethodId} {args : Array Value} {below : List Frame} {meth : Method} {c : Code} {H : Heap} {locs : List Loc} {k n : Nat} {Ψ : GR → Hp → Nat → Prop} {as rest st : List Value} {pc idx : Nat} {ls : Array Slot}
/-- what a caller gives -/
theorem gPre_at (C : GC m D dA base p l s mid args meth c) (hR : GRep D dA base z M H) (hS : va_S (gA base) s.heap H locs) : ∀ U : State, U.heap = H → s.WarmedH U.vm → (va_Pc as (gPre D dA base z M)) as.toArray U := by
  intro U hU hW
  obtain ⟨-, -, -, -, -, -, -, -, -, hT, hG, hb, -⟩ := C
  refine ⟨rfl, hT.warm hW, ?_, ?_, by rw [hU]; exact hR⟩
  · rw [hU]
    exact (hG.kept hS.2.1).moved hW.alike
  · rw [hU]
    exact Nat.le_trans hb hS.1
theorem g_runS (C : GC m D dA base p l s mid args meth c) (hR : GRep D dA base z M H) (hS : va_S (gA base) s.heap H locs) (hsz : ls.size = gl m) (hM : Runs m' as M z Ψ) (cal : gCal m' as.length) (hh : ghh m' = []) (stc : Cond.static (gy m') ∈ gW) (lk : gML m idx (gy m')) (bud : gBud m m' = true)
    (hst : st = as.reverse ++ rest) (hcat : (rest.map fun v => v.category).sum ≤ 8) (hk : k + gce m' ≤ gce m) (hn : n + gsl m' ≤ gsl m) (d : dc m pc (.invokestatic idx) 3) :
    vx_Run p l e (grm m) s mid args below meth c H locs k n (gce m') (gsl m') (F0 mid pc ls st) rest (gQ Ψ D dA base as.toArray) (gX Ψ D dA base) (gA base) := by
  have C' := C
  obtain ⟨hx, hb, hml, hown, hts, hlocks, hl, hname, hr, hT, hG, hbase, htab⟩ := C'
  obtain ⟨c1, c2, c3, c4⟩ := cal
  have hcw : gcw m' = Cond.code (gy m') (gc m') (gl m') (gr m') := by simp only [gcw, hh]
  have hB := gBud_ok bud
  have hM' : vx_Met l (gy m') (gws m') (grm m') (va_Pc as (gPre D dA base z M)) (gQ Ψ D dA base) (gX Ψ D dA base) (gce m') (gsl m') (gA base) := hM l hl D dA base
  have hp : PreS s H (va_Pc as (gPre D dA base z M)) as := ⟨gPre_blind D dA base z M as, gPre_at C hR hS⟩
  have ecode : Cond.code (gy m') (gc m') (gl m') (gr m') ∈ gws m' := by rw [gws, hcw]; exact List.mem_cons_self
  rcases lk with lk | ⟨host, lk⟩
  · exact vx_runS (ws := gws m') (rm := grm m') (bytes := gc m') (maxL := gl m') (ret := gr m') (Ts := gW) (own := (gy m).cls) ⟨hx, hb, hml, hown, hts⟩ hM' ⟨callB_of (ws' := gW) as.length hts (gws_in c1) (by rw [gws, hcw]) rfl rfl (hts _ c2) (hts _ lk) ⟨c3.1, c3.2, c4⟩ hB, hts _ stc⟩ hp rfl rfl hsz hst (lv_room hcat) d ⟨hk, hn⟩
  · have hnw : va_Nw (.methodLinkNest (gy m).cls idx (gy m') host) s := hT.2.2.1 _ lk
    exact vx_runSN (ws := gws m') (rm := grm m') (bytes := gc m') (maxL := gl m') (ret := gr m') (Ts := gW) (own := (gy m).cls) (host := host) ⟨hx, hb, hml, hown, hts⟩ hM' ⟨va_cnB (ws' := gW) as.length hts (gws_in c1) (by rw [gws, hcw]) rfl rfl hnw (hts _ c2) ⟨c3.1, c3.2, c4⟩ hB, hts _ stc, trivial⟩ hp rfl rfl hsz hst (lv_room hcat) d ⟨hk, hn⟩
theorem g_runI {a : Nat} (C : GC m D dA base p l s mid args meth c) (hR : GRep D dA base z M H) (hS : va_S (gA base) s.heap H locs) (hsz : ls.size = gl m) (hM : Runs m' (.ref a :: as) M z Ψ) (cal : gCal m' as.length) (hh : ghh m' = []) (hret : gr m' = none) (hnm : (gy m').name = "<init>") (ins : Cond.instanceMethod (gy m') ∈ gW) (lk : gML m idx (gy m')) (bud : gBud m m' = true)
    (hst : st = as.reverse ++ .ref a :: rest) (hcat : (rest.map fun v => v.category).sum ≤ 8) (hk : k + gce m' ≤ gce m) (hn : n + gsl m' ≤ gsl m) (d : dc m pc (.invokespecial idx) 3) :
    vx_Run p l e (grm m) s mid args below meth c H locs k n (gce m') (gsl m') (F0 mid pc ls st) rest (gQ Ψ D dA base (Value.ref a :: as).toArray) (gX Ψ D dA base) (gA base) := by
  have C' := C
  obtain ⟨hx, hb, hml, hown, hts, hlocks, hl, hname, hr, hT, hG, hbase, htab⟩ := C'
  obtain ⟨c1, c2, c3, c4⟩ := cal
  have hcw : gcw m' = Cond.code (gy m') (gc m') (gl m') none := by simp only [gcw, hh, hret]
  have hB := gBud_ok bud
  have hM' : vx_Met l (gy m') (gws m') (grm m') (va_Pc (.ref a :: as) (gPre D dA base z M)) (gQ Ψ D dA base) (gX Ψ D dA base) (gce m') (gsl m') (gA base) := hM l hl D dA base
  have hp : PreS s H (va_Pc (.ref a :: as) (gPre D dA base z M)) (.ref a :: as) := ⟨gPre_blind D dA base z M _, gPre_at C hR hS⟩
  rcases lk with lk | ⟨host, lk⟩
  · exact vx_runI (ws := gws m') (rm := grm m') (bytes := gc m') (maxL := gl m') (Ts := gW) (own := (gy m).cls) ⟨hx, hb, hml, hown, hts⟩ hM' ⟨callB_of (ws' := gW) as.length hts (gws_in c1) (by rw [gws, hcw]) rfl rfl (hts _ c2) (hts _ lk) ⟨c3.1, c3.2, c4⟩ hB, hnm, hts _ ins⟩ hp rfl rfl hsz hst (lv_room hcat) d ⟨hk, hn⟩
  · have hnw : va_Nw (.methodLinkNest (gy m).cls idx (gy m') host) s := hT.2.2.1 _ lk
    exact vx_runIN (ws := gws m') (rm := grm m') (bytes := gc m') (maxL := gl m') (Ts := gW) (own := (gy m).cls) (host := host) ⟨hx, hb, hml, hown, hts⟩ hM' ⟨va_cnB (ws' := gW) as.length hts (gws_in c1) (by rw [gws, hcw]) rfl rfl hnw (hts _ c2) ⟨c3.1, c3.2, c4⟩ hB, hnm, hts _ ins⟩ hp rfl rfl hsz hst (lv_room hcat) d ⟨hk, hn⟩
theorem g_runV {a ci : Nat} {fs : List Value} {r : vw_C} (C : GC m D dA base p l s mid args meth c) (hR : GRep D dA base z M H) (hS : va_S (gA base) s.heap H locs) (hsz : ls.size = gl m) (hM : Runs m' (.ref a :: as) M z Ψ) (cal : gCal m' as.length) (hh : ghh m' = []) (ins : gIn m') (lk : Cond.methodLink (gy m).cls idx (gy m') ∈ gW) (bud : gBud m m' = true)
    (ho : M a = some (.inr (ci, fs))) (hc : vwCl[ci]? = some r) (hrc : r.1 = (gy m').cls)
    (hst : st = as.reverse ++ .ref a :: rest) (hcat : (rest.map fun v => v.category).sum ≤ 8) (hk : k + gce m' ≤ gce m) (hn : n + gsl m' ≤ gsl m) (d : dc m pc (.invokevirtual idx) 3) :
    vx_Run p l e (grm m) s mid args below meth c H locs k n (gce m') (gsl m') (F0 mid pc ls st) rest (gQ Ψ D dA base (Value.ref a :: as).toArray) (gX Ψ D dA base) (gA base) := by
  have C' := C
  obtain ⟨hx, hb, hml, hown, hts, hlocks, hl, hname, hr, hT, hG, hbase, htab⟩ := C'
  obtain ⟨c1, c2, c3, c4⟩ := cal
  have hcw : gcw m' = Cond.code (gy m') (gc m') (gl m') (gr m') := by simp only [gcw, hh]
  have hB := gBud_ok bud
  have hM' : vx_Met l (gy m') (gws m') (grm m') (va_Pc (.ref a :: as) (gPre D dA base z M)) (gQ Ψ D dA base) (gX Ψ D dA base) (gce m') (gsl m') (gA base) := hM l hl D dA base
  have hrecv : ∃ cellB : Cell, H[a]? = some cellB ∧ cellB.vm.isStatics = false ∧ s.vm.findClass (gy m').cls = some cellB.cls := by
    obtain ⟨r', h1, cell, g1, g2, g3, -⟩ := (hR.2 a _ ho).1
    have hr' : r' = r := Option.some.inj (h1.symm.trans hc)
    subst hr'
    refine ⟨cell, g1, by rw [g3]; rfl, ?_⟩
    rw [← hrc, g2]
    exact (hT.1.1 ci r' hc).2.1
  have hp : PreV s H (gy m').cls a (va_Pc (.ref a :: as) (gPre D dA base z M)) as := ⟨gPre_blind D dA base z M _, hrecv, gPre_at C hR hS⟩
  exact vx_runV (ws := gws m') (rm := grm m') (bytes := gc m') (maxL := gl m') (ret := gr m') (Ts := gW) (own := (gy m).cls) (C := (gy m').cls) ⟨hx, hb, hml, hown, hts⟩ hM' ⟨callB_of (ws' := gW) as.length hts (gws_in c1) (by rw [gws, hcw]) rfl rfl (hts _ c2) (hts _ lk) ⟨c3.1, c3.2, c4⟩ hB, hts _ ins.1, hts _ ins.2⟩ hp rfl rfl hsz hst (lv_room hcat) d ⟨hk, hn⟩
/-- the walk goes on behind a call -/
theorem g_call {Φ : GR → Hp → Nat → Prop} {L : List (Option Value)} (C : GC m D dA base p l s mid args meth c) (hS : va_S (gA base) s.heap H locs) (hL : LRep ls (gl m) L) {a : Array Value}
    (hr : vx_Run p l e (grm m) s mid args below meth c H locs k n (gce m') (gsl m') (F0 mid pc ls st) rest (gQ Ψ D dA base a) (gX Ψ D dA base) (gA base))
    (kk : ∀ r M' z', Ψ (.inl r) M' z' → WP m (pc + 3) L (r.toList ++ rest) M' z' (k + gce m') (n + gsl m') Φ)
    (kx : ∀ E M' z', Ψ (.inr E) M' z' → WX m pc L rest M' z' (k + gce m') (n + gsl m') E Φ) :
    W p l e (grm m) s mid args below meth c H locs k n (vx_MQ below (gQ Φ D dA base) (gX Φ D dA base) args s (gce m) (gsl m) (gA base)) (F0 mid pc ls st) := by
  intro T hT X
  rcases hr T hT X with ⟨v, st₀, t, T', Ls, h0, X', hLs, e1, e2, ⟨⟨r, M', z', hv, hp, hb⟩, hF⟩, hst⟩ | ⟨q, st₀, t, T', Ls, E, ce, h0, X', hLs, e1, e2, ⟨⟨M', z', hp, hb⟩, hF⟩, hce, hcv, hcl, hst⟩
  · cases hv
    obtain ⟨k1, k2, k3⟩ := vx_keep h0 e1 hS (fun _ _ h => h) (fun _ h => h) hLs hF
    obtain ⟨t2, a1, b1⟩ := kk v M' z' hp D dA base p l e s mid args below meth c C T'.heap (locs ++ Ls) ls (by rw [e1]; exact hb) k3 hL T' rfl X'
    exact ⟨t2, hst t2 a1, b1⟩
  · obtain ⟨k1, k2, k3⟩ := vx_keep h0 e1 hS (fun _ _ h => h) (fun _ h => h) hLs hF
    obtain ⟨t2, a1, b1⟩ := kx E M' z' hp D dA base p l e s mid args below meth c C T'.heap (locs ++ Ls) ls q ce (by rw [e1]; exact hb) k3 hL (by rw [e1]; exact hce) hcv hcl T' rfl X'
    exact ⟨t2, hst.trans a1, b1⟩
end GRUN
end
section
section ROWS
variable {m : GM} {pc z k n tgt : Nat} {L T : List (Option Value)} {rest : List Value} {M : Hp} {Φ : GR → Hp → Nat → Prop} {x y v : Int32} {xl yl vl : Int64} {a b : Nat} {off : Int} {va vb : Value}
theorem g_iconst {i : Int} (d : dc m pc (.iconst i) 1) (hv : Int32.ofInt i = v) (h : WP m (pc + 1) L (.int v :: rest) M z k n Φ) : WP m pc L rest M z k n Φ := by
  intro D dA base p l e s mid args below meth c C H locs ls hR hS hL
  exact lv_iconst C.1 C.2.1 d hv (h D dA base p l e s mid args below meth c C H locs ls hR hS hL)
theorem g_bipush {i : Int} (d : dc m pc (.bipush i) 2) (hv : (Int8.ofInt i).toInt32 = v) (h : WP m (pc + 2) L (.int v :: rest) M z k n Φ) : WP m pc L rest M z k n Φ := by
  intro D dA base p l e s mid args below meth c C H locs ls hR hS hL
  exact lv_bipush C.1 C.2.1 d hv (h D dA base p l e s mid args below meth c C H locs ls hR hS hL)
theorem g_sipush {i : Int} (d : dc m pc (.sipush i) 3) (hv : (Int16.ofInt i).toInt32 = v) (h : WP m (pc + 3) L (.int v :: rest) M z k n Φ) : WP m pc L rest M z k n Φ := by
  intro D dA base p l e s mid args below meth c C H locs ls hR hS hL
  exact lv_sipush C.1 C.2.1 d hv (h D dA base p l e s mid args below meth c C H locs ls hR hS hL)
theorem g_lconst {i : Fin 2} (d : dc m pc (.lconst i) 1) (hv : Int64.ofNat (i : Nat) = vl) (h : WP m (pc + 1) L (.long vl :: rest) M z k n Φ) : WP m pc L rest M z k n Φ := by
  intro D dA base p l e s mid args below meth c C H locs ls hR hS hL
  exact lv_lconst C.1 C.2.1 d hv (h D dA base p l e s mid args below meth c C H locs ls hR hS hL)
theorem g_ldc {i : Nat} (d : dc m pc (.ldc i) 2) (hw : Cond.constant (gy m).cls i v ∈ gW) (h : WP m (pc + 2) L (.int v :: rest) M z k n Φ) : WP m pc L rest M z k n Φ := by
  intro D dA base p l e s mid args below meth c C H locs ls hR hS hL
  exact lv_ldc C.1 C.2.1 C.2.2.2.1 (C.2.2.2.2.1 _ hw) d (h D dA base p l e s mid args below meth c C H locs ls hR hS hL)
theorem g_ldcf {i : Nat} {w : UInt32} (d : dc m pc (.ldc i) 2) (hw : Cond.constantFloat (gy m).cls i w ∈ gW) (h : WP m (pc + 2) L (.float w :: rest) M z k n Φ) : WP m pc L rest M z k n Φ := by
  intro D dA base p l e s mid args below meth c C H locs ls hR hS hL
  exact lv_ldcf C.1 C.2.1 C.2.2.2.1 (C.2.2.2.2.1 _ hw) d (h D dA base p l e s mid args below meth c C H locs ls hR hS hL)
theorem g_ldc2 {i : Nat} (d : dc m pc (.ldc2_w i) 3) (hw : Cond.constantLong (gy m).cls i vl ∈ gW) (h : WP m (pc + 3) L (.long vl :: rest) M z k n Φ) : WP m pc L rest M z k n Φ := by
  intro D dA base p l e s mid args below meth c C H locs ls hR hS hL
  exact lv_ldc2 C.1 C.2.1 C.2.2.2.1 (C.2.2.2.2.1 _ hw) d (h D dA base p l e s mid args below meth c C H locs ls hR hS hL)
theorem g_null (d : dc m pc .aconst_null 1) (h : WP m (pc + 1) L (.null :: rest) M z k n Φ) : WP m pc L rest M z k n Φ := by
  intro D dA base p l e s mid args below meth c C H locs ls hR hS hL
  exact lv_null C.1 C.2.1 d (h D dA base p l e s mid args below meth c C H locs ls hR hS hL)
theorem g_dconst0 (d : dc m pc (.dconst 0) 1) (h : WP m (pc + 1) L (.double 0 :: rest) M z k n Φ) : WP m pc L rest M z k n Φ := by
  intro D dA base p l e s mid args below meth c C H locs ls hR hS hL
  exact lv_dconst0 C.1 C.2.1 d (h D dA base p l e s mid args below meth c C H locs ls hR hS hL)
theorem g_iadd (d : dc m pc .iadd 1) (h : WP m (pc + 1) L (.int (x + y) :: rest) M z k n Φ) : WP m pc L (.int y :: .int x :: rest) M z k n Φ := by
  intro D dA base p l e s mid args below meth c C H locs ls hR hS hL
  exact lv_iadd C.1 C.2.1 d (h D dA base p l e s mid args below meth c C H locs ls hR hS hL)
theorem g_isub (d : dc m pc .isub 1) (h : WP m (pc + 1) L (.int (x - y) :: rest) M z k n Φ) : WP m pc L (.int y :: .int x :: rest) M z k n Φ := by
  intro D dA base p l e s mid args below meth c C H locs ls hR hS hL
  exact lv_isub C.1 C.2.1 d (h D dA base p l e s mid args below meth c C H locs ls hR hS hL)
theorem g_imul (d : dc m pc .imul 1) (h : WP m (pc + 1) L (.int (x * y) :: rest) M z k n Φ) : WP m pc L (.int y :: .int x :: rest) M z k n Φ := by
  intro D dA base p l e s mid args below meth c C H locs ls hR hS hL
  exact lv_imul C.1 C.2.1 d (h D dA base p l e s mid args below meth c C H locs ls hR hS hL)
theorem g_iand (d : dc m pc .iand 1) (h : WP m (pc + 1) L (.int (x &&& y) :: rest) M z k n Φ) : WP m pc L (.int y :: .int x :: rest) M z k n Φ := by
  intro D dA base p l e s mid args below meth c C H locs ls hR hS hL
  exact lv_iand C.1 C.2.1 d (h D dA base p l e s mid args below meth c C H locs ls hR hS hL)
theorem g_ior (d : dc m pc .ior 1) (h : WP m (pc + 1) L (.int (x ||| y) :: rest) M z k n Φ) : WP m pc L (.int y :: .int x :: rest) M z k n Φ := by
  intro D dA base p l e s mid args below meth c C H locs ls hR hS hL
  exact lv_ior C.1 C.2.1 d (h D dA base p l e s mid args below meth c C H locs ls hR hS hL)
theorem g_ixor (d : dc m pc .ixor 1) (h : WP m (pc + 1) L (.int (x ^^^ y) :: rest) M z k n Φ) : WP m pc L (.int y :: .int x :: rest) M z k n Φ := by
  intro D dA base p l e s mid args below meth c C H locs ls hR hS hL
  exact lv_ixor C.1 C.2.1 d (h D dA base p l e s mid args below meth c C H locs ls hR hS hL)
theorem g_idiv (d : dc m pc .idiv 1) (hne : ¬ y = 0) (h : WP m (pc + 1) L (.int (x / y) :: rest) M z k n Φ) : WP m pc L (.int y :: .int x :: rest) M z k n Φ := by
  intro D dA base p l e s mid args below meth c C H locs ls hR hS hL
  exact lv_idiv C.1 C.2.1 d hne (h D dA base p l e s mid args below meth c C H locs ls hR hS hL)
theorem g_irem (d : dc m pc .irem 1) (hne : ¬ y = 0) (h : WP m (pc + 1) L (.int (x - x / y * y) :: rest) M z k n Φ) : WP m pc L (.int y :: .int x :: rest) M z k n Φ := by
  intro D dA base p l e s mid args below meth c C H locs ls hR hS hL
  exact lv_irem C.1 C.2.1 d hne (h D dA base p l e s mid args below meth c C H locs ls hR hS hL)
theorem g_ineg (d : dc m pc .ineg 1) (h : WP m (pc + 1) L (.int (0 - x) :: rest) M z k n Φ) : WP m pc L (.int x :: rest) M z k n Φ := by
  intro D dA base p l e s mid args below meth c C H locs ls hR hS hL
  exact lv_ineg C.1 C.2.1 d (by first | exact (h D dA base p l e s mid args below meth c C H locs ls hR hS hL) | (rw [← Int32.zero_sub]; exact (h D dA base p l e s mid args below meth c C H locs ls hR hS hL)))
theorem g_ladd (d : dc m pc .ladd 1) (h : WP m (pc + 1) L (.long (xl + yl) :: rest) M z k n Φ) : WP m pc L (.long yl :: .long xl :: rest) M z k n Φ := by
  intro D dA base p l e s mid args below meth c C H locs ls hR hS hL
  exact lv_ladd C.1 C.2.1 d (h D dA base p l e s mid args below meth c C H locs ls hR hS hL)
theorem g_lmul (d : dc m pc .lmul 1) (h : WP m (pc + 1) L (.long (xl * yl) :: rest) M z k n Φ) : WP m pc L (.long yl :: .long xl :: rest) M z k n Φ := by
  intro D dA base p l e s mid args below meth c C H locs ls hR hS hL
  exact lv_lmul C.1 C.2.1 d (h D dA base p l e s mid args below meth c C H locs ls hR hS hL)
theorem g_land (d : dc m pc .land 1) (h : WP m (pc + 1) L (.long (xl &&& yl) :: rest) M z k n Φ) : WP m pc L (.long yl :: .long xl :: rest) M z k n Φ := by
  intro D dA base p l e s mid args below meth c C H locs ls hR hS hL
  exact lv_land C.1 C.2.1 d (h D dA base p l e s mid args below meth c C H locs ls hR hS hL)
theorem g_lor (d : dc m pc .lor 1) (h : WP m (pc + 1) L (.long (xl ||| yl) :: rest) M z k n Φ) : WP m pc L (.long yl :: .long xl :: rest) M z k n Φ := by
  intro D dA base p l e s mid args below meth c C H locs ls hR hS hL
  exact lv_lor C.1 C.2.1 d (h D dA base p l e s mid args below meth c C H locs ls hR hS hL)
theorem g_lcmp (d : dc m pc .lcmp 1) (h : WP m (pc + 1) L (.int (lg_cmp xl yl) :: rest) M z k n Φ) : WP m pc L (.long yl :: .long xl :: rest) M z k n Φ := by
  intro D dA base p l e s mid args below meth c C H locs ls hR hS hL
  exact W.lcmp C.1 C.2.1 d (h D dA base p l e s mid args below meth c C H locs ls hR hS hL)
theorem g_i2l (d : dc m pc .i2l 1) (h : WP m (pc + 1) L (.long x.toInt64 :: rest) M z k n Φ) : WP m pc L (.int x :: rest) M z k n Φ := by
  intro D dA base p l e s mid args below meth c C H locs ls hR hS hL
  exact lv_i2l C.1 C.2.1 d rfl (h D dA base p l e s mid args below meth c C H locs ls hR hS hL)
theorem g_l2i (d : dc m pc .l2i 1) (h : WP m (pc + 1) L (.int xl.toInt32 :: rest) M z k n Φ) : WP m pc L (.long xl :: rest) M z k n Φ := by
  intro D dA base p l e s mid args below meth c C H locs ls hR hS hL
  exact lv_l2i C.1 C.2.1 d rfl (h D dA base p l e s mid args below meth c C H locs ls hR hS hL)
theorem g_i2c (d : dc m pc .i2c 1) (hv : (x.toUInt32 % 65536).toInt32 = v) (h : WP m (pc + 1) L (.int v :: rest) M z k n Φ) : WP m pc L (.int x :: rest) M z k n Φ := by
  intro D dA base p l e s mid args below meth c C H locs ls hR hS hL
  exact lv_i2c C.1 C.2.1 d hv (h D dA base p l e s mid args below meth c C H locs ls hR hS hL)
theorem g_lushr (d : dc m pc .lushr 1) (h : WP m (pc + 1) L (.long (xl.toUInt64 >>> (y.toInt64.toUInt64 &&& Int64.toUInt64 63)).toInt64 :: rest) M z k n Φ) : WP m pc L (.int y :: .long xl :: rest) M z k n Φ := by
  intro D dA base p l e s mid args below meth c C H locs ls hR hS hL
  exact lv_lushr C.1 C.2.1 d rfl (h D dA base p l e s mid args below meth c C H locs ls hR hS hL)
theorem g_lshl (d : dc m pc .lshl 1) (h : WP m (pc + 1) L (.long (xl <<< (y.toInt64 &&& 63)) :: rest) M z k n Φ) : WP m pc L (.int y :: .long xl :: rest) M z k n Φ := by
  intro D dA base p l e s mid args below meth c C H locs ls hR hS hL
  exact lv_lshl C.1 C.2.1 d rfl (h D dA base p l e s mid args below meth c C H locs ls hR hS hL)
theorem g_i2f (d : dc m pc .i2f 1) {w : UInt32} (hw : w = FP.i2f x) (h : WP m (pc + 1) L (.float w :: rest) M z k n Φ) : WP m pc L (.int x :: rest) M z k n Φ := by
  intro D dA base p l e s mid args below meth c C H locs ls hR hS hL
  subst hw; exact lv_i2f C.1 C.2.1 d (h D dA base p l e s mid args below meth c C H locs ls hR hS hL)
theorem g_i2d (d : dc m pc .i2d 1) {w : UInt64} (hw : w = FP.i2d x) (h : WP m (pc + 1) L (.double w :: rest) M z k n Φ) : WP m pc L (.int x :: rest) M z k n Φ := by
  intro D dA base p l e s mid args below meth c C H locs ls hR hS hL
  subst hw; exact lv_i2d C.1 C.2.1 d (h D dA base p l e s mid args below meth c C H locs ls hR hS hL)
theorem g_fdiv {u w : UInt32} (d : dc m pc .fdiv 1) (hne : vf_n32 (FP.fdiv u w)) (h : WP m (pc + 1) L (.float (FP.fdiv u w) :: rest) M z k n Φ) : WP m pc L (.float w :: .float u :: rest) M z k n Φ := by
  intro D dA base p l e s mid args below meth c C H locs ls hR hS hL
  exact lv_fdiv C.1 C.2.1 d hne (h D dA base p l e s mid args below meth c C H locs ls hR hS hL)
theorem g_ddiv {u w : UInt64} (d : dc m pc .ddiv 1) (hne : vf_n64 (FP.ddiv u w)) (h : WP m (pc + 1) L (.double (FP.ddiv u w) :: rest) M z k n Φ) : WP m pc L (.double w :: .double u :: rest) M z k n Φ := by
  intro D dA base p l e s mid args below meth c C H locs ls hR hS hL
  exact lv_ddiv C.1 C.2.1 d hne (h D dA base p l e s mid args below meth c C H locs ls hR hS hL)
theorem g_f2d {u : UInt32} (d : dc m pc .f2d 1) (hne : vf_n64 (FP.f2d u)) (h : WP m (pc + 1) L (.double (FP.f2d u) :: rest) M z k n Φ) : WP m pc L (.float u :: rest) M z k n Φ := by
  intro D dA base p l e s mid args below meth c C H locs ls hR hS hL
  exact lv_f2d C.1 C.2.1 d hne (h D dA base p l e s mid args below meth c C H locs ls hR hS hL)
theorem g_dcmp {u w : UInt64} {o : CmpOp} (d : dc m pc (.dcmp o) 1) (h : WP m (pc + 1) L (.int (Op.cmpValue (FP.dcmp u w) o) :: rest) M z k n Φ) : WP m pc L (.double w :: .double u :: rest) M z k n Φ := by
  intro D dA base p l e s mid args below meth c C H locs ls hR hS hL
  exact lv_dcmp C.1 C.2.1 d (h D dA base p l e s mid args below meth c C H locs ls hR hS hL)
theorem g_dup (d : dc m pc .dup 1) (hv : va.category = 1) (h : WP m (pc + 1) L (va :: va :: rest) M z k n Φ) : WP m pc L (va :: rest) M z k n Φ := by
  intro D dA base p l e s mid args below meth c C H locs ls hR hS hL
  exact lv_dup C.1 C.2.1 d hv (h D dA base p l e s mid args below meth c C H locs ls hR hS hL)
theorem g_pop (d : dc m pc .pop 1) (hv : va.category = 1) (h : WP m (pc + 1) L rest M z k n Φ) : WP m pc L (va :: rest) M z k n Φ := by
  intro D dA base p l e s mid args below meth c C H locs ls hR hS hL
  exact lv_pop C.1 C.2.1 d hv (h D dA base p l e s mid args below meth c C H locs ls hR hS hL)
theorem g_dup2 (d : dc m pc .dup2 1) (hv : va.category = 1) (hv2 : vb.category = 1) (h : WP m (pc + 1) L (va :: vb :: va :: vb :: rest) M z k n Φ) : WP m pc L (va :: vb :: rest) M z k n Φ := by
  intro D dA base p l e s mid args below meth c C H locs ls hR hS hL
  exact lv_dup2_11 C.1 C.2.1 d hv hv2 (h D dA base p l e s mid args below meth c C H locs ls hR hS hL)
theorem g_if_eq (d : dc m pc (.ifCond .eq off) 3) (ht : (pc : Int) + off = (tgt : Int)) (h1 : x = 0 → WP m tgt L rest M z k n Φ) (h2 : ¬ x = 0 → WP m (pc + 3) L rest M z k n Φ) : WP m pc L (.int x :: rest) M z k n Φ := by
  intro D dA base p l e s mid args below meth c C H locs ls hR hS hL
  exact lv_if_eq C.1 C.2.1 d ht (fun q => (h1 q D dA base p l e s mid args below meth c C H locs ls hR hS hL)) (fun q => (h2 q D dA base p l e s mid args below meth c C H locs ls hR hS hL))
theorem g_if_ne (d : dc m pc (.ifCond .ne off) 3) (ht : (pc : Int) + off = (tgt : Int)) (h1 : ¬ x = 0 → WP m tgt L rest M z k n Φ) (h2 : x = 0 → WP m (pc + 3) L rest M z k n Φ) : WP m pc L (.int x :: rest) M z k n Φ := by
  intro D dA base p l e s mid args below meth c C H locs ls hR hS hL
  exact lv_if_ne C.1 C.2.1 d ht (fun q => (h1 q D dA base p l e s mid args below meth c C H locs ls hR hS hL)) (fun q => (h2 q D dA base p l e s mid args below meth c C H locs ls hR hS hL))
theorem g_if_lt (d : dc m pc (.ifCond .lt off) 3) (ht : (pc : Int) + off = (tgt : Int)) (h1 : x < 0 → WP m tgt L rest M z k n Φ) (h2 : ¬ x < 0 → WP m (pc + 3) L rest M z k n Φ) : WP m pc L (.int x :: rest) M z k n Φ := by
  intro D dA base p l e s mid args below meth c C H locs ls hR hS hL
  exact lv_if_lt C.1 C.2.1 d ht (fun q => (h1 q D dA base p l e s mid args below meth c C H locs ls hR hS hL)) (fun q => (h2 q D dA base p l e s mid args below meth c C H locs ls hR hS hL))
theorem g_if_ge (d : dc m pc (.ifCond .ge off) 3) (ht : (pc : Int) + off = (tgt : Int)) (h1 : 0 ≤ x → WP m tgt L rest M z k n Φ) (h2 : ¬ 0 ≤ x → WP m (pc + 3) L rest M z k n Φ) : WP m pc L (.int x :: rest) M z k n Φ := by
  intro D dA base p l e s mid args below meth c C H locs ls hR hS hL
  exact lv_if_ge C.1 C.2.1 d ht (fun q => (h1 q D dA base p l e s mid args below meth c C H locs ls hR hS hL)) (fun q => (h2 q D dA base p l e s mid args below meth c C H locs ls hR hS hL))
theorem g_if_gt (d : dc m pc (.ifCond .gt off) 3) (ht : (pc : Int) + off = (tgt : Int)) (h1 : 0 < x → WP m tgt L rest M z k n Φ) (h2 : ¬ 0 < x → WP m (pc + 3) L rest M z k n Φ) : WP m pc L (.int x :: rest) M z k n Φ := by
  intro D dA base p l e s mid args below meth c C H locs ls hR hS hL
  exact lv_if_gt C.1 C.2.1 d ht (fun q => (h1 q D dA base p l e s mid args below meth c C H locs ls hR hS hL)) (fun q => (h2 q D dA base p l e s mid args below meth c C H locs ls hR hS hL))
theorem g_if_le (d : dc m pc (.ifCond .le off) 3) (ht : (pc : Int) + off = (tgt : Int)) (h1 : x ≤ 0 → WP m tgt L rest M z k n Φ) (h2 : ¬ x ≤ 0 → WP m (pc + 3) L rest M z k n Φ) : WP m pc L (.int x :: rest) M z k n Φ := by
  intro D dA base p l e s mid args below meth c C H locs ls hR hS hL
  exact lv_if_le C.1 C.2.1 d ht (fun q => (h1 q D dA base p l e s mid args below meth c C H locs ls hR hS hL)) (fun q => (h2 q D dA base p l e s mid args below meth c C H locs ls hR hS hL))
theorem g_icmp_eq (d : dc m pc (.if_icmp .eq off) 3) (ht : (pc : Int) + off = (tgt : Int)) (h1 : x = y → WP m tgt L rest M z k n Φ) (h2 : ¬ x = y → WP m (pc + 3) L rest M z k n Φ) : WP m pc L (.int y :: .int x :: rest) M z k n Φ := by
  intro D dA base p l e s mid args below meth c C H locs ls hR hS hL
  exact lv_icmp_eq C.1 C.2.1 d ht (fun q => (h1 q D dA base p l e s mid args below meth c C H locs ls hR hS hL)) (fun q => (h2 q D dA base p l e s mid args below meth c C H locs ls hR hS hL))
theorem g_icmp_ne (d : dc m pc (.if_icmp .ne off) 3) (ht : (pc : Int) + off = (tgt : Int)) (h1 : ¬ x = y → WP m tgt L rest M z k n Φ) (h2 : x = y → WP m (pc + 3) L rest M z k n Φ) : WP m pc L (.int y :: .int x :: rest) M z k n Φ := by
  intro D dA base p l e s mid args below meth c C H locs ls hR hS hL
  exact lv_icmp_ne C.1 C.2.1 d ht (fun q => (h1 q D dA base p l e s mid args below meth c C H locs ls hR hS hL)) (fun q => (h2 q D dA base p l e s mid args below meth c C H locs ls hR hS hL))
theorem g_icmp_lt (d : dc m pc (.if_icmp .lt off) 3) (ht : (pc : Int) + off = (tgt : Int)) (h1 : x < y → WP m tgt L rest M z k n Φ) (h2 : ¬ x < y → WP m (pc + 3) L rest M z k n Φ) : WP m pc L (.int y :: .int x :: rest) M z k n Φ := by
  intro D dA base p l e s mid args below meth c C H locs ls hR hS hL
  exact lv_icmp_lt C.1 C.2.1 d ht (fun q => (h1 q D dA base p l e s mid args below meth c C H locs ls hR hS hL)) (fun q => (h2 q D dA base p l e s mid args below meth c C H locs ls hR hS hL))
theorem g_icmp_ge (d : dc m pc (.if_icmp .ge off) 3) (ht : (pc : Int) + off = (tgt : Int)) (h1 : y ≤ x → WP m tgt L rest M z k n Φ) (h2 : ¬ y ≤ x → WP m (pc + 3) L rest M z k n Φ) : WP m pc L (.int y :: .int x :: rest) M z k n Φ := by
  intro D dA base p l e s mid args below meth c C H locs ls hR hS hL
  exact lv_icmp_ge C.1 C.2.1 d ht (fun q => (h1 q D dA base p l e s mid args below meth c C H locs ls hR hS hL)) (fun q => (h2 q D dA base p l e s mid args below meth c C H locs ls hR hS hL))
theorem g_icmp_gt (d : dc m pc (.if_icmp .gt off) 3) (ht : (pc : Int) + off = (tgt : Int)) (h1 : y < x → WP m tgt L rest M z k n Φ) (h2 : ¬ y < x → WP m (pc + 3) L rest M z k n Φ) : WP m pc L (.int y :: .int x :: rest) M z k n Φ := by
  intro D dA base p l e s mid args below meth c C H locs ls hR hS hL
  exact lv_icmp_gt C.1 C.2.1 d ht (fun q => (h1 q D dA base p l e s mid args below meth c C H locs ls hR hS hL)) (fun q => (h2 q D dA base p l e s mid args below meth c C H locs ls hR hS hL))
theorem g_icmp_le (d : dc m pc (.if_icmp .le off) 3) (ht : (pc : Int) + off = (tgt : Int)) (h1 : x ≤ y → WP m tgt L rest M z k n Φ) (h2 : ¬ x ≤ y → WP m (pc + 3) L rest M z k n Φ) : WP m pc L (.int y :: .int x :: rest) M z k n Φ := by
  intro D dA base p l e s mid args below meth c C H locs ls hR hS hL
  exact lv_icmp_le C.1 C.2.1 d ht (fun q => (h1 q D dA base p l e s mid args below meth c C H locs ls hR hS hL)) (fun q => (h2 q D dA base p l e s mid args below meth c C H locs ls hR hS hL))
theorem g_goto (d : dc m pc (.goto off) 3) (ht : (pc : Int) + off = (tgt : Int)) (h : WP m tgt L rest M z k n Φ) : WP m pc L rest M z k n Φ := by
  intro D dA base p l e s mid args below meth c C H locs ls hR hS hL
  exact lv_goto C.1 C.2.1 d ht (h D dA base p l e s mid args below meth c C H locs ls hR hS hL)
theorem g_ifnull (d : dc m pc (.ifnull off) 3) (h : WP m (pc + 3) L rest M z k n Φ) : WP m pc L (.ref a :: rest) M z k n Φ := by
  intro D dA base p l e s mid args below meth c C H locs ls hR hS hL
  exact lv_ifnull C.1 C.2.1 d (h D dA base p l e s mid args below meth c C H locs ls hR hS hL)
theorem g_ifnullN (d : dc m pc (.ifnull off) 3) (ht : (pc : Int) + off = (tgt : Int)) (h : WP m tgt L rest M z k n Φ) : WP m pc L (.null :: rest) M z k n Φ := by
  intro D dA base p l e s mid args below meth c C H locs ls hR hS hL
  exact lv_ifnullN C.1 C.2.1 d ht (h D dA base p l e s mid args below meth c C H locs ls hR hS hL)
theorem g_ifnonnull (d : dc m pc (.ifnonnull off) 3) (ht : (pc : Int) + off = (tgt : Int)) (h : WP m tgt L rest M z k n Φ) : WP m pc L (.ref a :: rest) M z k n Φ := by
  intro D dA base p l e s mid args below meth c C H locs ls hR hS hL
  exact lv_ifnonnull C.1 C.2.1 d ht (h D dA base p l e s mid args below meth c C H locs ls hR hS hL)
theorem g_ifnonnullN (d : dc m pc (.ifnonnull off) 3) (h : WP m (pc + 3) L rest M z k n Φ) : WP m pc L (.null :: rest) M z k n Φ := by
  intro D dA base p l e s mid args below meth c C H locs ls hR hS hL
  exact lv_ifnonnullN C.1 C.2.1 d (h D dA base p l e s mid args below meth c C H locs ls hR hS hL)
theorem g_tabIn {dflt lo hi : Int} {offs : Array Int} {len : Nat} (d : dc m pc (.tableswitch dflt lo hi offs) len) (h1 : ¬ x.toInt < lo) (h2 : ¬ hi < x.toInt) (ho : offs[(x.toInt - lo).toNat]? = some off) (ht : (pc : Int) + off = (tgt : Int)) (h : WP m tgt L rest M z k n Φ) : WP m pc L (.int x :: rest) M z k n Φ := by
  intro D dA base p l e s mid args below meth c C H locs ls hR hS hL
  exact lv_tableIn C.1 C.2.1 d h1 h2 ho ht (h D dA base p l e s mid args below meth c C H locs ls hR hS hL)
theorem g_tabOut {dflt lo hi : Int} {offs : Array Int} {len : Nat} (d : dc m pc (.tableswitch dflt lo hi offs) len) (h1 : x.toInt < lo ∨ hi < x.toInt) (ht : (pc : Int) + dflt = (tgt : Int)) (h : WP m tgt L rest M z k n Φ) : WP m pc L (.int x :: rest) M z k n Φ := by
  intro D dA base p l e s mid args below meth c C H locs ls hR hS hL
  exact lv_tableOut C.1 C.2.1 d h1 ht (h D dA base p l e s mid args below meth c C H locs ls hR hS hL)
theorem g_iload_n {i : Fin 4} (d : dc m pc (.iload_n i) 1) (hi : L[(i : Nat)]? = some (some (.int x))) (h : WP m (pc + 1) L (.int x :: rest) M z k n Φ) : WP m pc L rest M z k n Φ := by
  intro D dA base p l e s mid args below meth c C H locs ls hR hS hL
  exact lv_iload_n C.1 C.2.1 d rfl (hL.get hi) (h D dA base p l e s mid args below meth c C H locs ls hR hS hL)
theorem g_iload {i : Nat} (d : dc m pc (.iload i) 2) (hi : L[i]? = some (some (.int x))) (h : WP m (pc + 2) L (.int x :: rest) M z k n Φ) : WP m pc L rest M z k n Φ := by
  intro D dA base p l e s mid args below meth c C H locs ls hR hS hL
  exact lv_iload C.1 C.2.1 d (hL.get hi) (h D dA base p l e s mid args below meth c C H locs ls hR hS hL)
theorem g_lload_n {i : Fin 4} (d : dc m pc (.lload_n i) 1) (hi : L[(i : Nat)]? = some (some (.long xl))) (h : WP m (pc + 1) L (.long xl :: rest) M z k n Φ) : WP m pc L rest M z k n Φ := by
  intro D dA base p l e s mid args below meth c C H locs ls hR hS hL
  exact lv_lload_n C.1 C.2.1 d rfl (hL.get hi) (h D dA base p l e s mid args below meth c C H locs ls hR hS hL)
theorem g_lload {i : Nat} (d : dc m pc (.lload i) 2) (hi : L[i]? = some (some (.long xl))) (h : WP m (pc + 2) L (.long xl :: rest) M z k n Φ) : WP m pc L rest M z k n Φ := by
  intro D dA base p l e s mid args below meth c C H locs ls hR hS hL
  exact lv_lload C.1 C.2.1 d (hL.get hi) (h D dA base p l e s mid args below meth c C H locs ls hR hS hL)
theorem g_aload_n {i : Fin 4} (d : dc m pc (.aload_n i) 1) (hi : L[(i : Nat)]? = some (some (.ref a))) (h : WP m (pc + 1) L (.ref a :: rest) M z k n Φ) : WP m pc L rest M z k n Φ := by
  intro D dA base p l e s mid args below meth c C H locs ls hR hS hL
  exact lv_aload_n C.1 C.2.1 d rfl (hL.get hi) (h D dA base p l e s mid args below meth c C H locs ls hR hS hL)
theorem g_aload {i : Nat} (d : dc m pc (.aload i) 2) (hi : L[i]? = some (some (.ref a))) (h : WP m (pc + 2) L (.ref a :: rest) M z k n Φ) : WP m pc L rest M z k n Φ := by
  intro D dA base p l e s mid args below meth c C H locs ls hR hS hL
  exact lv_aload C.1 C.2.1 d (hL.get hi) (h D dA base p l e s mid args below meth c C H locs ls hR hS hL)
theorem g_dload {i : Nat} {u : UInt64} (d : dc m pc (.dload i) 2) (hi : L[i]? = some (some (.double u))) (h : WP m (pc + 2) L (.double u :: rest) M z k n Φ) : WP m pc L rest M z k n Φ := by
  intro D dA base p l e s mid args below meth c C H locs ls hR hS hL
  exact lv_dload C.1 C.2.1 d (hL.get hi) (h D dA base p l e s mid args below meth c C H locs ls hR hS hL)
theorem g_aload_nN {i : Fin 4} (d : dc m pc (.aload_n i) 1) (hi : L[(i : Nat)]? = some (some (.null))) (h : WP m (pc + 1) L (.null :: rest) M z k n Φ) : WP m pc L rest M z k n Φ := by
  intro D dA base p l e s mid args below meth c C H locs ls hR hS hL
  exact lv_aload_nN C.1 C.2.1 d rfl (hL.get hi) (h D dA base p l e s mid args below meth c C H locs ls hR hS hL)
theorem g_aloadN {i : Nat} (d : dc m pc (.aload i) 2) (hi : L[i]? = some (some (.null))) (h : WP m (pc + 2) L (.null :: rest) M z k n Φ) : WP m pc L rest M z k n Φ := by
  intro D dA base p l e s mid args below meth c C H locs ls hR hS hL
  exact lv_aloadN C.1 C.2.1 d (hL.get hi) (h D dA base p l e s mid args below meth c C H locs ls hR hS hL)
theorem g_istore_n {i : Fin 4} (d : dc m pc (.istore_n i) 1) (hi : ((i : Nat)) < L.length) (hp : ∀ a, (((i : Nat)) ≠ 0 ∧ L[((i : Nat)) - 1]? = some a) → gw1 a = true) (hl : (L.set ((i : Nat)) (some (.int x))) = T) (h : WP m (pc + 1) T rest M z k n Φ) : WP m pc L (.int x :: rest) M z k n Φ := by
  intro D dA base p l e s mid args below meth c C H locs ls hR hS hL
  exact lv_istore_n C.1 C.2.1 d rfl hL.2 (by rw [← hL.1]; exact hi) rfl (fun ls1 hl1 => h D dA base p l e s mid args below meth c C H locs ls1 hR hS (by rw [← hl]; exact hL.set1 hp hl1))
theorem g_istore {i : Nat} (d : dc m pc (.istore i) 2) (hi : (i) < L.length) (hp : ∀ a, ((i) ≠ 0 ∧ L[(i) - 1]? = some a) → gw1 a = true) (hl : (L.set (i) (some (.int x))) = T) (h : WP m (pc + 2) T rest M z k n Φ) : WP m pc L (.int x :: rest) M z k n Φ := by
  intro D dA base p l e s mid args below meth c C H locs ls hR hS hL
  exact lv_istore C.1 C.2.1 d hL.2 (by rw [← hL.1]; exact hi) rfl (fun ls1 hl1 => h D dA base p l e s mid args below meth c C H locs ls1 hR hS (by rw [← hl]; exact hL.set1 hp hl1))
theorem g_astore_n {i : Fin 4} (d : dc m pc (.astore_n i) 1) (hi : ((i : Nat)) < L.length) (hp : ∀ a, (((i : Nat)) ≠ 0 ∧ L[((i : Nat)) - 1]? = some a) → gw1 a = true) (hl : (L.set ((i : Nat)) (some (.ref a))) = T) (h : WP m (pc + 1) T rest M z k n Φ) : WP m pc L (.ref a :: rest) M z k n Φ := by
  intro D dA base p l e s mid args below meth c C H locs ls hR hS hL
  exact lv_astore_n C.1 C.2.1 d rfl hL.2 (by rw [← hL.1]; exact hi) rfl (fun ls1 hl1 => h D dA base p l e s mid args below meth c C H locs ls1 hR hS (by rw [← hl]; exact hL.set1 hp hl1))
theorem g_astore {i : Nat} (d : dc m pc (.astore i) 2) (hi : (i) < L.length) (hp : ∀ a, ((i) ≠ 0 ∧ L[(i) - 1]? = some a) → gw1 a = true) (hl : (L.set (i) (some (.ref a))) = T) (h : WP m (pc + 2) T rest M z k n Φ) : WP m pc L (.ref a :: rest) M z k n Φ := by
  intro D dA base p l e s mid args below meth c C H locs ls hR hS hL
  exact lv_astore C.1 C.2.1 d hL.2 (by rw [← hL.1]; exact hi) rfl (fun ls1 hl1 => h D dA base p l e s mid args below meth c C H locs ls1 hR hS (by rw [← hl]; exact hL.set1 hp hl1))
theorem g_astore_nN {i : Fin 4} (d : dc m pc (.astore_n i) 1) (hi : ((i : Nat)) < L.length) (hp : ∀ a, (((i : Nat)) ≠ 0 ∧ L[((i : Nat)) - 1]? = some a) → gw1 a = true) (hl : (L.set ((i : Nat)) (some (.null))) = T) (h : WP m (pc + 1) T rest M z k n Φ) : WP m pc L (.null :: rest) M z k n Φ := by
  intro D dA base p l e s mid args below meth c C H locs ls hR hS hL
  exact lv_astore_nN C.1 C.2.1 d rfl hL.2 (by rw [← hL.1]; exact hi) rfl (fun ls1 hl1 => h D dA base p l e s mid args below meth c C H locs ls1 hR hS (by rw [← hl]; exact hL.set1 hp hl1))
theorem g_astoreN {i : Nat} (d : dc m pc (.astore i) 2) (hi : (i) < L.length) (hp : ∀ a, ((i) ≠ 0 ∧ L[(i) - 1]? = some a) → gw1 a = true) (hl : (L.set (i) (some (.null))) = T) (h : WP m (pc + 2) T rest M z k n Φ) : WP m pc L (.null :: rest) M z k n Φ := by
  intro D dA base p l e s mid args below meth c C H locs ls hR hS hL
  exact lv_astoreN C.1 C.2.1 d hL.2 (by rw [← hL.1]; exact hi) rfl (fun ls1 hl1 => h D dA base p l e s mid args below meth c C H locs ls1 hR hS (by rw [← hl]; exact hL.set1 hp hl1))
theorem g_lstore {i : Nat} (d : dc m pc (.lstore i) 2) (hi : (i) + 1 < L.length) (hp : ∀ a, ((i) ≠ 0 ∧ L[(i) - 1]? = some a) → gw1 a = true) (hl : ((L.set (i) (some (.long xl))).set ((i) + 1) none) = T) (h : WP m (pc + 2) T rest M z k n Φ) : WP m pc L (.long xl :: rest) M z k n Φ := by
  intro D dA base p l e s mid args below meth c C H locs ls hR hS hL
  exact lv_lstore C.1 C.2.1 d hL.2 (by rw [← hL.1]; exact hi) rfl (fun ls1 hl1 => h D dA base p l e s mid args below meth c C H locs ls1 hR hS (by rw [← hl]; exact hL.set2 hp hl1))
theorem g_lstore_n {i : Fin 4} (d : dc m pc (.lstore_n i) 1) (hi : ((i : Nat)) + 1 < L.length) (hp : ∀ a, (((i : Nat)) ≠ 0 ∧ L[((i : Nat)) - 1]? = some a) → gw1 a = true) (hl : ((L.set ((i : Nat)) (some (.long xl))).set (((i : Nat)) + 1) none) = T) (h : WP m (pc + 1) T rest M z k n Φ) : WP m pc L (.long xl :: rest) M z k n Φ := by
  intro D dA base p l e s mid args below meth c C H locs ls hR hS hL
  exact lv_lstore_n C.1 C.2.1 d rfl hL.2 (by rw [← hL.1]; exact hi) rfl (fun ls1 hl1 => h D dA base p l e s mid args below meth c C H locs ls1 hR hS (by rw [← hl]; exact hL.set2 hp hl1))
theorem g_dstore {i : Nat} {u : UInt64} (d : dc m pc (.dstore i) 2) (hi : i + 1 < L.length) (hp : ∀ a, ((i) ≠ 0 ∧ L[(i) - 1]? = some a) → gw1 a = true) (hl : ((L.set i (some (.double u))).set (i + 1) none) = T) (h : WP m (pc + 2) T rest M z k n Φ) : WP m pc L (.double u :: rest) M z k n Φ := by
  intro D dA base p l e s mid args below meth c C H locs ls hR hS hL
  exact lv_dstore C.1 C.2.1 d hL.2 (by rw [← hL.1]; exact hi) rfl (fun ls1 hl1 => h D dA base p l e s mid args below meth c C H locs ls1 hR hS (by rw [← hl]; exact hL.set2 hp hl1))
theorem g_iinc {i : Nat} {q : Int} (d : dc m pc (.iinc i q) 3) (hi : L[i]? = some (some (.int x))) (hp : ∀ a, ((i) ≠ 0 ∧ L[(i) - 1]? = some a) → gw1 a = true) (hv : Int32.ofInt q = y) (hl : L.set i (some (.int (x + y))) = T) (h : WP m (pc + 3) T rest M z k n Φ) : WP m pc L rest M z k n Φ := by
  intro D dA base p l e s mid args below meth c C H locs ls hR hS hL
  subst hv
  obtain ⟨j, hj⟩ := List.getElem?_of_mem ((gprs_mem L 0 i (.int x)).mpr ⟨i, by omega, hi⟩)
  exact lv_iinc C.1 C.2.1 d hL.2 hj rfl (by rw [← hL.1]; exact (List.getElem?_eq_some_iff.mp hi).1) rfl (fun ls1 hl1 => h D dA base p l e s mid args below meth c C H locs ls1 hR hS (by rw [← hl]; exact hL.set1 hp hl1))
theorem g_weak {L' : List (Option Value)} (hs : gsub L' L) (h : WP m pc L' rest M z k n Φ) : WP m pc L rest M z k n Φ := by
  intro D dA base p l e s mid args below meth c C H locs ls hR hS hL
  exact h D dA base p l e s mid args below meth c C H locs ls hR hS (hL.weak hs)
theorem g_iload_0 (d : dc m pc (.iload_n 0) 1) (h : WP m (pc + 1) (some (.int x) :: T) (.int x :: rest) M z k n Φ) : WP m pc (some (.int x) :: T) rest M z k n Φ := g_iload_n d rfl h
theorem g_iload_1 {p0 : Option Value} (d : dc m pc (.iload_n 1) 1) (h : WP m (pc + 1) (p0 :: some (.int x) :: T) (.int x :: rest) M z k n Φ) : WP m pc (p0 :: some (.int x) :: T) rest M z k n Φ := g_iload_n d rfl h
theorem g_iload_2 {p0 p1 : Option Value} (d : dc m pc (.iload_n 2) 1) (h : WP m (pc + 1) (p0 :: p1 :: some (.int x) :: T) (.int x :: rest) M z k n Φ) : WP m pc (p0 :: p1 :: some (.int x) :: T) rest M z k n Φ := g_iload_n d rfl h
theorem g_iload_3 {p0 p1 p2 : Option Value} (d : dc m pc (.iload_n 3) 1) (h : WP m (pc + 1) (p0 :: p1 :: p2 :: some (.int x) :: T) (.int x :: rest) M z k n Φ) : WP m pc (p0 :: p1 :: p2 :: some (.int x) :: T) rest M z k n Φ := g_iload_n d rfl h
theorem g_iload_4 {p0 p1 p2 p3 : Option Value} (d : dc m pc (.iload 4) 2) (h : WP m (pc + 2) (p0 :: p1 :: p2 :: p3 :: some (.int x) :: T) (.int x :: rest) M z k n Φ) : WP m pc (p0 :: p1 :: p2 :: p3 :: some (.int x) :: T) rest M z k n Φ := g_iload d rfl h
theorem g_iload_5 {p0 p1 p2 p3 p4 : Option Value} (d : dc m pc (.iload 5) 2) (h : WP m (pc + 2) (p0 :: p1 :: p2 :: p3 :: p4 :: some (.int x) :: T) (.int x :: rest) M z k n Φ) : WP m pc (p0 :: p1 :: p2 :: p3 :: p4 :: some (.int x) :: T) rest M z k n Φ := g_iload d rfl h
theorem g_iload_6 {p0 p1 p2 p3 p4 p5 : Option Value} (d : dc m pc (.iload 6) 2) (h : WP m (pc + 2) (p0 :: p1 :: p2 :: p3 :: p4 :: p5 :: some (.int x) :: T) (.int x :: rest) M z k n Φ) : WP m pc (p0 :: p1 :: p2 :: p3 :: p4 :: p5 :: some (.int x) :: T) rest M z k n Φ := g_iload d rfl h
theorem g_iload_7 {p0 p1 p2 p3 p4 p5 p6 : Option Value} (d : dc m pc (.iload 7) 2) (h : WP m (pc + 2) (p0 :: p1 :: p2 :: p3 :: p4 :: p5 :: p6 :: some (.int x) :: T) (.int x :: rest) M z k n Φ) : WP m pc (p0 :: p1 :: p2 :: p3 :: p4 :: p5 :: p6 :: some (.int x) :: T) rest M z k n Φ := g_iload d rfl h
theorem g_iload_8 {p0 p1 p2 p3 p4 p5 p6 p7 : Option Value} (d : dc m pc (.iload 8) 2) (h : WP m (pc + 2) (p0 :: p1 :: p2 :: p3 :: p4 :: p5 :: p6 :: p7 :: some (.int x) :: T) (.int x :: rest) M z k n Φ) : WP m pc (p0 :: p1 :: p2 :: p3 :: p4 :: p5 :: p6 :: p7 :: some (.int x) :: T) rest M z k n Φ := g_iload d rfl h
theorem g_iload_9 {p0 p1 p2 p3 p4 p5 p6 p7 p8 : Option Value} (d : dc m pc (.iload 9) 2) (h : WP m (pc + 2) (p0 :: p1 :: p2 :: p3 :: p4 :: p5 :: p6 :: p7 :: p8 :: some (.int x) :: T) (.int x :: rest) M z k n Φ) : WP m pc (p0 :: p1 :: p2 :: p3 :: p4 :: p5 :: p6 :: p7 :: p8 :: some (.int x) :: T) rest M z k n Φ := g_iload d rfl h
theorem g_aload_0 (d : dc m pc (.aload_n 0) 1) (h : WP m (pc + 1) (some (.ref a) :: T) (.ref a :: rest) M z k n Φ) : WP m pc (some (.ref a) :: T) rest M z k n Φ := g_aload_n d rfl h
theorem g_aload_1 {p0 : Option Value} (d : dc m pc (.aload_n 1) 1) (h : WP m (pc + 1) (p0 :: some (.ref a) :: T) (.ref a :: rest) M z k n Φ) : WP m pc (p0 :: some (.ref a) :: T) rest M z k n Φ := g_aload_n d rfl h
theorem g_aload_2 {p0 p1 : Option Value} (d : dc m pc (.aload_n 2) 1) (h : WP m (pc + 1) (p0 :: p1 :: some (.ref a) :: T) (.ref a :: rest) M z k n Φ) : WP m pc (p0 :: p1 :: some (.ref a) :: T) rest M z k n Φ := g_aload_n d rfl h
theorem g_aload_3 {p0 p1 p2 : Option Value} (d : dc m pc (.aload_n 3) 1) (h : WP m (pc + 1) (p0 :: p1 :: p2 :: some (.ref a) :: T) (.ref a :: rest) M z k n Φ) : WP m pc (p0 :: p1 :: p2 :: some (.ref a) :: T) rest M z k n Φ := g_aload_n d rfl h
theorem g_aload_4 {p0 p1 p2 p3 : Option Value} (d : dc m pc (.aload 4) 2) (h : WP m (pc + 2) (p0 :: p1 :: p2 :: p3 :: some (.ref a) :: T) (.ref a :: rest) M z k n Φ) : WP m pc (p0 :: p1 :: p2 :: p3 :: some (.ref a) :: T) rest M z k n Φ := g_aload d rfl h
theorem g_aload_5 {p0 p1 p2 p3 p4 : Option Value} (d : dc m pc (.aload 5) 2) (h : WP m (pc + 2) (p0 :: p1 :: p2 :: p3 :: p4 :: some (.ref a) :: T) (.ref a :: rest) M z k n Φ) : WP m pc (p0 :: p1 :: p2 :: p3 :: p4 :: some (.ref a) :: T) rest M z k n Φ := g_aload d rfl h
theorem g_aload_6 {p0 p1 p2 p3 p4 p5 : Option Value} (d : dc m pc (.aload 6) 2) (h : WP m (pc + 2) (p0 :: p1 :: p2 :: p3 :: p4 :: p5 :: some (.ref a) :: T) (.ref a :: rest) M z k n Φ) : WP m pc (p0 :: p1 :: p2 :: p3 :: p4 :: p5 :: some (.ref a) :: T) rest M z k n Φ := g_aload d rfl h
theorem g_aload_7 {p0 p1 p2 p3 p4 p5 p6 : Option Value} (d : dc m pc (.aload 7) 2) (h : WP m (pc + 2) (p0 :: p1 :: p2 :: p3 :: p4 :: p5 :: p6 :: some (.ref a) :: T) (.ref a :: rest) M z k n Φ) : WP m pc (p0 :: p1 :: p2 :: p3 :: p4 :: p5 :: p6 :: some (.ref a) :: T) rest M z k n Φ := g_aload d rfl h
theorem g_aload_8 {p0 p1 p2 p3 p4 p5 p6 p7 : Option Value} (d : dc m pc (.aload 8) 2) (h : WP m (pc + 2) (p0 :: p1 :: p2 :: p3 :: p4 :: p5 :: p6 :: p7 :: some (.ref a) :: T) (.ref a :: rest) M z k n Φ) : WP m pc (p0 :: p1 :: p2 :: p3 :: p4 :: p5 :: p6 :: p7 :: some (.ref a) :: T) rest M z k n Φ := g_aload d rfl h
theorem g_aload_9 {p0 p1 p2 p3 p4 p5 p6 p7 p8 : Option Value} (d : dc m pc (.aload 9) 2) (h : WP m (pc + 2) (p0 :: p1 :: p2 :: p3 :: p4 :: p5 :: p6 :: p7 :: p8 :: some (.ref a) :: T) (.ref a :: rest) M z k n Φ) : WP m pc (p0 :: p1 :: p2 :: p3 :: p4 :: p5 :: p6 :: p7 :: p8 :: some (.ref a) :: T) rest M z k n Φ := g_aload d rfl h
theorem g_lload_0 (d : dc m pc (.lload_n 0) 1) (h : WP m (pc + 1) (some (.long xl) :: T) (.long xl :: rest) M z k n Φ) : WP m pc (some (.long xl) :: T) rest M z k n Φ := g_lload_n d rfl h
theorem g_lload_1 {p0 : Option Value} (d : dc m pc (.lload_n 1) 1) (h : WP m (pc + 1) (p0 :: some (.long xl) :: T) (.long xl :: rest) M z k n Φ) : WP m pc (p0 :: some (.long xl) :: T) rest M z k n Φ := g_lload_n d rfl h
theorem g_lload_2 {p0 p1 : Option Value} (d : dc m pc (.lload_n 2) 1) (h : WP m (pc + 1) (p0 :: p1 :: some (.long xl) :: T) (.long xl :: rest) M z k n Φ) : WP m pc (p0 :: p1 :: some (.long xl) :: T) rest M z k n Φ := g_lload_n d rfl h
theorem g_lload_3 {p0 p1 p2 : Option Value} (d : dc m pc (.lload_n 3) 1) (h : WP m (pc + 1) (p0 :: p1 :: p2 :: some (.long xl) :: T) (.long xl :: rest) M z k n Φ) : WP m pc (p0 :: p1 :: p2 :: some (.long xl) :: T) rest M z k n Φ := g_lload_n d rfl h
theorem g_lload_4 {p0 p1 p2 p3 : Option Value} (d : dc m pc (.lload 4) 2) (h : WP m (pc + 2) (p0 :: p1 :: p2 :: p3 :: some (.long xl) :: T) (.long xl :: rest) M z k n Φ) : WP m pc (p0 :: p1 :: p2 :: p3 :: some (.long xl) :: T) rest M z k n Φ := g_lload d rfl h
theorem g_lload_5 {p0 p1 p2 p3 p4 : Option Value} (d : dc m pc (.lload 5) 2) (h : WP m (pc + 2) (p0 :: p1 :: p2 :: p3 :: p4 :: some (.long xl) :: T) (.long xl :: rest) M z k n Φ) : WP m pc (p0 :: p1 :: p2 :: p3 :: p4 :: some (.long xl) :: T) rest M z k n Φ := g_lload d rfl h
theorem g_lload_6 {p0 p1 p2 p3 p4 p5 : Option Value} (d : dc m pc (.lload 6) 2) (h : WP m (pc + 2) (p0 :: p1 :: p2 :: p3 :: p4 :: p5 :: some (.long xl) :: T) (.long xl :: rest) M z k n Φ) : WP m pc (p0 :: p1 :: p2 :: p3 :: p4 :: p5 :: some (.long xl) :: T) rest M z k n Φ := g_lload d rfl h
theorem g_lload_7 {p0 p1 p2 p3 p4 p5 p6 : Option Value} (d : dc m pc (.lload 7) 2) (h : WP m (pc + 2) (p0 :: p1 :: p2 :: p3 :: p4 :: p5 :: p6 :: some (.long xl) :: T) (.long xl :: rest) M z k n Φ) : WP m pc (p0 :: p1 :: p2 :: p3 :: p4 :: p5 :: p6 :: some (.long xl) :: T) rest M z k n Φ := g_lload d rfl h
theorem g_lload_8 {p0 p1 p2 p3 p4 p5 p6 p7 : Option Value} (d : dc m pc (.lload 8) 2) (h : WP m (pc + 2) (p0 :: p1 :: p2 :: p3 :: p4 :: p5 :: p6 :: p7 :: some (.long xl) :: T) (.long xl :: rest) M z k n Φ) : WP m pc (p0 :: p1 :: p2 :: p3 :: p4 :: p5 :: p6 :: p7 :: some (.long xl) :: T) rest M z k n Φ := g_lload d rfl h
theorem g_lload_9 {p0 p1 p2 p3 p4 p5 p6 p7 p8 : Option Value} (d : dc m pc (.lload 9) 2) (h : WP m (pc + 2) (p0 :: p1 :: p2 :: p3 :: p4 :: p5 :: p6 :: p7 :: p8 :: some (.long xl) :: T) (.long xl :: rest) M z k n Φ) : WP m pc (p0 :: p1 :: p2 :: p3 :: p4 :: p5 :: p6 :: p7 :: p8 :: some (.long xl) :: T) rest M z k n Φ := g_lload d rfl h
theorem g_dload_0 {u : UInt64} (d : dc m pc (.dload 0) 2) (h : WP m (pc + 2) (some (.double u) :: T) (.double u :: rest) M z k n Φ) : WP m pc (some (.double u) :: T) rest M z k n Φ := g_dload d rfl h
theorem g_dload_1 {p0 : Option Value} {u : UInt64} (d : dc m pc (.dload 1) 2) (h : WP m (pc + 2) (p0 :: some (.double u) :: T) (.double u :: rest) M z k n Φ) : WP m pc (p0 :: some (.double u) :: T) rest M z k n Φ := g_dload d rfl h
theorem g_dload_2 {p0 p1 : Option Value} {u : UInt64} (d : dc m pc (.dload 2) 2) (h : WP m (pc + 2) (p0 :: p1 :: some (.double u) :: T) (.double u :: rest) M z k n Φ) : WP m pc (p0 :: p1 :: some (.double u) :: T) rest M z k n Φ := g_dload d rfl h
theorem g_dload_3 {p0 p1 p2 : Option Value} {u : UInt64} (d : dc m pc (.dload 3) 2) (h : WP m (pc + 2) (p0 :: p1 :: p2 :: some (.double u) :: T) (.double u :: rest) M z k n Φ) : WP m pc (p0 :: p1 :: p2 :: some (.double u) :: T) rest M z k n Φ := g_dload d rfl h
theorem g_dload_4 {p0 p1 p2 p3 : Option Value} {u : UInt64} (d : dc m pc (.dload 4) 2) (h : WP m (pc + 2) (p0 :: p1 :: p2 :: p3 :: some (.double u) :: T) (.double u :: rest) M z k n Φ) : WP m pc (p0 :: p1 :: p2 :: p3 :: some (.double u) :: T) rest M z k n Φ := g_dload d rfl h
theorem g_dload_5 {p0 p1 p2 p3 p4 : Option Value} {u : UInt64} (d : dc m pc (.dload 5) 2) (h : WP m (pc + 2) (p0 :: p1 :: p2 :: p3 :: p4 :: some (.double u) :: T) (.double u :: rest) M z k n Φ) : WP m pc (p0 :: p1 :: p2 :: p3 :: p4 :: some (.double u) :: T) rest M z k n Φ := g_dload d rfl h
theorem g_dload_6 {p0 p1 p2 p3 p4 p5 : Option Value} {u : UInt64} (d : dc m pc (.dload 6) 2) (h : WP m (pc + 2) (p0 :: p1 :: p2 :: p3 :: p4 :: p5 :: some (.double u) :: T) (.double u :: rest) M z k n Φ) : WP m pc (p0 :: p1 :: p2 :: p3 :: p4 :: p5 :: some (.double u) :: T) rest M z k n Φ := g_dload d rfl h
theorem g_dload_7 {p0 p1 p2 p3 p4 p5 p6 : Option Value} {u : UInt64} (d : dc m pc (.dload 7) 2) (h : WP m (pc + 2) (p0 :: p1 :: p2 :: p3 :: p4 :: p5 :: p6 :: some (.double u) :: T) (.double u :: rest) M z k n Φ) : WP m pc (p0 :: p1 :: p2 :: p3 :: p4 :: p5 :: p6 :: some (.double u) :: T) rest M z k n Φ := g_dload d rfl h
theorem g_dload_8 {p0 p1 p2 p3 p4 p5 p6 p7 : Option Value} {u : UInt64} (d : dc m pc (.dload 8) 2) (h : WP m (pc + 2) (p0 :: p1 :: p2 :: p3 :: p4 :: p5 :: p6 :: p7 :: some (.double u) :: T) (.double u :: rest) M z k n Φ) : WP m pc (p0 :: p1 :: p2 :: p3 :: p4 :: p5 :: p6 :: p7 :: some (.double u) :: T) rest M z k n Φ := g_dload d rfl h
theorem g_dload_9 {p0 p1 p2 p3 p4 p5 p6 p7 p8 : Option Value} {u : UInt64} (d : dc m pc (.dload 9) 2) (h : WP m (pc + 2) (p0 :: p1 :: p2 :: p3 :: p4 :: p5 :: p6 :: p7 :: p8 :: some (.double u) :: T) (.double u :: rest) M z k n Φ) : WP m pc (p0 :: p1 :: p2 :: p3 :: p4 :: p5 :: p6 :: p7 :: p8 :: some (.double u) :: T) rest M z k n Φ := g_dload d rfl h
theorem g_aload_0N (d : dc m pc (.aload_n 0) 1) (h : WP m (pc + 1) (some .null :: T) (.null :: rest) M z k n Φ) : WP m pc (some .null :: T) rest M z k n Φ := g_aload_nN d rfl h
theorem g_aload_1N {p0 : Option Value} (d : dc m pc (.aload_n 1) 1) (h : WP m (pc + 1) (p0 :: some .null :: T) (.null :: rest) M z k n Φ) : WP m pc (p0 :: some .null :: T) rest M z k n Φ := g_aload_nN d rfl h
theorem g_aload_2N {p0 p1 : Option Value} (d : dc m pc (.aload_n 2) 1) (h : WP m (pc + 1) (p0 :: p1 :: some .null :: T) (.null :: rest) M z k n Φ) : WP m pc (p0 :: p1 :: some .null :: T) rest M z k n Φ := g_aload_nN d rfl h
theorem g_aload_3N {p0 p1 p2 : Option Value} (d : dc m pc (.aload_n 3) 1) (h : WP m (pc + 1) (p0 :: p1 :: p2 :: some .null :: T) (.null :: rest) M z k n Φ) : WP m pc (p0 :: p1 :: p2 :: some .null :: T) rest M z k n Φ := g_aload_nN d rfl h
theorem g_aload_4N {p0 p1 p2 p3 : Option Value} (d : dc m pc (.aload 4) 2) (h : WP m (pc + 2) (p0 :: p1 :: p2 :: p3 :: some .null :: T) (.null :: rest) M z k n Φ) : WP m pc (p0 :: p1 :: p2 :: p3 :: some .null :: T) rest M z k n Φ := g_aloadN d rfl h
theorem g_aload_5N {p0 p1 p2 p3 p4 : Option Value} (d : dc m pc (.aload 5) 2) (h : WP m (pc + 2) (p0 :: p1 :: p2 :: p3 :: p4 :: some .null :: T) (.null :: rest) M z k n Φ) : WP m pc (p0 :: p1 :: p2 :: p3 :: p4 :: some .null :: T) rest M z k n Φ := g_aloadN d rfl h
theorem g_aload_6N {p0 p1 p2 p3 p4 p5 : Option Value} (d : dc m pc (.aload 6) 2) (h : WP m (pc + 2) (p0 :: p1 :: p2 :: p3 :: p4 :: p5 :: some .null :: T) (.null :: rest) M z k n Φ) : WP m pc (p0 :: p1 :: p2 :: p3 :: p4 :: p5 :: some .null :: T) rest M z k n Φ := g_aloadN d rfl h
theorem g_aload_7N {p0 p1 p2 p3 p4 p5 p6 : Option Value} (d : dc m pc (.aload 7) 2) (h : WP m (pc + 2) (p0 :: p1 :: p2 :: p3 :: p4 :: p5 :: p6 :: some .null :: T) (.null :: rest) M z k n Φ) : WP m pc (p0 :: p1 :: p2 :: p3 :: p4 :: p5 :: p6 :: some .null :: T) rest M z k n Φ := g_aloadN d rfl h
theorem g_aload_8N {p0 p1 p2 p3 p4 p5 p6 p7 : Option Value} (d : dc m pc (.aload 8) 2) (h : WP m (pc + 2) (p0 :: p1 :: p2 :: p3 :: p4 :: p5 :: p6 :: p7 :: some .null :: T) (.null :: rest) M z k n Φ) : WP m pc (p0 :: p1 :: p2 :: p3 :: p4 :: p5 :: p6 :: p7 :: some .null :: T) rest M z k n Φ := g_aloadN d rfl h
theorem g_aload_9N {p0 p1 p2 p3 p4 p5 p6 p7 p8 : Option Value} (d : dc m pc (.aload 9) 2) (h : WP m (pc + 2) (p0 :: p1 :: p2 :: p3 :: p4 :: p5 :: p6 :: p7 :: p8 :: some .null :: T) (.null :: rest) M z k n Φ) : WP m pc (p0 :: p1 :: p2 :: p3 :: p4 :: p5 :: p6 :: p7 :: p8 :: some .null :: T) rest M z k n Φ := g_aloadN d rfl h
theorem g_istore_0 {q : Option Value} (d : dc m pc (.istore_n 0) 1) (h : WP m (pc + 1) (some (.int x) :: T) rest M z k n Φ) : WP m pc (q :: T) (.int x :: rest) M z k n Φ := g_istore_n d (by show 0 < List.length _; simp) (fun a h => absurd rfl h.1) rfl h
theorem g_istore_1 {p0 q : Option Value} (hp : gw1 p0 = true) (d : dc m pc (.istore_n 1) 1) (h : WP m (pc + 1) (p0 :: some (.int x) :: T) rest M z k n Φ) : WP m pc (p0 :: q :: T) (.int x :: rest) M z k n Φ := g_istore_n d (by show 1 < List.length _; simp) (fun a h => by have h2 : some p0 = some a := h.2; cases h2; exact hp) rfl h
theorem g_istore_2 {p0 p1 q : Option Value} (hp : gw1 p1 = true) (d : dc m pc (.istore_n 2) 1) (h : WP m (pc + 1) (p0 :: p1 :: some (.int x) :: T) rest M z k n Φ) : WP m pc (p0 :: p1 :: q :: T) (.int x :: rest) M z k n Φ := g_istore_n d (by show 2 < List.length _; simp) (fun a h => by have h2 : some p1 = some a := h.2; cases h2; exact hp) rfl h
theorem g_istore_3 {p0 p1 p2 q : Option Value} (hp : gw1 p2 = true) (d : dc m pc (.istore_n 3) 1) (h : WP m (pc + 1) (p0 :: p1 :: p2 :: some (.int x) :: T) rest M z k n Φ) : WP m pc (p0 :: p1 :: p2 :: q :: T) (.int x :: rest) M z k n Φ := g_istore_n d (by show 3 < List.length _; simp) (fun a h => by have h2 : some p2 = some a := h.2; cases h2; exact hp) rfl h
theorem g_istore_4 {p0 p1 p2 p3 q : Option Value} (hp : gw1 p3 = true) (d : dc m pc (.istore 4) 2) (h : WP m (pc + 2) (p0 :: p1 :: p2 :: p3 :: some (.int x) :: T) rest M z k n Φ) : WP m pc (p0 :: p1 :: p2 :: p3 :: q :: T) (.int x :: rest) M z k n Φ := g_istore d (by show 4 < List.length _; simp) (fun a h => by have h2 : some p3 = some a := h.2; cases h2; exact hp) rfl h
theorem g_istore_5 {p0 p1 p2 p3 p4 q : Option Value} (hp : gw1 p4 = true) (d : dc m pc (.istore 5) 2) (h : WP m (pc + 2) (p0 :: p1 :: p2 :: p3 :: p4 :: some (.int x) :: T) rest M z k n Φ) : WP m pc (p0 :: p1 :: p2 :: p3 :: p4 :: q :: T) (.int x :: rest) M z k n Φ := g_istore d (by show 5 < List.length _; simp) (fun a h => by have h2 : some p4 = some a := h.2; cases h2; exact hp) rfl h
theorem g_istore_6 {p0 p1 p2 p3 p4 p5 q : Option Value} (hp : gw1 p5 = true) (d : dc m pc (.istore 6) 2) (h : WP m (pc + 2) (p0 :: p1 :: p2 :: p3 :: p4 :: p5 :: some (.int x) :: T) rest M z k n Φ) : WP m pc (p0 :: p1 :: p2 :: p3 :: p4 :: p5 :: q :: T) (.int x :: rest) M z k n Φ := g_istore d (by show 6 < List.length _; simp) (fun a h => by have h2 : some p5 = some a := h.2; cases h2; exact hp) rfl h
theorem g_istore_7 {p0 p1 p2 p3 p4 p5 p6 q : Option Value} (hp : gw1 p6 = true) (d : dc m pc (.istore 7) 2) (h : WP m (pc + 2) (p0 :: p1 :: p2 :: p3 :: p4 :: p5 :: p6 :: some (.int x) :: T) rest M z k n Φ) : WP m pc (p0 :: p1 :: p2 :: p3 :: p4 :: p5 :: p6 :: q :: T) (.int x :: rest) M z k n Φ := g_istore d (by show 7 < List.length _; simp) (fun a h => by have h2 : some p6 = some a := h.2; cases h2; exact hp) rfl h
theorem g_istore_8 {p0 p1 p2 p3 p4 p5 p6 p7 q : Option Value} (hp : gw1 p7 = true) (d : dc m pc (.istore 8) 2) (h : WP m (pc + 2) (p0 :: p1 :: p2 :: p3 :: p4 :: p5 :: p6 :: p7 :: some (.int x) :: T) rest M z k n Φ) : WP m pc (p0 :: p1 :: p2 :: p3 :: p4 :: p5 :: p6 :: p7 :: q :: T) (.int x :: rest) M z k n Φ := g_istore d (by show 8 < List.length _; simp) (fun a h => by have h2 : some p7 = some a := h.2; cases h2; exact hp) rfl h
theorem g_istore_9 {p0 p1 p2 p3 p4 p5 p6 p7 p8 q : Option Value} (hp : gw1 p8 = true) (d : dc m pc (.istore 9) 2) (h : WP m (pc + 2) (p0 :: p1 :: p2 :: p3 :: p4 :: p5 :: p6 :: p7 :: p8 :: some (.int x) :: T) rest M z k n Φ) : WP m pc (p0 :: p1 :: p2 :: p3 :: p4 :: p5 :: p6 :: p7 :: p8 :: q :: T) (.int x :: rest) M z k n Φ := g_istore d (by show 9 < List.length _; simp) (fun a h => by have h2 : some p8 = some a := h.2; cases h2; exact hp) rfl h
theorem g_astore_0 {q : Option Value} (d : dc m pc (.astore_n 0) 1) (h : WP m (pc + 1) (some (.ref a) :: T) rest M z k n Φ) : WP m pc (q :: T) (.ref a :: rest) M z k n Φ := g_astore_n d (by show 0 < List.length _; simp) (fun a h => absurd rfl h.1) rfl h
theorem g_astore_1 {p0 q : Option Value} (hp : gw1 p0 = true) (d : dc m pc (.astore_n 1) 1) (h : WP m (pc + 1) (p0 :: some (.ref a) :: T) rest M z k n Φ) : WP m pc (p0 :: q :: T) (.ref a :: rest) M z k n Φ := g_astore_n d (by show 1 < List.length _; simp) (fun a h => by have h2 : some p0 = some a := h.2; cases h2; exact hp) rfl h
theorem g_astore_2 {p0 p1 q : Option Value} (hp : gw1 p1 = true) (d : dc m pc (.astore_n 2) 1) (h : WP m (pc + 1) (p0 :: p1 :: some (.ref a) :: T) rest M z k n Φ) : WP m pc (p0 :: p1 :: q :: T) (.ref a :: rest) M z k n Φ := g_astore_n d (by show 2 < List.length _; simp) (fun a h => by have h2 : some p1 = some a := h.2; cases h2; exact hp) rfl h
theorem g_astore_3 {p0 p1 p2 q : Option Value} (hp : gw1 p2 = true) (d : dc m pc (.astore_n 3) 1) (h : WP m (pc + 1) (p0 :: p1 :: p2 :: some (.ref a) :: T) rest M z k n Φ) : WP m pc (p0 :: p1 :: p2 :: q :: T) (.ref a :: rest) M z k n Φ := g_astore_n d (by show 3 < List.length _; simp) (fun a h => by have h2 : some p2 = some a := h.2; cases h2; exact hp) rfl h
theorem g_astore_4 {p0 p1 p2 p3 q : Option Value} (hp : gw1 p3 = true) (d : dc m pc (.astore 4) 2) (h : WP m (pc + 2) (p0 :: p1 :: p2 :: p3 :: some (.ref a) :: T) rest M z k n Φ) : WP m pc (p0 :: p1 :: p2 :: p3 :: q :: T) (.ref a :: rest) M z k n Φ := g_astore d (by show 4 < List.length _; simp) (fun a h => by have h2 : some p3 = some a := h.2; cases h2; exact hp) rfl h
theorem g_astore_5 {p0 p1 p2 p3 p4 q : Option Value} (hp : gw1 p4 = true) (d : dc m pc (.astore 5) 2) (h : WP m (pc + 2) (p0 :: p1 :: p2 :: p3 :: p4 :: some (.ref a) :: T) rest M z k n Φ) : WP m pc (p0 :: p1 :: p2 :: p3 :: p4 :: q :: T) (.ref a :: rest) M z k n Φ := g_astore d (by show 5 < List.length _; simp) (fun a h => by have h2 : some p4 = some a := h.2; cases h2; exact hp) rfl h
theorem g_astore_6 {p0 p1 p2 p3 p4 p5 q : Option Value} (hp : gw1 p5 = true) (d : dc m pc (.astore 6) 2) (h : WP m (pc + 2) (p0 :: p1 :: p2 :: p3 :: p4 :: p5 :: some (.ref a) :: T) rest M z k n Φ) : WP m pc (p0 :: p1 :: p2 :: p3 :: p4 :: p5 :: q :: T) (.ref a :: rest) M z k n Φ := g_astore d (by show 6 < List.length _; simp) (fun a h => by have h2 : some p5 = some a := h.2; cases h2; exact hp) rfl h
theorem g_astore_7 {p0 p1 p2 p3 p4 p5 p6 q : Option Value} (hp : gw1 p6 = true) (d : dc m pc (.astore 7) 2) (h : WP m (pc + 2) (p0 :: p1 :: p2 :: p3 :: p4 :: p5 :: p6 :: some (.ref a) :: T) rest M z k n Φ) : WP m pc (p0 :: p1 :: p2 :: p3 :: p4 :: p5 :: p6 :: q :: T) (.ref a :: rest) M z k n Φ := g_astore d (by show 7 < List.length _; simp) (fun a h => by have h2 : some p6 = some a := h.2; cases h2; exact hp) rfl h
theorem g_astore_8 {p0 p1 p2 p3 p4 p5 p6 p7 q : Option Value} (hp : gw1 p7 = true) (d : dc m pc (.astore 8) 2) (h : WP m (pc + 2) (p0 :: p1 :: p2 :: p3 :: p4 :: p5 :: p6 :: p7 :: some (.ref a) :: T) rest M z k n Φ) : WP m pc (p0 :: p1 :: p2 :: p3 :: p4 :: p5 :: p6 :: p7 :: q :: T) (.ref a :: rest) M z k n Φ := g_astore d (by show 8 < List.length _; simp) (fun a h => by have h2 : some p7 = some a := h.2; cases h2; exact hp) rfl h
theorem g_astore_9 {p0 p1 p2 p3 p4 p5 p6 p7 p8 q : Option Value} (hp : gw1 p8 = true) (d : dc m pc (.astore 9) 2) (h : WP m (pc + 2) (p0 :: p1 :: p2 :: p3 :: p4 :: p5 :: p6 :: p7 :: p8 :: some (.ref a) :: T) rest M z k n Φ) : WP m pc (p0 :: p1 :: p2 :: p3 :: p4 :: p5 :: p6 :: p7 :: p8 :: q :: T) (.ref a :: rest) M z k n Φ := g_astore d (by show 9 < List.length _; simp) (fun a h => by have h2 : some p8 = some a := h.2; cases h2; exact hp) rfl h
theorem g_astore_0N {q : Option Value} (d : dc m pc (.astore_n 0) 1) (h : WP m (pc + 1) (some (.null) :: T) rest M z k n Φ) : WP m pc (q :: T) (.null :: rest) M z k n Φ := g_astore_nN d (by show 0 < List.length _; simp) (fun a h => absurd rfl h.1) rfl h
theorem g_astore_1N {p0 q : Option Value} (hp : gw1 p0 = true) (d : dc m pc (.astore_n 1) 1) (h : WP m (pc + 1) (p0 :: some (.null) :: T) rest M z k n Φ) : WP m pc (p0 :: q :: T) (.null :: rest) M z k n Φ := g_astore_nN d (by show 1 < List.length _; simp) (fun a h => by have h2 : some p0 = some a := h.2; cases h2; exact hp) rfl h
theorem g_astore_2N {p0 p1 q : Option Value} (hp : gw1 p1 = true) (d : dc m pc (.astore_n 2) 1) (h : WP m (pc + 1) (p0 :: p1 :: some (.null) :: T) rest M z k n Φ) : WP m pc (p0 :: p1 :: q :: T) (.null :: rest) M z k n Φ := g_astore_nN d (by show 2 < List.length _; simp) (fun a h => by have h2 : some p1 = some a := h.2; cases h2; exact hp) rfl h
theorem g_astore_3N {p0 p1 p2 q : Option Value} (hp : gw1 p2 = true) (d : dc m pc (.astore_n 3) 1) (h : WP m (pc + 1) (p0 :: p1 :: p2 :: some (.null) :: T) rest M z k n Φ) : WP m pc (p0 :: p1 :: p2 :: q :: T) (.null :: rest) M z k n Φ := g_astore_nN d (by show 3 < List.length _; simp) (fun a h => by have h2 : some p2 = some a := h.2; cases h2; exact hp) rfl h
theorem g_astore_4N {p0 p1 p2 p3 q : Option Value} (hp : gw1 p3 = true) (d : dc m pc (.astore 4) 2) (h : WP m (pc + 2) (p0 :: p1 :: p2 :: p3 :: some (.null) :: T) rest M z k n Φ) : WP m pc (p0 :: p1 :: p2 :: p3 :: q :: T) (.null :: rest) M z k n Φ := g_astoreN d (by show 4 < List.length _; simp) (fun a h => by have h2 : some p3 = some a := h.2; cases h2; exact hp) rfl h
theorem g_astore_5N {p0 p1 p2 p3 p4 q : Option Value} (hp : gw1 p4 = true) (d : dc m pc (.astore 5) 2) (h : WP m (pc + 2) (p0 :: p1 :: p2 :: p3 :: p4 :: some (.null) :: T) rest M z k n Φ) : WP m pc (p0 :: p1 :: p2 :: p3 :: p4 :: q :: T) (.null :: rest) M z k n Φ := g_astoreN d (by show 5 < List.length _; simp) (fun a h => by have h2 : some p4 = some a := h.2; cases h2; exact hp) rfl h
theorem g_astore_6N {p0 p1 p2 p3 p4 p5 q : Option Value} (hp : gw1 p5 = true) (d : dc m pc (.astore 6) 2) (h : WP m (pc + 2) (p0 :: p1 :: p2 :: p3 :: p4 :: p5 :: some (.null) :: T) rest M z k n Φ) : WP m pc (p0 :: p1 :: p2 :: p3 :: p4 :: p5 :: q :: T) (.null :: rest) M z k n Φ := g_astoreN d (by show 6 < List.length _; simp) (fun a h => by have h2 : some p5 = some a := h.2; cases h2; exact hp) rfl h
theorem g_astore_7N {p0 p1 p2 p3 p4 p5 p6 q : Option Value} (hp : gw1 p6 = true) (d : dc m pc (.astore 7) 2) (h : WP m (pc + 2) (p0 :: p1 :: p2 :: p3 :: p4 :: p5 :: p6 :: some (.null) :: T) rest M z k n Φ) : WP m pc (p0 :: p1 :: p2 :: p3 :: p4 :: p5 :: p6 :: q :: T) (.null :: rest) M z k n Φ := g_astoreN d (by show 7 < List.length _; simp) (fun a h => by have h2 : some p6 = some a := h.2; cases h2; exact hp) rfl h
theorem g_astore_8N {p0 p1 p2 p3 p4 p5 p6 p7 q : Option Value} (hp : gw1 p7 = true) (d : dc m pc (.astore 8) 2) (h : WP m (pc + 2) (p0 :: p1 :: p2 :: p3 :: p4 :: p5 :: p6 :: p7 :: some (.null) :: T) rest M z k n Φ) : WP m pc (p0 :: p1 :: p2 :: p3 :: p4 :: p5 :: p6 :: p7 :: q :: T) (.null :: rest) M z k n Φ := g_astoreN d (by show 8 < List.length _; simp) (fun a h => by have h2 : some p7 = some a := h.2; cases h2; exact hp) rfl h
theorem g_astore_9N {p0 p1 p2 p3 p4 p5 p6 p7 p8 q : Option Value} (hp : gw1 p8 = true) (d : dc m pc (.astore 9) 2) (h : WP m (pc + 2) (p0 :: p1 :: p2 :: p3 :: p4 :: p5 :: p6 :: p7 :: p8 :: some (.null) :: T) rest M z k n Φ) : WP m pc (p0 :: p1 :: p2 :: p3 :: p4 :: p5 :: p6 :: p7 :: p8 :: q :: T) (.null :: rest) M z k n Φ := g_astoreN d (by show 9 < List.length _; simp) (fun a h => by have h2 : some p8 = some a := h.2; cases h2; exact hp) rfl h
theorem g_lstore_0 {q q2 : Option Value} (d : dc m pc (.lstore_n 0) 1) (h : WP m (pc + 1) (some (.long xl) :: none :: T) rest M z k n Φ) : WP m pc (q :: q2 :: T) (.long xl :: rest) M z k n Φ := g_lstore_n d (by show 0 + 1 < List.length _; simp) (fun a h => absurd rfl h.1) rfl h
theorem g_lstore_1 {p0 q q2 : Option Value} (hp : gw1 p0 = true) (d : dc m pc (.lstore_n 1) 1) (h : WP m (pc + 1) (p0 :: some (.long xl) :: none :: T) rest M z k n Φ) : WP m pc (p0 :: q :: q2 :: T) (.long xl :: rest) M z k n Φ := g_lstore_n d (by show 1 + 1 < List.length _; simp) (fun a h => by have h2 : some p0 = some a := h.2; cases h2; exact hp) rfl h
theorem g_lstore_2 {p0 p1 q q2 : Option Value} (hp : gw1 p1 = true) (d : dc m pc (.lstore_n 2) 1) (h : WP m (pc + 1) (p0 :: p1 :: some (.long xl) :: none :: T) rest M z k n Φ) : WP m pc (p0 :: p1 :: q :: q2 :: T) (.long xl :: rest) M z k n Φ := g_lstore_n d (by show 2 + 1 < List.length _; simp) (fun a h => by have h2 : some p1 = some a := h.2; cases h2; exact hp) rfl h
theorem g_lstore_3 {p0 p1 p2 q q2 : Option Value} (hp : gw1 p2 = true) (d : dc m pc (.lstore_n 3) 1) (h : WP m (pc + 1) (p0 :: p1 :: p2 :: some (.long xl) :: none :: T) rest M z k n Φ) : WP m pc (p0 :: p1 :: p2 :: q :: q2 :: T) (.long xl :: rest) M z k n Φ := g_lstore_n d (by show 3 + 1 < List.length _; simp) (fun a h => by have h2 : some p2 = some a := h.2; cases h2; exact hp) rfl h
theorem g_lstore_4 {p0 p1 p2 p3 q q2 : Option Value} (hp : gw1 p3 = true) (d : dc m pc (.lstore 4) 2) (h : WP m (pc + 2) (p0 :: p1 :: p2 :: p3 :: some (.long xl) :: none :: T) rest M z k n Φ) : WP m pc (p0 :: p1 :: p2 :: p3 :: q :: q2 :: T) (.long xl :: rest) M z k n Φ := g_lstore d (by show 4 + 1 < List.length _; simp) (fun a h => by have h2 : some p3 = some a := h.2; cases h2; exact hp) rfl h
theorem g_dstore_4 {p0 p1 p2 p3 q q2 : Option Value} {u : UInt64} (hp : gw1 p3 = true) (d : dc m pc (.dstore 4) 2) (h : WP m (pc + 2) (p0 :: p1 :: p2 :: p3 :: some (.double u) :: none :: T) rest M z k n Φ) : WP m pc (p0 :: p1 :: p2 :: p3 :: q :: q2 :: T) (.double u :: rest) M z k n Φ := g_dstore d (by show 4 + 1 < List.length _; simp) (fun a h => by have h2 : some p3 = some a := h.2; cases h2; exact hp) rfl h
theorem g_lstore_5 {p0 p1 p2 p3 p4 q q2 : Option Value} (hp : gw1 p4 = true) (d : dc m pc (.lstore 5) 2) (h : WP m (pc + 2) (p0 :: p1 :: p2 :: p3 :: p4 :: some (.long xl) :: none :: T) rest M z k n Φ) : WP m pc (p0 :: p1 :: p2 :: p3 :: p4 :: q :: q2 :: T) (.long xl :: rest) M z k n Φ := g_lstore d (by show 5 + 1 < List.length _; simp) (fun a h => by have h2 : some p4 = some a := h.2; cases h2; exact hp) rfl h
theorem g_dstore_5 {p0 p1 p2 p3 p4 q q2 : Option Value} {u : UInt64} (hp : gw1 p4 = true) (d : dc m pc (.dstore 5) 2) (h : WP m (pc + 2) (p0 :: p1 :: p2 :: p3 :: p4 :: some (.double u) :: none :: T) rest M z k n Φ) : WP m pc (p0 :: p1 :: p2 :: p3 :: p4 :: q :: q2 :: T) (.double u :: rest) M z k n Φ := g_dstore d (by show 5 + 1 < List.length _; simp) (fun a h => by have h2 : some p4 = some a := h.2; cases h2; exact hp) rfl h
theorem g_lstore_6 {p0 p1 p2 p3 p4 p5 q q2 : Option Value} (hp : gw1 p5 = true) (d : dc m pc (.lstore 6) 2) (h : WP m (pc + 2) (p0 :: p1 :: p2 :: p3 :: p4 :: p5 :: some (.long xl) :: none :: T) rest M z k n Φ) : WP m pc (p0 :: p1 :: p2 :: p3 :: p4 :: p5 :: q :: q2 :: T) (.long xl :: rest) M z k n Φ := g_lstore d (by show 6 + 1 < List.length _; simp) (fun a h => by have h2 : some p5 = some a := h.2; cases h2; exact hp) rfl h
theorem g_dstore_6 {p0 p1 p2 p3 p4 p5 q q2 : Option Value} {u : UInt64} (hp : gw1 p5 = true) (d : dc m pc (.dstore 6) 2) (h : WP m (pc + 2) (p0 :: p1 :: p2 :: p3 :: p4 :: p5 :: some (.double u) :: none :: T) rest M z k n Φ) : WP m pc (p0 :: p1 :: p2 :: p3 :: p4 :: p5 :: q :: q2 :: T) (.double u :: rest) M z k n Φ := g_dstore d (by show 6 + 1 < List.length _; simp) (fun a h => by have h2 : some p5 = some a := h.2; cases h2; exact hp) rfl h
theorem g_lstore_7 {p0 p1 p2 p3 p4 p5 p6 q q2 : Option Value} (hp : gw1 p6 = true) (d : dc m pc (.lstore 7) 2) (h : WP m (pc + 2) (p0 :: p1 :: p2 :: p3 :: p4 :: p5 :: p6 :: some (.long xl) :: none :: T) rest M z k n Φ) : WP m pc (p0 :: p1 :: p2 :: p3 :: p4 :: p5 :: p6 :: q :: q2 :: T) (.long xl :: rest) M z k n Φ := g_lstore d (by show 7 + 1 < List.length _; simp) (fun a h => by have h2 : some p6 = some a := h.2; cases h2; exact hp) rfl h
theorem g_dstore_7 {p0 p1 p2 p3 p4 p5 p6 q q2 : Option Value} {u : UInt64} (hp : gw1 p6 = true) (d : dc m pc (.dstore 7) 2) (h : WP m (pc + 2) (p0 :: p1 :: p2 :: p3 :: p4 :: p5 :: p6 :: some (.double u) :: none :: T) rest M z k n Φ) : WP m pc (p0 :: p1 :: p2 :: p3 :: p4 :: p5 :: p6 :: q :: q2 :: T) (.double u :: rest) M z k n Φ := g_dstore d (by show 7 + 1 < List.length _; simp) (fun a h => by have h2 : some p6 = some a := h.2; cases h2; exact hp) rfl h
theorem g_lstore_8 {p0 p1 p2 p3 p4 p5 p6 p7 q q2 : Option Value} (hp : gw1 p7 = true) (d : dc m pc (.lstore 8) 2) (h : WP m (pc + 2) (p0 :: p1 :: p2 :: p3 :: p4 :: p5 :: p6 :: p7 :: some (.long xl) :: none :: T) rest M z k n Φ) : WP m pc (p0 :: p1 :: p2 :: p3 :: p4 :: p5 :: p6 :: p7 :: q :: q2 :: T) (.long xl :: rest) M z k n Φ := g_lstore d (by show 8 + 1 < List.length _; simp) (fun a h => by have h2 : some p7 = some a := h.2; cases h2; exact hp) rfl h
theorem g_dstore_8 {p0 p1 p2 p3 p4 p5 p6 p7 q q2 : Option Value} {u : UInt64} (hp : gw1 p7 = true) (d : dc m pc (.dstore 8) 2) (h : WP m (pc + 2) (p0 :: p1 :: p2 :: p3 :: p4 :: p5 :: p6 :: p7 :: some (.double u) :: none :: T) rest M z k n Φ) : WP m pc (p0 :: p1 :: p2 :: p3 :: p4 :: p5 :: p6 :: p7 :: q :: q2 :: T) (.double u :: rest) M z k n Φ := g_dstore d (by show 8 + 1 < List.length _; simp) (fun a h => by have h2 : some p7 = some a := h.2; cases h2; exact hp) rfl h
theorem g_iinc_0 {q : Int} (d : dc m pc (.iinc 0 q) 3) (hv : Int32.ofInt q = y) (h : WP m (pc + 3) (some (.int (x + y)) :: T) rest M z k n Φ) : WP m pc (some (.int x) :: T) rest M z k n Φ := g_iinc d rfl (fun a h => absurd rfl h.1) hv rfl h
theorem g_iinc_1 {p0 : Option Value} {q : Int} (hp : gw1 p0 = true) (d : dc m pc (.iinc 1 q) 3) (hv : Int32.ofInt q = y) (h : WP m (pc + 3) (p0 :: some (.int (x + y)) :: T) rest M z k n Φ) : WP m pc (p0 :: some (.int x) :: T) rest M z k n Φ := g_iinc d rfl (fun a h => by have h2 : some p0 = some a := h.2; cases h2; exact hp) hv rfl h
theorem g_iinc_2 {p0 p1 : Option Value} {q : Int} (hp : gw1 p1 = true) (d : dc m pc (.iinc 2 q) 3) (hv : Int32.ofInt q = y) (h : WP m (pc + 3) (p0 :: p1 :: some (.int (x + y)) :: T) rest M z k n Φ) : WP m pc (p0 :: p1 :: some (.int x) :: T) rest M z k n Φ := g_iinc d rfl (fun a h => by have h2 : some p1 = some a := h.2; cases h2; exact hp) hv rfl h
theorem g_iinc_3 {p0 p1 p2 : Option Value} {q : Int} (hp : gw1 p2 = true) (d : dc m pc (.iinc 3 q) 3) (hv : Int32.ofInt q = y) (h : WP m (pc + 3) (p0 :: p1 :: p2 :: some (.int (x + y)) :: T) rest M z k n Φ) : WP m pc (p0 :: p1 :: p2 :: some (.int x) :: T) rest M z k n Φ := g_iinc d rfl (fun a h => by have h2 : some p2 = some a := h.2; cases h2; exact hp) hv rfl h
theorem g_iinc_4 {p0 p1 p2 p3 : Option Value} {q : Int} (hp : gw1 p3 = true) (d : dc m pc (.iinc 4 q) 3) (hv : Int32.ofInt q = y) (h : WP m (pc + 3) (p0 :: p1 :: p2 :: p3 :: some (.int (x + y)) :: T) rest M z k n Φ) : WP m pc (p0 :: p1 :: p2 :: p3 :: some (.int x) :: T) rest M z k n Φ := g_iinc d rfl (fun a h => by have h2 : some p3 = some a := h.2; cases h2; exact hp) hv rfl h
theorem g_iinc_5 {p0 p1 p2 p3 p4 : Option Value} {q : Int} (hp : gw1 p4 = true) (d : dc m pc (.iinc 5 q) 3) (hv : Int32.ofInt q = y) (h : WP m (pc + 3) (p0 :: p1 :: p2 :: p3 :: p4 :: some (.int (x + y)) :: T) rest M z k n Φ) : WP m pc (p0 :: p1 :: p2 :: p3 :: p4 :: some (.int x) :: T) rest M z k n Φ := g_iinc d rfl (fun a h => by have h2 : some p4 = some a := h.2; cases h2; exact hp) hv rfl h
theorem g_iinc_6 {p0 p1 p2 p3 p4 p5 : Option Value} {q : Int} (hp : gw1 p5 = true) (d : dc m pc (.iinc 6 q) 3) (hv : Int32.ofInt q = y) (h : WP m (pc + 3) (p0 :: p1 :: p2 :: p3 :: p4 :: p5 :: some (.int (x + y)) :: T) rest M z k n Φ) : WP m pc (p0 :: p1 :: p2 :: p3 :: p4 :: p5 :: some (.int x) :: T) rest M z k n Φ := g_iinc d rfl (fun a h => by have h2 : some p5 = some a := h.2; cases h2; exact hp) hv rfl h
theorem g_iinc_7 {p0 p1 p2 p3 p4 p5 p6 : Option Value} {q : Int} (hp : gw1 p6 = true) (d : dc m pc (.iinc 7 q) 3) (hv : Int32.ofInt q = y) (h : WP m (pc + 3) (p0 :: p1 :: p2 :: p3 :: p4 :: p5 :: p6 :: some (.int (x + y)) :: T) rest M z k n Φ) : WP m pc (p0 :: p1 :: p2 :: p3 :: p4 :: p5 :: p6 :: some (.int x) :: T) rest M z k n Φ := g_iinc d rfl (fun a h => by have h2 : some p6 = some a := h.2; cases h2; exact hp) hv rfl h
theorem g_iinc_8 {p0 p1 p2 p3 p4 p5 p6 p7 : Option Value} {q : Int} (hp : gw1 p7 = true) (d : dc m pc (.iinc 8 q) 3) (hv : Int32.ofInt q = y) (h : WP m (pc + 3) (p0 :: p1 :: p2 :: p3 :: p4 :: p5 :: p6 :: p7 :: some (.int (x + y)) :: T) rest M z k n Φ) : WP m pc (p0 :: p1 :: p2 :: p3 :: p4 :: p5 :: p6 :: p7 :: some (.int x) :: T) rest M z k n Φ := g_iinc d rfl (fun a h => by have h2 : some p7 = some a := h.2; cases h2; exact hp) hv rfl h
theorem g_iinc_9 {p0 p1 p2 p3 p4 p5 p6 p7 p8 : Option Value} {q : Int} (hp : gw1 p8 = true) (d : dc m pc (.iinc 9 q) 3) (hv : Int32.ofInt q = y) (h : WP m (pc + 3) (p0 :: p1 :: p2 :: p3 :: p4 :: p5 :: p6 :: p7 :: p8 :: some (.int (x + y)) :: T) rest M z k n Φ) : WP m pc (p0 :: p1 :: p2 :: p3 :: p4 :: p5 :: p6 :: p7 :: p8 :: some (.int x) :: T) rest M z k n Φ := g_iinc d rfl (fun a h => by have h2 : some p8 = some a := h.2; cases h2; exact hp) hv rfl h
theorem g_ireturn {ty : FieldType} (hr : gr m = some ty) (hnr : narrow ty (.int x) = .int x) (d : dc m pc .ireturn 1) (hk : k ≤ gce m) (hn : n ≤ gsl m) (hΦ : Φ (.inl (some (.int x))) M z) : WP m pc L [.int x] M z k n Φ := by
  intro D dA base p l e s mid args below meth c C H locs ls hR hS hL
  obtain ⟨hx, hb, hml, hown, hts, hlocks, hl, hname, hret, hT, hG, hbase, htab⟩ := C
  refine W.widen hk hn (vx_ret ?_)
  exact W.zret hx hb (hret.trans hr) hnr (fun t ht hW => ⟨⟨_, M, z, rfl, hΦ, by rw [ht]; exact hR⟩, va_S.F hS ht⟩) (fun q hq => hS.2.2 q hq) d hlocks
theorem g_return (hr : gr m = none) (d : dc m pc .return_ 1) (hk : k ≤ gce m) (hn : n ≤ gsl m) (hΦ : Φ (.inl none) M z) : WP m pc L [] M z k n Φ := by
  intro D dA base p l e s mid args below meth c C H locs ls hR hS hL
  obtain ⟨hx, hb, hml, hown, hts, hlocks, hl, hname, hret, hT, hG, hbase, htab⟩ := C
  refine W.widen hk hn (vx_ret ?_)
  exact W.vret hx hb (hret.trans hr) (fun t ht hW => ⟨⟨_, M, z, rfl, hΦ, by rw [ht]; exact hR⟩, va_S.F hS ht⟩) (fun q hq => hS.2.2 q hq) d hlocks
theorem g_areturn {ty : String} (hr : gr m = some (.object ty)) (d : dc m pc .areturn 1) (hk : k ≤ gce m) (hn : n ≤ gsl m) (hΦ : Φ (.inl (some (.ref a))) M z) : WP m pc L [.ref a] M z k n Φ := by
  intro D dA base p l e s mid args below meth c C H locs ls hR hS hL
  obtain ⟨hx, hb, hml, hown, hts, hlocks, hl, hname, hret, hT, hG, hbase, htab⟩ := C
  refine W.widen hk hn (vx_ret ?_)
  exact W.aret hx hb (hret.trans hr) (Or.inl ⟨ty, rfl⟩) (Or.inr ⟨a, rfl⟩) (fun t ht hW => ⟨⟨_, M, z, rfl, hΦ, by rw [ht]; exact hR⟩, va_S.F hS ht⟩) (fun q hq => hS.2.2 q hq) d hlocks
theorem g_areturnN {ty : String} (hr : gr m = some (.object ty)) (d : dc m pc .areturn 1) (hk : k ≤ gce m) (hn : n ≤ gsl m) (hΦ : Φ (.inl (some .null)) M z) : WP m pc L [.null] M z k n Φ := by
  intro D dA base p l e s mid args below meth c C H locs ls hR hS hL
  obtain ⟨hx, hb, hml, hown, hts, hlocks, hl, hname, hret, hT, hG, hbase, htab⟩ := C
  refine W.widen hk hn (vx_ret ?_)
  exact W.aret hx hb (hret.trans hr) (Or.inl ⟨ty, rfl⟩) (Or.inl rfl) (fun t ht hW => ⟨⟨_, M, z, rfl, hΦ, by rw [ht]; exact hR⟩, va_S.F hS ht⟩) (fun q hq => hS.2.2 q hq) d hlocks
theorem g_freturn {u : UInt32} (hr : gr m = some .float) (d : dc m pc .freturn 1) (hk : k ≤ gce m) (hn : n ≤ gsl m) (hΦ : Φ (.inl (some (.float u))) M z) : WP m pc L [.float u] M z k n Φ := by
  intro D dA base p l e s mid args below meth c C H locs ls hR hS hL
  obtain ⟨hx, hb, hml, hown, hts, hlocks, hl, hname, hret, hT, hG, hbase, htab⟩ := C
  refine W.widen hk hn (vx_ret ?_)
  exact W.fret hx hb (hret.trans hr) (fun t ht hW => ⟨⟨_, M, z, rfl, hΦ, by rw [ht]; exact hR⟩, va_S.F hS ht⟩) (fun q hq => hS.2.2 q hq) d hlocks
theorem g_dreturn {u : UInt64} (hr : gr m = some .double) (d : dc m pc .dreturn 1) (hk : k ≤ gce m) (hn : n ≤ gsl m) (hΦ : Φ (.inl (some (.double u))) M z) : WP m pc L [.double u] M z k n Φ := by
  intro D dA base p l e s mid args below meth c C H locs ls hR hS hL
  obtain ⟨hx, hb, hml, hown, hts, hlocks, hl, hname, hret, hT, hG, hbase, htab⟩ := C
  refine W.widen hk hn (vx_ret ?_)
  exact W.dret hx hb (hret.trans hr) (fun t ht hW => ⟨⟨_, M, z, rfl, hΦ, by rw [ht]; exact hR⟩, va_S.F hS ht⟩) (fun q hq => hS.2.2 q hq) d hlocks
end ROWS
end
section
section HEAP
variable {m m' : GM} {pc z k n idx : Nat} {L : List (Option Value)} {rest : List Value} {M : Hp} {Φ : GR → Hp → Nat → Prop} {x y v : Int32} {a ci fk N : Nat} {fs : List Value} {w : Value}
/-- a field's link: the class of kind ci, its field fk, of type ty, final or not -/
def gFL (m : GM) (idx ci fk : Nat) (ty : FieldType) (fin : Bool) : Prop := ∃ (C : String) (T : u_T) (N : Nat) (t0 : Nat → FieldType), vwCl[ci]? = some (C, T, N) ∧ fk < N ∧ (T fk).1 = C ∧ (∀ w ∈ u_ws C T N, w ∈ gW) ∧ (∀ k, k < N → parseFieldDescriptor (T k).2.2.1 = some (t0 k)) ∧ (∀ a, a < N → ∀ b, b < N → a ≠ b → (T a).2.1 ≠ (T b).2.1) ∧ t0 fk = ty ∧ (T fk).2.2.2 = fin ∧
  ((Cond.fieldLink (gy m).cls idx C (T fk).2.1 (T fk).2.2.1 ∈ gW ∧ (fin = true → C = (gy m).cls)) ∨ (fin = false ∨ True) ∧ ∃ host, Cond.fieldLinkNest (gy m).cls idx C (T fk).2.1 (T fk).2.2.1 host ∈ gN)
theorem gAt_P {D : va_G} {dA : Nat → ClassId} {base : Nat} {H : Heap} (hR : GRep D dA base z M H) (ho : M a = some (.inr (ci, fs))) : va_P D vwCl [(a, .inr (ci, fs))] H := by
  intro k q hk
  cases k with
  | zero => simp at hk; subst hk; exact (hR.2 a _ ho).1
  | succ k => simp at hk
theorem g_get {ty : FieldType} {fin : Bool} (d : dc m pc (.getfield idx) 3) (lk : gFL m idx ci fk ty fin) (ho : M a = some (.inr (ci, fs))) (hv : fs[fk]? = some w) (h : WP m (pc + 3) L (w :: rest) M z k n Φ) : WP m pc L (.ref a :: rest) M z k n Φ := by
  intro D dA base p l e s mid args below meth c C H locs ls hR hS hL
  obtain ⟨Cn, T, N, t0, hc, hk, hC, hw, -, -, -, -, hl⟩ := lk
  have hT := C.2.2.2.2.2.2.2.2.2.1
  rcases hl with ⟨hl, -⟩ | ⟨-, host, hl⟩
  · exact va_get (own := (gy m).cls) (ref := Cn) C.1 C.2.1 C.2.2.2.2.1 hw C.2.2.2.1 hT.1 (gAt_P hR ho) 0 rfl hc fk hk (C.2.2.2.2.1 _ hl) (by rw [hC]; exact fun _ h => h) hv d (h D dA base p l e s mid args below meth c C H locs ls hR hS hL)
  · exact va_getN (own := (gy m).cls) (ref := Cn) C.1 C.2.1 C.2.2.2.2.1 hw C.2.2.2.1 hT.1 (gAt_P hR ho) 0 rfl hc fk hk (va_Nw.use rfl (hT.2.2.1 _ hl)) (by rw [hC]; exact fun _ h => h) hv d (h D dA base p l e s mid args below meth c C H locs ls hR hS hL)
theorem va_S_put {base : Nat} {H0 H H1 : Heap} {locs : List Loc} {a j : Nat} (h : va_S (gA base) H0 H locs) (z : H1.size = H.size) (oq : ∀ q : Nat, q ≠ a → H1[q]? = H[q]?) (ha : base ≤ a) : va_S (gA base) H0 H1 (locs ++ [⟨a, j⟩]) := h.put z oq ha
theorem g_put {ty : FieldType} {fs' : List Value} (d : dc m pc (.putfield idx) 3) (lk : gFL m idx ci fk ty false) (ho : M a = some (.inr (ci, fs))) (hn : narrow ty w = w) (hf : fits ty w = true) (hlt : fk < fs.length) (hfs : fs.set fk w = fs') (h : WP m (pc + 3) L rest (hpu M a (.inr (ci, fs'))) z k n Φ) : WP m pc L (w :: .ref a :: rest) M z k n Φ := by
  intro D dA base p l e s mid args below meth c C H locs ls hR hS hL
  subst hfs
  obtain ⟨Cn, T, N, t0, hc, hk, hC, hin, hty, hnm, ht0, hfin, hl⟩ := lk
  have hT := C.2.2.2.2.2.2.2.2.2.1
  have hK := hT.1
  have hts := C.2.2.2.2.1
  have hown := C.2.2.2.1
  have hap := va_apart (own := (gy m).cls) hts hin t0 hty hnm hK hc
  obtain ⟨r, h1, cell, q1, q2, q3, q4⟩ := (hR.2 a _ ho).1
  have hr : r = (Cn, T, N) := Option.some.inj (h1.symm.trans hc)
  subst hr
  obtain ⟨hSl, hfc, kC, hkC, hkind⟩ := hK.1 ci _ hc
  obtain ⟨cf, kf, fi, f, hi, hsl⟩ := hSl fk hk
  have hlay := hts _ (hin _ (u_in_lay hk))
  unfold u_lay at hlay
  rw [if_neg (by rw [hfin]; decide)] at hlay
  have hst := (u_facts hfc hkC (u_lays hts hin hk) hi).1
  have h6 := u_store hfc hkC hkind hlay hi (by rw [hty fk hk, ht0]) hn hf
  have hba := (hR.2 a _ ho).2 rfl
  have fin : ∀ H' : Heap, H'[a]? = some (cell.setSlot (D.2 ci fk) w) → H'.size = H.size → (∀ q, q ≠ a → H'[q]? = H[q]?) → W p l e (grm m) s mid args below meth c H' (locs ++ [⟨a, D.2 ci fk⟩]) k n (vx_MQ below (gQ Φ D dA base) (gX Φ D dA base) args s (gce m) (gsl m) (gA base)) (F0 mid (pc + 3) ls rest) := by
    intro H' e1 e2 e3
    refine h D dA base p l e s mid args below meth c C H' _ ls (hR.put ho rfl ?_ e2 e3) (va_S_put hS e2 e3 hba) hL
    exact ⟨_, hc, t_OB.to (V := updV (vp_V fs) fk w) ⟨_, e1, q2, q3, t_set q4 hap hk w⟩ (fun j _ => vp_updV_set hlt w j)⟩
  rcases hl with ⟨hl, -⟩ | ⟨-, host, hl⟩
  · refine W.putK C.1 C.2.1 (f := f) ⟨hown, hts _ hl, ⟨_, _, _, by rw [← hC]; exact hi⟩, hst⟩ (by rw [q2]; exact h6) q1 q3 (by rw [hsl]; exact k2_hasslot (q4 fk hk)) rfl rfl d fun H' e1 e2 e3 => ?_
    rw [hsl] at e1 ⊢
    exact fin H' e1 e2 e3
  · refine va_WputK C.1 C.2.1 (f := f) hown (va_Nw.use rfl (hT.2.2.1 _ hl)) (by rw [← hC]; exact hi) hst (by rw [q2]; exact h6) q1 q3 (by rw [hsl]; exact k2_hasslot (q4 fk hk)) rfl rfl d fun H' e1 e2 e3 => ?_
    rw [hsl] at e1 ⊢
    exact fin H' e1 e2 e3
theorem g_putF {ty : FieldType} {fs' : List Value} (d : dc m pc (.putfield idx) 3) (lk : gFL m idx ci fk ty true) (hini : (gy m).name = "<init>") (hnn : ∀ host C n d, Cond.fieldLinkNest (gy m).cls idx C n d host ∉ gN) (ho : M a = some (.inr (ci, fs))) (hn : narrow ty w = w) (hf : fits ty w = true) (hlt : fk < fs.length) (hfs : fs.set fk w = fs') (h : WP m (pc + 3) L rest (hpu M a (.inr (ci, fs'))) z k n Φ) : WP m pc L (w :: .ref a :: rest) M z k n Φ := by
  intro D dA base p l e s mid args below meth c C H locs ls hR hS hL
  subst hfs
  obtain ⟨Cn, T, N, t0, hc, hk, hC, hin, hty, hnm, ht0, hfin, hl⟩ := lk
  have hT := C.2.2.2.2.2.2.2.2.2.1
  have hname := C.2.2.2.2.2.2.2.1
  have hK := hT.1
  have hts := C.2.2.2.2.1
  have hown := C.2.2.2.1
  have hap := va_apart (own := (gy m).cls) hts hin t0 hty hnm hK hc
  obtain ⟨r, h1, cell, q1, q2, q3, q4⟩ := (hR.2 a _ ho).1
  have hr : r = (Cn, T, N) := Option.some.inj (h1.symm.trans hc)
  subst hr
  obtain ⟨hSl, hfc, kC, hkC, hkind⟩ := hK.1 ci _ hc
  obtain ⟨cf, kf, fi, f, hi, hsl⟩ := hSl fk hk
  have hlay := hts _ (hin _ (u_in_lay hk))
  unfold u_lay at hlay
  rw [if_pos hfin] at hlay
  have hst := (u_facts hfc hkC (u_lays hts hin hk) hi).1
  have hba := (hR.2 a _ ho).2 rfl
  rcases hl with ⟨hl, hCo⟩ | ⟨-, host, hl⟩
  · have hcf : mid.cls = cf := by
      obtain ⟨_, _, c', _, _, _, -, -, hf', -, -, -, hown2, -⟩ := Cond.laysFinal_spec hlay
      have e1 : c' = cf := by have := hi.symm.trans hf'; simp at this; exact this.1.symm
      rw [hC, hCo rfl] at hown2
      rw [← e1]; exact Option.some.inj (hown.symm.trans hown2)
    have h6 := u_fits hfc hkC hkind (Or.inr hlay) hi (by rw [hty fk hk, ht0]) hn hf
    refine W.putFinK C.1 C.2.1 hown (hts _ hl) (by rw [← hC]; exact hi) hst hcf (hname.trans hini) (by rw [q2]; exact h6) q1 q3 (by rw [hsl]; exact k2_hasslot (q4 fk hk)) rfl rfl d fun H' e1 e2 e3 => ?_
    rw [hsl] at e1 ⊢
    refine h D dA base p l e s mid args below meth c C H' _ ls (hR.put ho rfl ?_ e2 e3) (va_S_put hS e2 e3 hba) hL
    exact ⟨_, hc, t_OB.to (V := updV (vp_V fs) fk w) ⟨_, e1, q2, q3, t_set q4 hap hk w⟩ (fun j _ => vp_updV_set hlt w j)⟩
  · exact absurd hl (hnn host _ _ _)
/-! arrays -/
theorem gArr {D : va_G} {dA : Nat → ClassId} {U : State} (h : GT D dA U) (kd : Nat) (hk : kd < 6) : ArrOfT U (dA kd) (gty kd) ∧ va_RA U (dA kd) (gty kd) := by
  have h1 := h.1.2
  match kd, hk with
  | 0, _ => exact h1 0 _ rfl
  | 1, _ => exact h1 1 _ rfl
  | 2, _ => exact h1 2 _ rfl
  | 3, _ => exact h1 3 _ rfl
  | 4, _ => exact h1 4 _ rfl
  | 5, _ => exact h1 5 _ rfl
theorem gin {x : Int32} {N : Nat} (h : ¬ (x < 0 ∨ N ≤ x.toNatClampNeg)) : x.toNatClampNeg < N := Nat.not_le.mp fun q => h (Or.inr q)
theorem g_iald {f : Nat → Int32} (d : dc m pc .iaload 1) (ho : M a = some (aI N f)) (hin : ¬ (x < 0 ∨ N ≤ x.toNatClampNeg)) (h : WP m (pc + 1) L (.int (f x.toNatClampNeg) :: rest) M z k n Φ) : WP m pc L (.int x :: .ref a :: rest) M z k n Φ := by
  intro D dA base p l e s mid args below meth c C H locs ls hR hS hL
  have hT := C.2.2.2.2.2.2.2.2.2.1
  have hc := gAt.arr (by decide) (hR.2 a _ ho).1
  exact W.iald (v := .int (f x.toNatClampNeg)) C.1 C.2.1 hc ((gArr hT 0 (by decide)).1 N (fun j => .int (f j))) (fun q => by cases q) (by show ¬ (x < 0 ∨ (arrV _ _ _).slots.size ≤ _); rw [arrV_size]; exact hin) (by show (arrV _ _ _).slots[_]? = _; rw [arrV_read _ _ (gin hin)]) rfl rfl d (h D dA base p l e s mid args below meth c C H locs ls hR hS hL)
theorem g_cald {f : Nat → Int32} (d : dc m pc .caload 1) (ho : M a = some (aC N f)) (hin : ¬ (x < 0 ∨ N ≤ x.toNatClampNeg)) (h : WP m (pc + 1) L (.int (f x.toNatClampNeg) :: rest) M z k n Φ) : WP m pc L (.int x :: .ref a :: rest) M z k n Φ := by
  intro D dA base p l e s mid args below meth c C H locs ls hR hS hL
  have hT := C.2.2.2.2.2.2.2.2.2.1
  have hc := gAt.arr (by decide) (hR.2 a _ ho).1
  exact W.cald (v := .int (f x.toNatClampNeg)) C.1 C.2.1 hc ((gArr hT 1 (by decide)).1 N (fun j => .int (f j))) (fun q => by cases q) (by show ¬ (x < 0 ∨ (arrV _ _ _).slots.size ≤ _); rw [arrV_size]; exact hin) (by show (arrV _ _ _).slots[_]? = _; rw [arrV_read _ _ (gin hin)]) rfl rfl d (h D dA base p l e s mid args below meth c C H locs ls hR hS hL)
theorem g_zald {f : Nat → Int32} (d : dc m pc .baload 1) (ho : M a = some (aZ N f)) (hin : ¬ (x < 0 ∨ N ≤ x.toNatClampNeg)) (h : WP m (pc + 1) L (.int (f x.toNatClampNeg) :: rest) M z k n Φ) : WP m pc L (.int x :: .ref a :: rest) M z k n Φ := by
  intro D dA base p l e s mid args below meth c C H locs ls hR hS hL
  have hT := C.2.2.2.2.2.2.2.2.2.1
  have hc := gAt.arr (by decide) (hR.2 a _ ho).1
  exact W.zald (v := .int (f x.toNatClampNeg)) C.1 C.2.1 hc ((gArr hT 2 (by decide)).1 N (fun j => .int (f j))) (fun q => by cases q) (by show ¬ (x < 0 ∨ (arrV _ _ _).slots.size ≤ _); rw [arrV_size]; exact hin) (by show (arrV _ _ _).slots[_]? = _; rw [arrV_read _ _ (gin hin)]) rfl rfl d (h D dA base p l e s mid args below meth c C H locs ls hR hS hL)
theorem g_lald {f : Nat → Int64} (d : dc m pc .laload 1) (ho : M a = some (aJ N f)) (hin : ¬ (x < 0 ∨ N ≤ x.toNatClampNeg)) (h : WP m (pc + 1) L (.long (f x.toNatClampNeg) :: rest) M z k n Φ) : WP m pc L (.int x :: .ref a :: rest) M z k n Φ := by
  intro D dA base p l e s mid args below meth c C H locs ls hR hS hL
  have hT := C.2.2.2.2.2.2.2.2.2.1
  have hc := gAt.arr (by decide) (hR.2 a _ ho).1
  exact W.lald (v := .long (f x.toNatClampNeg)) C.1 C.2.1 hc ((gArr hT 3 (by decide)).1 N (fun j => .long (f j))) (fun q => by cases q) (by show ¬ (x < 0 ∨ (arrV _ _ _).slots.size ≤ _); rw [arrV_size]; exact hin) (by show (arrV _ _ _).slots[_]? = _; rw [arrV_read _ _ (gin hin)]) rfl rfl d (h D dA base p l e s mid args below meth c C H locs ls hR hS hL)
theorem g_aaldR {f : Nat → Option Nat} (d : dc m pc .aaload 1) (ho : M a = some (aR N f)) (hin : ¬ (x < 0 ∨ N ≤ x.toNatClampNeg)) (h : WP m (pc + 1) L (va_rf (f x.toNatClampNeg) :: rest) M z k n Φ) : WP m pc L (.int x :: .ref a :: rest) M z k n Φ := by
  intro D dA base p l e s mid args below meth c C H locs ls hR hS hL
  have hT := C.2.2.2.2.2.2.2.2.2.1
  have hc := gAt.arr (by decide) (hR.2 a _ ho).1
  exact W.aald (v := va_rf (f x.toNatClampNeg)) C.1 C.2.1 hc ((gArr hT 4 (by decide)).1 N (fun j => va_rf (f j))) rfl (fun q => by cases q) (by show ¬ (x < 0 ∨ (arrV _ _ _).slots.size ≤ _); rw [arrV_size]; exact hin) (by show (arrV _ _ _).slots[_]? = _; rw [arrV_read _ _ (gin hin)]) rfl rfl d (h D dA base p l e s mid args below meth c C H locs ls hR hS hL)
theorem g_aaldS {f : Nat → Option Nat} (d : dc m pc .aaload 1) (ho : M a = some (aS N f)) (hin : ¬ (x < 0 ∨ N ≤ x.toNatClampNeg)) (h : WP m (pc + 1) L (va_rf (f x.toNatClampNeg) :: rest) M z k n Φ) : WP m pc L (.int x :: .ref a :: rest) M z k n Φ := by
  intro D dA base p l e s mid args below meth c C H locs ls hR hS hL
  have hT := C.2.2.2.2.2.2.2.2.2.1
  have hc := gAt.arr (by decide) (hR.2 a _ ho).1
  exact W.aald (v := va_rf (f x.toNatClampNeg)) C.1 C.2.1 hc ((gArr hT 5 (by decide)).1 N (fun j => va_rf (f j))) rfl (fun q => by cases q) (by show ¬ (x < 0 ∨ (arrV _ _ _).slots.size ≤ _); rw [arrV_size]; exact hin) (by show (arrV _ _ _).slots[_]? = _; rw [arrV_read _ _ (gin hin)]) rfl rfl d (h D dA base p l e s mid args below meth c C H locs ls hR hS hL)
theorem g_iast {f : Nat → Int32} (d : dc m pc .iastore 1) (ho : M a = some (aI N f)) (hin : ¬ (x < 0 ∨ N ≤ x.toNatClampNeg)) (h : WP m (pc + 1) L rest (hpu M a (aI N (upd f x.toNatClampNeg y))) z k n Φ) : WP m pc L (.int y :: .int x :: .ref a :: rest) M z k n Φ := by
  intro D dA base p l e s mid args below meth c C H locs ls hR hS hL
  have hT := C.2.2.2.2.2.2.2.2.2.1
  have hc := gAt.arr (by decide) (hR.2 a _ ho).1
  refine W.iast C.1 C.2.1 hc ((gArr hT 0 (by decide)).1 N (fun j => .int (f j))) (fun q => by cases q) (by show ¬ (x < 0 ∨ (arrV _ _ _).slots.size ≤ _); rw [arrV_size]; exact hin) rfl rfl d fun H1 e1 e2 e3 => ?_
  refine h D dA base p l e s mid args below meth c C H1 _ ls (hR.put ho rfl (gAt.mk (by decide) ?_) e2 e3) (va_S_put hS e2 e3 ((hR.2 a _ ho).2 rfl)) hL
  rw [e1, vp_cell_i, vp_cell_i, arrV_store]
  congr 2
  funext q
  by_cases hq : q = x.toNatClampNeg
  · subst hq; simp [updV, upd]
  · simp [updV, upd, hq]
theorem g_zast {f : Nat → Int32} (d : dc m pc .bastore 1) (ho : M a = some (aZ N f)) (hin : ¬ (x < 0 ∨ N ≤ x.toNatClampNeg)) (hv : narrow .boolean (.int y) = .int y) (h : WP m (pc + 1) L rest (hpu M a (aZ N (upd f x.toNatClampNeg y))) z k n Φ) : WP m pc L (.int y :: .int x :: .ref a :: rest) M z k n Φ := by
  intro D dA base p l e s mid args below meth c C H locs ls hR hS hL
  have hT := C.2.2.2.2.2.2.2.2.2.1
  have hc := gAt.arr (by decide) (hR.2 a _ ho).1
  refine W.zast C.1 C.2.1 hc ((gArr hT 2 (by decide)).1 N (fun j => .int (f j))) (fun q => by cases q) (by show ¬ (x < 0 ∨ (arrV _ _ _).slots.size ≤ _); rw [arrV_size]; exact hin) rfl rfl d fun H1 e1 e2 e3 => ?_
  refine h D dA base p l e s mid args below meth c C H1 _ ls (hR.put ho rfl (gAt.mk (by decide) ?_) e2 e3) (va_S_put hS e2 e3 ((hR.2 a _ ho).2 rfl)) hL
  rw [e1, hv, vp_cell_i, vp_cell_i, arrV_store]
  congr 2
  funext q
  by_cases hq : q = x.toNatClampNeg
  · subst hq; simp [updV, upd]
  · simp [updV, upd, hq]
theorem g_cast {f : Nat → Int32} (d : dc m pc .castore 1) (ho : M a = some (aC N f)) (hin : ¬ (x < 0 ∨ N ≤ x.toNatClampNeg)) (hv : narrow .char (.int y) = .int y) (h : WP m (pc + 1) L rest (hpu M a (aC N (upd f x.toNatClampNeg y))) z k n Φ) : WP m pc L (.int y :: .int x :: .ref a :: rest) M z k n Φ := by
  intro D dA base p l e s mid args below meth c C H locs ls hR hS hL
  have hT := C.2.2.2.2.2.2.2.2.2.1
  have hc := gAt.arr (by decide) (hR.2 a _ ho).1
  refine W.cast C.1 C.2.1 hc ((gArr hT 1 (by decide)).1 N (fun j => .int (f j))) (fun q => by cases q) (by show ¬ (x < 0 ∨ (arrV _ _ _).slots.size ≤ _); rw [arrV_size]; exact hin) rfl rfl d fun H1 e1 e2 e3 => ?_
  refine h D dA base p l e s mid args below meth c C H1 _ ls (hR.put ho rfl (gAt.mk (by decide) ?_) e2 e3) (va_S_put hS e2 e3 ((hR.2 a _ ho).2 rfl)) hL
  rw [e1, hv, vp_cell_i, vp_cell_i, arrV_store]
  congr 2
  funext q
  by_cases hq : q = x.toNatClampNeg
  · subst hq; simp [updV, upd]
  · simp [updV, upd, hq]
theorem g_last {f : Nat → Int64} {yl : Int64} (d : dc m pc .lastore 1) (ho : M a = some (aJ N f)) (hin : ¬ (x < 0 ∨ N ≤ x.toNatClampNeg)) (h : WP m (pc + 1) L rest (hpu M a (aJ N (vp_updL f x.toNatClampNeg yl))) z k n Φ) : WP m pc L (.long yl :: .int x :: .ref a :: rest) M z k n Φ := by
  intro D dA base p l e s mid args below meth c C H locs ls hR hS hL
  have hT := C.2.2.2.2.2.2.2.2.2.1
  have hc := gAt.arr (by decide) (hR.2 a _ ho).1
  refine W.last C.1 C.2.1 hc ((gArr hT 3 (by decide)).1 N (fun j => .long (f j))) (fun q => by cases q) (by show ¬ (x < 0 ∨ (arrV _ _ _).slots.size ≤ _); rw [arrV_size]; exact hin) rfl rfl d fun H1 e1 e2 e3 => ?_
  refine h D dA base p l e s mid args below meth c C H1 _ ls (hR.put ho rfl (gAt.mk (by decide) ?_) e2 e3) (va_S_put hS e2 e3 ((hR.2 a _ ho).2 rfl)) hL
  rw [e1, vp_cell_l, vp_cell_l, arrV_store]
  congr 2
  funext q
  by_cases hq : q = x.toNatClampNeg
  · subst hq; simp [updV, vp_updL]
  · simp [updV, vp_updL, hq]
theorem g_aast0 {f : Nat → Option Nat} {kd b cj : Nat} {gs : List Value} {r : vw_C} (d : dc m pc .aastore 1) (hkd : kd < 6) (ho : M a = some (.inl (kd, N, .inr (.inr (.inr (.inr f)))))) (hty : gty kd = .object r.1) (hb : M b = some (.inr (cj, gs))) (hcj : vwCl[cj]? = some r) (hin : ¬ (x < 0 ∨ N ≤ x.toNatClampNeg)) (h : WP m (pc + 1) L rest (hpu M a (.inl (kd, N, .inr (.inr (.inr (.inr (va_up f x.toNatClampNeg (some b)))))))) z k n Φ) : WP m pc L (.ref b :: .int x :: .ref a :: rest) M z k n Φ := by
  intro D dA base p l e s mid args below meth c C H locs ls hR hS hL
  have hT := C.2.2.2.2.2.2.2.2.2.1
  have hk9 : kd ≠ 9 := by omega
  have hc := gAt.arr hk9 (hR.2 a _ ho).1
  have hA := gArr hT kd hkd
  rw [hty] at hA
  obtain ⟨r', hr', cellV, g1, g2, g3, -⟩ := (hR.2 b _ hb).1
  have hrr : r' = r := Option.some.inj (hr'.symm.trans hcj)
  subst hrr
  have hcls := (hT.1.1 cj r' hcj).2
  obtain ⟨kA, comp, k1, k2, k3, -⟩ := hA.2
  have hcomp : comp = D.1 cj := Option.some.inj (k3.symm.trans hcls.1)
  subst hcomp
  obtain ⟨kC, hkC, hkind⟩ := hcls.2
  have hro : gro (.inl (kd, N, .inr (.inr (.inr (.inr f))))) = false := by simp [gro, hk9]
  refine W.aast (cv := cellV) (k := kA) (kv := kC) (kcomp := kC) (comp := D.1 cj) (t := .object r'.1) C.1 C.2.1 hc (fun q h => by cases h) (fun q => by cases q) k1 k2 rfl hkC (by
      refine ⟨fun q => hin (Or.inl q), ?_⟩
      show _ < (arrV _ _ _).slots.size
      rw [arrV_size]; exact gin hin) g1 (by rw [g3]; exact fun q h => by cases h) (by rw [g2]; exact hkC) (by rw [g2]; exact va_assign hcls) rfl rfl d fun H1 e1 e2 e3 => ?_
  refine h D dA base p l e s mid args below meth c C H1 _ ls (hR.put ho hro (gAt.mk hk9 ?_) e2 e3) (va_S_put hS e2 e3 ((hR.2 a _ ho).2 hro)) hL
  rw [e1, vp_cell_q, vp_cell_q, arrV_store]
  congr 2
  funext q
  by_cases hq : q = x.toNatClampNeg
  · subst hq; simp [updV, va_up, va_rf]
  · simp [updV, va_up, hq]
theorem g_alenX {f : Nat → Int32} (d : dc m pc .arraylength 1) (ho : M a = some (aX N f)) (h : WP m (pc + 1) L (.int (Int32.ofNat N) :: rest) M z k n Φ) : WP m pc L (.ref a :: rest) M z k n Φ := by
  intro D dA base p l e s mid args below meth c C H locs ls hR hS hL
  have hT := C.2.2.2.2.2.2.2.2.2.1
  obtain ⟨scr, g, h0, h1, h2, h3, h4, h5, h6⟩ := (by simpa [gAt, aX] using (hR.2 a _ ho).1 : ∃ (scr : Cell) (g : Nat → Int32), f = g ∧ H[a]? = some scr ∧ scr.cls = dA 9 ∧ scr.vm ≠ .unknown ∧ (∀ k, scr.vm ≠ .statics k) ∧ scr.slots.size = N ∧ ∀ j : Nat, j < N → scr.slots[j]? = some (.int (g j)))
  have harr : s.isArrayOf scr .int := ⟨h4, by rw [h2]; exact (hT.2.1 0 (fun _ => .null)).2⟩
  exact W.alen (n := Int32.ofNat N) C.1 C.2.1 h1 harr (by rw [h5] <;> rfl) rfl rfl d (h D dA base p l e s mid args below meth c C H locs ls hR hS hL)
theorem g_ialdX {f : Nat → Int32} (d : dc m pc .iaload 1) (ho : M a = some (aX N f)) (hin : ¬ (x < 0 ∨ N ≤ x.toNatClampNeg)) (h : WP m (pc + 1) L (.int (f x.toNatClampNeg) :: rest) M z k n Φ) : WP m pc L (.int x :: .ref a :: rest) M z k n Φ := by
  intro D dA base p l e s mid args below meth c C H locs ls hR hS hL
  have hT := C.2.2.2.2.2.2.2.2.2.1
  obtain ⟨scr, g, h0, h1, h2, h3, h4, h5, h6⟩ := (by simpa [gAt, aX] using (hR.2 a _ ho).1 : ∃ (scr : Cell) (g : Nat → Int32), f = g ∧ H[a]? = some scr ∧ scr.cls = dA 9 ∧ scr.vm ≠ .unknown ∧ (∀ k, scr.vm ≠ .statics k) ∧ scr.slots.size = N ∧ ∀ j : Nat, j < N → scr.slots[j]? = some (.int (g j)))
  have harr : s.isArrayOf scr .int := ⟨h4, by rw [h2]; exact (hT.2.1 0 (fun _ => .null)).2⟩
  subst h0
  exact W.iald (v := .int (f x.toNatClampNeg)) C.1 C.2.1 h1 harr h3 (by rw [h5]; exact hin) (h6 _ (gin hin)) rfl rfl d (h D dA base p l e s mid args below meth c C H locs ls hR hS hL)
end HEAP
end
section
section CALLS
variable {m m' : GM} {pc z k n idx : Nat} {L : List (Option Value)} {rest : List Value} {M : Hp} {Φ Ψ : GR → Hp → Nat → Prop} {x y v : Int32} {a ci N : Nat} {fs : List Value} {w : Value}
/-- a class that is made: its link, its kind, its cells' first values -/
def gNW (m : GM) (idx ci N : Nat) (fs : List Value) : Prop := ∃ (C : String) (T : u_T) (t0 : Nat → FieldType), vwCl[ci]? = some (C, T, N) ∧ (∀ w ∈ u_ws C T N, w ∈ gW) ∧ (∀ k, k < N → parseFieldDescriptor (T k).2.2.1 = some (t0 k)) ∧ (∀ j, j < N → defaultValue (t0 j) = vp_V fs j) ∧ Cond.classLink (gy m).cls idx C ∈ gW ∧ Cond.instantiable C N ∈ gW ∧ Cond.initialized C ∈ gW
theorem g_new (d : dc m pc (.new idx) 3) (nw : gNW m idx ci N fs) (hk : k + 1 ≤ gce m) (hn : n + N ≤ gsl m) (h : WP m (pc + 3) L (.ref z :: rest) (hpu M z (.inr (ci, fs))) (z + 1) (k + 1) (n + N) Φ) : WP m pc L rest M z k n Φ := by
  intro D dA base p l e s mid args below meth c C H locs ls hR hS hL
  obtain ⟨Cn, T, t0, hc, hin, hty, hfs, w1, w2, w3⟩ := nw
  have hT := C.2.2.2.2.2.2.2.2.2.1
  have hts := C.2.2.2.2.1
  have hb := C.2.2.2.2.2.2.2.2.2.2.2.1
  have hKn := hT.1.1 ci _ hc
  have hz := hR.1
  refine W.newcK C.1 C.2.1 C.2.2.2.1 (hts _ w1) (hts _ w2) (hts _ w3) rfl d hk hn hKn.2.1 hz fun H1 kC hkC e1 z1 o1 => ?_
  have hbz : base ≤ z := by rw [← hz]; exact Nat.le_trans hb hS.1
  refine h D dA base p l e s mid args below meth c C H1 locs ls (hR.push hbz ⟨_, hc, (u_born t0 hts hin hKn hkC e1 hty).to hfs⟩ z1 o1) ⟨by rw [z1]; exact Nat.le_succ_of_le (by rw [← hz]; exact hS.1), fun q h1 h2 => (o1 q (by rw [← hz]; exact Nat.lt_of_lt_of_le h1 hS.1)).trans (hS.2.1 q h1 h2), hS.2.2⟩ hL
theorem gInj {U : State} {nm : String} {a b : ClassId} (h1 : U.vm.findClass nm = some a) (h2 : U.vm.findClass nm = some b) : a = b := Option.some.inj (h1.symm.trans h2)
theorem g_newarr {at_ : ArrayType} {kd N : Nat} {a0 : vp_A} (d : dc m pc (.newarray at_) 2) (hw : Cond.arrayClass (newarray.typeOf at_) ∈ gW) (hkd : kd < 4) (hg : gty kd = newarray.typeOf at_) (hN : x.toNatClampNeg = N) (hx0 : ¬ x < 0) (hby : N * componentBytes (newarray.typeOf at_) ≤ 536870912) (ha : ∀ cA : ClassId, vp_cell cA a0 = arrV cA N (fun _ => defaultValue (newarray.typeOf at_))) (hk : k + 1 ≤ gce m) (hn : n + N ≤ gsl m)
    (h : WP m (pc + 2) L (.ref z :: rest) (hpu M z (.inl (kd, a0))) (z + 1) (k + 1) (n + N) Φ) : WP m pc L (.int x :: rest) M z k n Φ := by
  intro D dA base p l e s mid args below meth c C H locs ls hR hS hL
  have hT := C.2.2.2.2.2.2.2.2.2.1
  have hts := C.2.2.2.2.1
  have hb := C.2.2.2.2.2.2.2.2.2.2.2.1
  have hz := hR.1
  have hbz : base ≤ z := by rw [← hz]; exact Nat.le_trans hb hS.1
  refine va_newaK C.1 C.2.1 (hts _ hw) rfl d rfl hx0 hN hby hk hn hz fun H1 cA e1 z1 o1 hAr hNm => ?_
  have hA := gArr hT kd (by omega)
  have hcA : cA = dA kd := by
    have h2 := hA.2
    rw [hg] at h2
    refine gInj hNm ?_
    cases at_ <;> exact h2
  subst hcA
  refine h D dA base p l e s mid args below meth c C H1 locs ls (hR.push hbz (gAt.mk (by omega) (by rw [ha]; exact e1)) z1 o1) ⟨by rw [z1]; exact Nat.le_succ_of_le (by rw [← hz]; exact hS.1), fun q h1 h2 => (o1 q (by rw [← hz]; exact Nat.lt_of_lt_of_le h1 hS.1)).trans (hS.2.1 q h1 h2), hS.2.2⟩ hL
theorem g_anew {kd N : Nat} {Cn : String} (d : dc m pc (.anewarray idx) 3) (hw : Cond.classLink (gy m).cls idx Cn ∈ gW) (hkd : kd = 4 ∨ kd = 5) (hg : gty kd = .object Cn) (hN : x.toNatClampNeg = N) (hx0 : ¬ x < 0) (hby : N * 4 ≤ 536870912) (hk : k + 1 ≤ gce m) (hn : n + N ≤ gsl m)
    (h : WP m (pc + 3) L (.ref z :: rest) (hpu M z (.inl (kd, N, .inr (.inr (.inr (.inr (fun _ => none))))))) (z + 1) (k + 1) (n + N) Φ) : WP m pc L (.int x :: rest) M z k n Φ := by
  intro D dA base p l e s mid args below meth c C H locs ls hR hS hL
  have hT := C.2.2.2.2.2.2.2.2.2.1
  have hts := C.2.2.2.2.1
  have hb := C.2.2.2.2.2.2.2.2.2.2.2.1
  have hz := hR.1
  have hbz : base ≤ z := by rw [← hz]; exact Nat.le_trans hb hS.1
  subst hN
  have hover : (Cond.arrayOver (.object Cn)).before args s = true := by
    rcases hkd with rfl | rfl
    · have : Cn = "RugPunch$Rug" := by have := hg; simp [gty] at this; exact this.symm
      subst this
      exact va_AO.use hT.2.2.2.2.1
    · have : Cn = "RugPunch$Script" := by have := hg; simp [gty] at this; exact this.symm
      subst this
      exact va_AO.use hT.2.2.2.2.2.1
  refine W.anew C.1 C.2.1 C.2.2.2.1 (hts _ hw) hover rfl d rfl hx0 hby hk hn fun cA kA comp f1 f2 f3 f4 => ?_
  have hA := gArr hT kd (by omega)
  rw [hg] at hA
  have hcA : cA = dA kd := by
    obtain ⟨kA', comp', -, -, -, h4⟩ := hA.2
    exact gInj f1 h4
  subst hcA
  rw [hz]
  refine h D dA base p l e s mid args below meth c C _ locs ls (hR.push hbz (gAt.mk (by omega) ?_) (by rw [Array.size_push, hz]) ?_) ⟨by rw [Array.size_push]; exact Nat.le_succ_of_le hS.1, fun q h1 h2 => ?_, hS.2.2⟩ hL
  · rw [← hz, Array.getElem?_push_size, vp_cell_q]
    rw [show (fun j : Nat => va_rf ((fun _ => none) j)) = (fun _ : Nat => Value.null) from rfl, ← arrV_new]
  · intro q hq
    rw [Array.getElem?_push, if_neg (by omega)]
  · rw [Array.getElem?_push, if_neg (by have := hS.1; omega)]
    exact hS.2.1 q h1 h2
/-! throwing -/
abbrev gXn : List String := ["java/lang/RuntimeException", "java/lang/Exception"]
def gTH (m : GM) (ik is ic : Nat) (E : String) (text : String) : Prop := Cond.classLink (gy m).cls ik E ∈ gW ∧ Cond.initialized E ∈ gW ∧ ((gy m).cls, is, text) ∈ gS ∧ (∀ w ∈ vx_atS (gy m).cls ic E gXn, w ∈ gW ∨ w ∈ gO) ∧ Bundle.fit E = true ∧ (∀ w ∈ Cond.classLink (gy m).cls ik E :: Cond.initialized E :: vx_atS (gy m).cls ic E gXn, vx_ot w = true)
theorem gO_tab : ∀ w ∈ gO, w.onTables = true := fun w hw => by
  have hg := (List.mem_filter.mp hw).2
  cases w <;> first | rfl | (exact absurd hg (by simp [gothr]))
theorem g_throw {ik is ic : Nat} {E text : String} (th : gTH m ik is ic E text) (hh : ghh m = []) (d0 : dc m pc (.new ik) 3) (d3 : dc m (pc + 3) .dup 1)
    (d4 : (dc m (pc + 4) (.ldc is) 2 ∧ dc m (pc + 6) (.invokespecial ic) 3 ∧ dc m (pc + 9) .athrow 1) ∨ (dc m (pc + 4) (.ldc_w is) 3 ∧ dc m (pc + 7) (.invokespecial ic) 3 ∧ dc m (pc + 10) .athrow 1))
    (hf : 6 ≤ gfr m) (hl : (rest.map fun v => v.category).sum + 82 ≤ glo m) (hk : k + 1 ≤ gce m) (hn : n + 6 ≤ gsl m) (hΦ : ∀ z', z ≤ z' → Φ (.inr E) M z') : WP m pc L rest M z k n Φ := by
  intro D dA base p l e s mid args below meth c C H locs ls hR hS hL
  obtain ⟨hx, hb, hml, hown, hts, hlocks, htr, hname, hret, hT, hG, hbase, htab⟩ := C
  obtain ⟨t1, t2, t3, t4, t5, t6⟩ := th
  obtain ⟨sa, hsa⟩ := hT.2.2.2.1 _ t3
  have hat : ∀ w ∈ vx_atS (gy m).cls ic E gXn, w.before args s = true := fun w hw => (t4 w hw).elim (fun h => hts w h) (fun h => va_Nw.use (gO_tab w h) (hT.2.2.2.2.2.2.1 w h))
  have htab' : ∀ pc x, x ∈ c.exceptionTable.toList → covers x pc = false := by rw [hh] at htab; exact fun pc x hx => (htab x hx).elim
  have hX : ∀ t : State, s.vm.Alike t.vm → H.size ≤ t.heap.size → (∀ q : Nat, q < H.size → t.heap[q]? = H[q]?) → gX Φ D dA base E s t := fun t _ h1 h2 => ⟨⟨M, t.heap.size, hΦ _ (by rw [← hR.1]; exact h1), hR.grow h1 h2⟩, Nat.le_trans hS.1 h1, fun q g1 g2 => (h2 q (Nat.lt_of_lt_of_le g1 hS.1)).trans (hS.2.1 q g1 g2)⟩
  rcases d4 with ⟨d4, d6, d9⟩ | ⟨d4, d7, d10⟩
  · exact vx_throwS hx hb htr (own := (gy m).cls) (text := text) (names := gXn) hown t5 (by decide) (hts _ t1) (hts _ t2) hsa hat t6 hG.1 hG.2 hS (by rw [hL.2.1, hml]) d0 d3 d4 d6 d9 (htab' _) (show 2 + 3 < gfr m by omega) (by show _ + (13 * (2 + 1) + 43) ≤ glo m; omega) hk hn hlocks hX (fun z hz => hS.2.2 z hz) hk hn
  · exact vx_throwSW hx hb htr (own := (gy m).cls) (text := text) (names := gXn) hown t5 (by decide) (hts _ t1) (hts _ t2) hsa hat t6 hG.1 hG.2 hS (by rw [hL.2.1, hml]) d0 d3 d4 d7 d10 (htab' _) (show 2 + 3 < gfr m by omega) (by show _ + (13 * (2 + 1) + 43) ≤ glo m; omega) hk hn hlocks hX (fun z hz => hS.2.2 z hz) hk hn
/-! calls -/
def gVir (m m' : GM) (idx ci nA : Nat) : Prop := gCal m' nA ∧ ghh m' = [] ∧ gIn m' ∧ Cond.methodLink (gy m).cls idx (gy m') ∈ gW ∧ ∃ r, vwCl[ci]? = some r ∧ r.1 = (gy m').cls
def gSta (m m' : GM) (idx nA : Nat) : Prop := gCal m' nA ∧ ghh m' = [] ∧ Cond.static (gy m') ∈ gW ∧ gML m idx (gy m')
def gIni (m m' : GM) (idx nA : Nat) : Prop := gCal m' nA ∧ ghh m' = [] ∧ gr m' = none ∧ (gy m').name = "<init>" ∧ Cond.instanceMethod (gy m') ∈ gW ∧ gML m idx (gy m')
theorem g_vir {as st : List Value} {nA : Nat} (d : dc m pc (.invokevirtual idx) 3) (lk : gVir m m' idx ci nA) (bud : gBud m m' = true) (hst : st = as.reverse ++ .ref a :: rest) (hnA : as.length = nA) (ho : M a = some (.inr (ci, fs))) (hcat : (rest.map fun v => v.category).sum ≤ 8) (hk : k + gce m' ≤ gce m) (hn : n + gsl m' ≤ gsl m)
    (call : Runs m' (.ref a :: as) M z Ψ) (kk : ∀ r M' z', Ψ (.inl r) M' z' → WP m (pc + 3) L (r.toList ++ rest) M' z' (k + gce m') (n + gsl m') Φ) (kx : ∀ E M' z', Ψ (.inr E) M' z' → WX m pc L rest M' z' (k + gce m') (n + gsl m') E Φ) : WP m pc L st M z k n Φ := by
  intro D dA base p l e s mid args below meth c C H locs ls hR hS hL
  subst hnA
  obtain ⟨c1, c2, c3, c4, r, c5, c6⟩ := lk
  exact g_call C hS hL (g_runV C hR hS hL.2.1 call c1 c2 c3 c4 bud ho c5 c6 hst hcat hk hn d) kk kx
theorem g_sta {as st : List Value} {nA : Nat} (d : dc m pc (.invokestatic idx) 3) (lk : gSta m m' idx nA) (bud : gBud m m' = true) (hst : st = as.reverse ++ rest) (hnA : as.length = nA) (hcat : (rest.map fun v => v.category).sum ≤ 8) (hk : k + gce m' ≤ gce m) (hn : n + gsl m' ≤ gsl m)
    (call : Runs m' as M z Ψ) (kk : ∀ r M' z', Ψ (.inl r) M' z' → WP m (pc + 3) L (r.toList ++ rest) M' z' (k + gce m') (n + gsl m') Φ) (kx : ∀ E M' z', Ψ (.inr E) M' z' → WX m pc L rest M' z' (k + gce m') (n + gsl m') E Φ) : WP m pc L st M z k n Φ := by
  intro D dA base p l e s mid args below meth c C H locs ls hR hS hL
  subst hnA
  obtain ⟨c1, c2, c3, c4⟩ := lk
  exact g_call C hS hL (g_runS C hR hS hL.2.1 call c1 c2 c3 c4 bud hst hcat hk hn d) kk kx
theorem g_ini {as st : List Value} {nA : Nat} (d : dc m pc (.invokespecial idx) 3) (lk : gIni m m' idx nA) (bud : gBud m m' = true) (hst : st = as.reverse ++ .ref a :: rest) (hnA : as.length = nA) (hcat : (rest.map fun v => v.category).sum ≤ 8) (hk : k + gce m' ≤ gce m) (hn : n + gsl m' ≤ gsl m)
    (call : Runs m' (.ref a :: as) M z Ψ) (kk : ∀ r M' z', Ψ (.inl r) M' z' → WP m (pc + 3) L (r.toList ++ rest) M' z' (k + gce m') (n + gsl m') Φ) (kx : ∀ E M' z', Ψ (.inr E) M' z' → WX m pc L rest M' z' (k + gce m') (n + gsl m') E Φ) : WP m pc L st M z k n Φ := by
  intro D dA base p l e s mid args below meth c C H locs ls hR hS hL
  subst hnA
  obtain ⟨c1, c2, c3, c4, c5, c6⟩ := lk
  exact g_call C hS hL (g_runI C hR hS hL.2.1 call c1 c2 c3 c4 c5 c6 bud hst hcat hk hn d) kk kx
theorem g_objinit (d : dc m pc (.invokespecial idx) 3) (hl : Cond.methodLink (gy m).cls idx Lib.objectInit ∈ gW) (hi : Cond.instanceMethod Lib.objectInit ∈ gW) (hcd : Cond.code Lib.objectInit ⟨#[0xb1]⟩ 1 none ∈ gW) (hf : 1 ≤ gfr m) (hlo : (rest.map fun v => v.category).sum + 12 ≤ glo m) (h : WP m (pc + 3) L rest M z k n Φ) : WP m pc L (.ref a :: rest) M z k n Φ := by
  intro D dA base p l e s mid args below meth c C H locs ls hR hS hL
  have hts := C.2.2.2.2.1
  exact W.objInit C.1 C.2.1 C.2.2.2.1 (hts _ hl) (hts _ hi) (hts _ hcd) rfl (by rw [show (F0 mid pc ls (.ref a :: rest)).locals = ls from rfl, hL.2.1, C.2.2.1]) rfl d hf (by show 2 * 0 + _ + 12 ≤ glo m; omega) (h D dA base p l e s mid args below meth c C H locs ls hR hS hL)
/-! a thrown exception -/
theorem x_out {E : String} (hh : ghh m = []) (hk : k ≤ gce m) (hn : n ≤ gsl m) (hΦ : Φ (.inr E) M z) : WX m pc L rest M z k n E Φ := by
  intro D dA base p l e s mid args below meth c C H locs ls q ce hR hS hL hq hv hcl
  obtain ⟨hx, hb, hml, hown, hts, hlocks, htr, hname, hret, hT, hG, hbase, htab⟩ := C
  refine vx_out (E := E) (by rw [hh] at htab; exact fun x hx => (htab x hx).elim) hlocks hq hv hcl (fun t ht _ => ⟨⟨M, z, hΦ, by rw [ht]; exact hR⟩, va_S.F hS ht⟩) (fun z hz => hS.2.2 z hz) hk hn
theorem x_catch {E : String} (pre : List ExceptionTableEntry) (xe : ExceptionTableEntry) (suf : List ExceptionTableEntry) (hne : ghh m ≠ []) (hsp : tableOf (ghh m) = pre ++ xe :: suf) (hpass : ∀ q ∈ pre, q.catchType ≠ 0 ∧ ∃ nm, Cond.classLink (gy m).cls q.catchType nm ∈ gW ∧ (E, nm) ∈ gNC) (hcov : covers xe pc = true) (h0 : xe.catchType ≠ 0) (hlk : Cond.classLink (gy m).cls xe.catchType E ∈ gW) (hca : Cond.castable E E ∈ gO)
    (h : ∀ q, WP m xe.handlerPc L [.ref q] M z k n Φ) : WX m pc L rest M z k n E Φ := by
  intro D dA base p l e s mid args below meth c C H locs ls q ce hR hS hL hq hv hcl
  have C' := C
  obtain ⟨hx, hb, hml, hown, hts, hlocks, htr, hname, hret, hT, hG, hbase, htab⟩ := C'
  have ht : c.exceptionTable.toList = tableOf (ghh m) := by
    cases hg : ghh m with
    | nil => exact absurd hg hne
    | cons a t => rw [hg] at htab; exact htab
  refine vx_catch (own := (gy m).cls) (name := E) hown pre xe suf (ht.trans hsp) (fun z hz => Or.inr ?_) hcov h0 (hts _ hlk) (va_Nw.use rfl (hT.2.2.2.2.2.2.1 _ hca)) hq hv hcl (h q D dA base p l e s mid args below meth c C H locs ls hR hS hL)
  obtain ⟨g1, nm, g2, g3⟩ := hpass z hz
  exact ⟨g1, nm, hts _ g2, hT.2.2.2.2.2.2.2 _ g3⟩
/-! System.arraycopy -/
def gAC (m : GM) (idx : Nat) : Prop := Cond.methodLink (gy m).cls idx arraycopyName ∈ gW ∧ Cond.native arraycopyName ∈ gW ∧ Cond.static arraycopyName ∈ gW ∧ Cond.initialized "java/lang/System" ∈ gW
theorem g_copy {kd a0 n0 n1 sp dp nn : Nat} {f g : Nat → Int32} (hkd : kd < 2) (d : dc m pc (.invokestatic idx) 3) (lk : gAC m idx) (ho0 : M a0 = some (.inl (kd, n0, .inl f))) (ho : M a = some (.inl (kd, n1, .inl g))) (hsp : sp + nn ≤ n0) (hdp : dp + nn ≤ n1) (h31 : n0 < 2 ^ 31 ∧ n1 < 2 ^ 31) (hfit : ∀ i, i < nn → fits (gty kd) (.int (f (sp + i))) = true) (hf : 1 ≤ gfr m) (hl : (rest.map fun v => v.category).sum + 18 ≤ glo m)
    (h : WP m (pc + 3) L rest (hpu M a (.inl (kd, n1, .inl (va_cpy f g sp dp nn)))) z k n Φ) : WP m pc L (.int (nI nn) :: .int (nI dp) :: .ref a :: .int (nI sp) :: .ref a0 :: rest) M z k n Φ := by
  intro D dA base p l e s mid args below meth c C H locs ls hR hS hL
  have hT := C.2.2.2.2.2.2.2.2.2.1
  have hts := C.2.2.2.2.1
  obtain ⟨l1, l2, l3, l4⟩ := lk
  have hA := gArr hT kd (by omega)
  have hk9 : kd ≠ 9 := by omega
  have hc0 := gAt.arr hk9 (hR.2 a0 _ ho0).1
  have hc1 := gAt.arr hk9 (hR.2 a _ ho).1
  have hprim : refKind (gty kd) = false := by
    match kd, hkd with
    | 0, _ => rfl
    | 1, _ => rfl
  have e1 : ∀ j : Nat, j < 2 ^ 31 → (nI j).toNatClampNeg = j := fun j hj => nI_clamp hj
  have e2 : ∀ j : Nat, j < 2 ^ 31 → ¬ (nI j) < 0 := fun j hj => by
    simp only [Int32.lt_iff_toInt_lt, Int32.toInt_zero, nI_toInt hj]; omega
  have e3 : ∀ j : Nat, j < 2 ^ 31 → (nI j).toInt = (j : Int) := fun j hj => nI_toInt hj
  intro T hTh X
  obtain ⟨-, k0, hk0, cm0, hkk0⟩ := hA.1 n0 (fun j => .int (f j))
  obtain ⟨-, k1, hk1, cm1, hkk1⟩ := hA.1 n1 (fun j => .int (g j))
  obtain ⟨vm', X', step⟩ := X.arraycopy C.1 C.2.2.2.1 (hts _ l1) (hts _ l2) (hts _ l3) (hts _ l4) (src := a0) (dst := a) (cs := vp_cell (dA kd) (n0, .inl f)) (cd := vp_cell (dA kd) (n1, .inl g)) (srcPos := nI sp) (destPos := nI dp) (n := nI nn) (by rw [hTh]; exact hc0) (by rw [hTh]; exact hc1)
    (fun _ h => by cases h) (fun _ h => by cases h) (fun h => by cases h) (fun h => by cases h) hk0 hk1 hkk0 hkk1 (by simp [hprim]) (e2 _ (by omega)) (e2 _ (by omega)) (e2 _ (by omega))
    (by rw [e3 sp (by omega), e3 nn (by omega)]; show ¬ _ > ((arrV (dA kd) n0 (fun j => .int (f j))).slots.size : Int); rw [arrV_size]; omega)
    (by rw [e3 dp (by omega), e3 nn (by omega)]; show ¬ _ > ((arrV (dA kd) n1 (fun j => .int (g j))).slots.size : Int); rw [arrV_size]; omega)
    (fun vm₁ _ i hi => by
      rw [e1 nn (by omega)] at hi
      have e : (vp_cell (dA kd) (n0, .inl f)).slots.getD ((nI sp).toNatClampNeg + i) .null = .int (f (sp + i)) := by
        rw [e1 sp (by omega)]
        show (arrV (dA kd) n0 (fun j => .int (f j))).slots.getD _ _ = _
        rw [Array.getD_eq_getD_getElem?, arrV_read _ _ (by omega)]
        rfl
      refine ⟨?_, ?_⟩
      · rw [e]
        exact hfit i hi
      · rw [e]
        exact trivial)
    (g := F0 mid pc ls (.int (nI nn) :: .int (nI dp) :: .ref a :: .int (nI sp) :: .ref a0 :: rest)) rfl (by rw [show (F0 mid pc ls (.int (nI nn) :: .int (nI dp) :: .ref a :: .int (nI sp) :: .ref a0 :: rest)).locals = ls from rfl, hL.2.1, C.2.2.1]) (rest := rest) rfl (by rw [C.2.1]; exact d) hf (by show 2 * 0 + _ + (nativeFrameWords "java/lang/System" "arraycopy" 5 + 11) ≤ glo m; rw [show nativeFrameWords "java/lang/System" "arraycopy" 5 = 7 from by decide]; omega)
  have ee : copied (vp_cell (dA kd) (n0, .inl f)) (vp_cell (dA kd) (n1, .inl g)) (nI sp) (nI dp) (nI nn) = vp_cell (dA kd) (n1, .inl (va_cpy f g sp dp nn)) := by
    have h9 := va_copied (fun z => Value.int z) (dA kd) (dA kd) (n1 := n1) (dp := dp) f g hsp
    show (arrV (dA kd) n1 (fun j => .int (g j))).storeRun (nI dp).toNatClampNeg ((arrV (dA kd) n0 (fun j => .int (f j))).stretch (nI sp).toNatClampNeg (nI nn).toNatClampNeg) = _
    rw [e1 sp (by omega), e1 dp (by omega), e1 nn (by omega)]
    exact h9
  rw [ee] at X' step
  have hlt : a < H.size := (Array.getElem?_eq_some_iff.mp hc1).1
  have hheap : ((T.setVm vm').setCell a (vp_cell (dA kd) (n1, .inl (va_cpy f g sp dp nn)))).heap = H.setIfInBounds a (vp_cell (dA kd) (n1, .inl (va_cpy f g sp dp nn))) := by rw [← hTh]; rfl
  have oq : ∀ q : Nat, q ≠ a → (H.setIfInBounds a (vp_cell (dA kd) (n1, .inl (va_cpy f g sp dp nn))))[q]? = H[q]? := fun q hq => by simp [Array.getElem?_setIfInBounds, Ne.symm hq]
  have hro : gro (.inl (kd, n1, .inl g)) = false := by simp [gro, hk9]
  have hba := (hR.2 a _ ho).2 hro
  obtain ⟨t, a1, b1⟩ := h D dA base p l e s mid args below meth c C _ _ ls (hR.put ho hro (gAt.mk hk9 (show (H.setIfInBounds a _)[a]? = some _ by simp [Array.getElem?_setIfInBounds, hlt])) (by simp) oq) ⟨by simp; exact hS.1, fun q g1 g2 => by
      rw [oq q (fun e => g2 (by rw [e]; exact hba))]
      exact hS.2.1 q g1 g2, fun q hq => by
      rcases List.mem_append.mp hq with h | h
      · exact hS.2.2 q h
      · obtain ⟨z, -, hz⟩ := List.mem_map.mp h
        rw [← hz]
        exact hba⟩ hL _ hheap X'
  exact ⟨t, step t a1, b1⟩
end CALLS
end
section
def RJ9s : String := "java/lang/Math"
abbrev cJ_abs : ByteArray := prog_15_method_59_code
def yJ_abs : MethodName := ⟨"java/lang/Math", "abs", "(I)I"⟩
abbrev cJ_floorMod : ByteArray := prog_15_method_50_code
def yJ_floorMod : MethodName := ⟨"java/lang/Math", "floorMod", "(II)I"⟩
abbrev cJ_max : ByteArray := prog_15_method_65_code
def yJ_max : MethodName := ⟨"java/lang/Math", "max", "(II)I"⟩
abbrev cJ_min : ByteArray := prog_15_method_69_code
def yJ_min : MethodName := ⟨"java/lang/Math", "min", "(II)I"⟩
abbrev mX0_init : GM := (yX0_init, cX0_init, 1, none, (1, 20, 3, 432), [])
abbrev mX0_countSpreading : GM := (yX0_countSpreading, cX0_countSpreading, 5, (some .int), (2, 46, 0, 0), [])
abbrev mX0_spreadFrom : GM := (yX0_spreadFrom, cX0_spreadFrom, 4, none, (1, 23, 0, 0), [])
abbrev mX0_reach : GM := (yX0_reach, cX0_reach, 2, none, (0, 0, 0, 0), [])
abbrev mX0_countJoining : GM := (yX0_countJoining, cX0_countJoining, 5, (some .int), (2, 49, 0, 0), [])
abbrev mX0_joinBeside : GM := (yX0_joinBeside, cX0_joinBeside, 7, (some .boolean), (1, 23, 0, 0), [])
abbrev mX0_chiefOf : GM := (yX0_chiefOf, cX0_chiefOf, 4, (some .int), (0, 0, 0, 0), [])
abbrev mX1_init : GM := (yX1_init, cX1_init, 2, none, (1, 20, 3, 432), [])
abbrev mX1_copyFrom : GM := (yX1_copyFrom, cX1_copyFrom, 2, none, (1, 26, 0, 0), [])
abbrev mX1_planAt : GM := (yX1_planAt, cX1_planAt, 2, (some .int), (0, 0, 0, 0), [])
abbrev mX1_loopAt : GM := (yX1_loopAt, cX1_loopAt, 2, (some .int), (0, 0, 0, 0), [])
abbrev mX1_heightAt : GM := (yX1_heightAt, cX1_heightAt, 2, (some .int), (0, 0, 0, 0), [])
abbrev mX1_skippedAt : GM := (yX1_skippedAt, cX1_skippedAt, 2, (some .boolean), (0, 0, 0, 0), [])
abbrev mX1_missingAt : GM := (yX1_missingAt, cX1_missingAt, 2, (some .boolean), (1, 21, 0, 0), [])
abbrev mX1_setPlanAt : GM := (yX1_setPlanAt, cX1_setPlanAt, 3, none, (0, 0, 0, 0), [])
abbrev mX1_fillBetween : GM := (yX1_fillBetween, cX1_fillBetween, 10, (some .int), (1, 22, 0, 0), [])
abbrev mX1_putLoop : GM := (yX1_putLoop, cX1_putLoop, 4, none, (0, 0, 0, 0), [])
abbrev mX1_putSkipped : GM := (yX1_putSkipped, cX1_putSkipped, 2, none, (1, 23, 0, 0), [])
abbrev mX1_clearCell : GM := (yX1_clearCell, cX1_clearCell, 2, none, (1, 23, 0, 0), [])
abbrev mX1_countLoops : GM := (yX1_countLoops, cX1_countLoops, 3, (some .int), (0, 0, 0, 0), [])
abbrev mX1_countRight : GM := (yX1_countRight, cX1_countRight, 3, (some .int), (0, 0, 0, 0), [])
abbrev mX1_countMissing : GM := (yX1_countMissing, cX1_countMissing, 3, (some .int), (2, 42, 0, 0), [])
abbrev mX1_countMissingOf : GM := (yX1_countMissingOf, cX1_countMissingOf, 4, (some .int), (2, 42, 0, 0), [])
abbrev mX1_countSkipped : GM := (yX1_countSkipped, cX1_countSkipped, 3, (some .int), (0, 0, 0, 0), [])
abbrev mX1_sumHeights : GM := (yX1_sumHeights, cX1_sumHeights, 3, (some .int), (0, 0, 0, 0), [])
abbrev mX1_yarnInLoops : GM := (yX1_yarnInLoops, cX1_yarnInLoops, 4, (some .int), (1, 20, 0, 0), [])
abbrev mX1_nearestInRings : GM := (yX1_nearestInRings, cX1_nearestInRings, 5, (some .int), (4, 91, 0, 0), [])
abbrev mX1_firstInRing : GM := (yX1_firstInRing, cX1_firstInRing, 6, (some .int), (3, 66, 0, 0), [])
abbrev mX1_missesAt : GM := (yX1_missesAt, cX1_missesAt, 5, (some .boolean), (2, 42, 0, 0), [])
abbrev mX1_nearestInCells : GM := (yX1_nearestInCells, cX1_nearestInCells, 7, (some .int), (2, 42, 0, 0), [])
abbrev mX2_init : GM := (yX2_init, cX2_init, 1, none, (1, 20, 1, 14), [])
abbrev mX2_remember : GM := (yX2_remember, cX2_remember, 3, none, (4, 91, 20, 966), [])
abbrev mX2_takeBack : GM := (yX2_takeBack, cX2_takeBack, 3, none, (4, 91, 0, 0), [])
abbrev mX3_init : GM := (yX3_init, cX3_init, 1, none, (1, 20, 4, 20), [])
abbrev mX3_play : GM := (yX3_play, cX3_play, 6, (some .int), (5, 116, 0, 0), [])
abbrev mX3_enter : GM := (yX3_enter, cX3_enter, 2, (some .boolean), (0, 0, 0, 0), [])
abbrev mX3_endGroup : GM := (yX3_endGroup, cX3_endGroup, 2, none, (0, 0, 0, 0), [])
abbrev mX3_startGroup : GM := (yX3_startGroup, cX3_startGroup, 3, none, (0, 0, 0, 0), [])
abbrev mX3_goTo : GM := (yX3_goTo, cX3_goTo, 2, none, (0, 0, 0, 0), [])
abbrev mX3_doOrder : GM := (yX3_doOrder, cX3_doOrder, 7, (some .boolean), (4, 90, 0, 0), [])
abbrev mX3_signsOf : GM := (yX3_signsOf, cX3_signsOf, 1, (some .int), (0, 0, 0, 0), [])
abbrev mX4_init : GM := (yX4_init, cX4_init, 2, none, (2, 41, 19, 957), [])
abbrev mX4_copyFrom : GM := (yX4_copyFrom, cX4_copyFrom, 3, none, (3, 69, 0, 0), [])
abbrev mX4_keepMotif : GM := (yX4_keepMotif, cX4_keepMotif, 3, none, (2, 47, 0, 0), [])
abbrev mX4_motifAt : GM := (yX4_motifAt, cX4_motifAt, 2, (some (.object "RugPunch$Script")), (0, 0, 0, 0), [])
abbrev mX4_isTight : GM := (yX4_isTight, cX4_isTight, 1, (some .boolean), (0, 0, 0, 0), [])
abbrev mX4_reasonAgainstStitch : GM := (yX4_reasonAgainstStitch, cX4_reasonAgainstStitch, 1, (some .int), (1, 21, 0, 0), [])
abbrev mX4_reasonAgainstMending : GM := (yX4_reasonAgainstMending, cX4_reasonAgainstMending, 2, (some .int), (2, 42, 0, 0), [])
abbrev mX4_sewUpTo : GM := (yX4_sewUpTo, cX4_sewUpTo, 4, (some .int), (3, 67, 0, 0), [])
abbrev mX4_punch : GM := (yX4_punch, cX4_punch, 2, none, (2, 46, 0, 0), [])
abbrev mX4_feelKnot : GM := (yX4_feelKnot, cX4_feelKnot, 2, none, (1, 21, 0, 0), [])
abbrev mX4_goOn : GM := (yX4_goOn, cX4_goOn, 2, (some .boolean), (1, 23, 0, 0), [])
abbrev mX4_jumpOver : GM := (yX4_jumpOver, cX4_jumpOver, 4, (some .int), (2, 46, 0, 0), [])
abbrev mX4_turnBy : GM := (yX4_turnBy, cX4_turnBy, 2, none, (1, 22, 0, 0), [])
abbrev mX4_tryThread : GM := (yX4_tryThread, cX4_tryThread, 2, (some .boolean), (3, 65, 0, 0), [])
abbrev mX4_tryCut : GM := (yX4_tryCut, cX4_tryCut, 1, (some .boolean), (2, 45, 0, 0), [])
abbrev mX4_tryEase : GM := (yX4_tryEase, cX4_tryEase, 1, (some .boolean), (1, 23, 0, 0), [])
abbrev mX4_mendAt : GM := (yX4_mendAt, cX4_mendAt, 3, none, (1, 23, 0, 0), [])
abbrev mX4_tryUnpick : GM := (yX4_tryUnpick, cX4_tryUnpick, 3, none, (2, 44, 0, 0), [])
abbrev mX4_shearTo : GM := (yX4_shearTo, cX4_shearTo, 6, (some .int), (1, 23, 0, 0), [])
abbrev mX5_init : GM := (yX5_init, cX5_init, 1, none, (1, 20, 1, 120), [])
abbrev mX5_add : GM := (yX5_add, cX5_add, 2, none, (0, 0, 0, 0), [])
abbrev mX5_copyFrom : GM := (yX5_copyFrom, cX5_copyFrom, 2, none, (1, 26, 0, 0), [])
abbrev mX5_signAt : GM := (yX5_signAt, cX5_signAt, 2, (some .char), (0, 0, 0, 0), [])
abbrev mX5_digitAt : GM := (yX5_digitAt, cX5_digitAt, 2, (some .int), (1, 21, 0, 0), [])
abbrev mX5_firstError : GM := (yX5_firstError, cX5_firstError, 5, (some .int), (2, 44, 0, 0), [])
abbrev mX5_awaitedAfter : GM := (yX5_awaitedAfter, cX5_awaitedAfter, 3, (some .int), (1, 22, 0, 0), [])
abbrev mX5_startOfOrder : GM := (yX5_startOfOrder, cX5_startOfOrder, 2, (some .int), (0, 0, 0, 0), [])
abbrev mX5_endOfOrder : GM := (yX5_endOfOrder, cX5_endOfOrder, 3, (some .int), (0, 0, 0, 0), [])
abbrev mX5_hasMotifFrom : GM := (yX5_hasMotifFrom, cX5_hasMotifFrom, 3, (some .boolean), (2, 42, 0, 0), [])
abbrev mX6_init : GM := (yX6_init, cX6_init, 2, none, (1, 20, 5, 25), [])
abbrev mX6_copyFrom : GM := (yX6_copyFrom, cX6_copyFrom, 2, none, (1, 26, 0, 0), [])
abbrev mX6_onCone : GM := (yX6_onCone, cX6_onCone, 2, (some .int), (0, 0, 0, 0), [])
abbrev mX6_hasEnd : GM := (yX6_hasEnd, cX6_hasEnd, 2, (some .boolean), (1, 21, 0, 0), [])
abbrev mX6_drawn : GM := (yX6_drawn, cX6_drawn, 2, (some .int), (0, 0, 0, 0), [])
abbrev mX6_wasted : GM := (yX6_wasted, cX6_wasted, 2, (some .int), (0, 0, 0, 0), [])
abbrev mX6_outsideLoops : GM := (yX6_outsideLoops, cX6_outsideLoops, 2, (some .int), (0, 0, 0, 0), [])
abbrev mX6_putOn : GM := (yX6_putOn, cX6_putOn, 3, none, (0, 0, 0, 0), [])
abbrev mX6_draw : GM := (yX6_draw, cX6_draw, 4, (some .int), (0, 0, 0, 0), [])
abbrev mX6_drawFloat : GM := (yX6_drawFloat, cX6_drawFloat, 4, none, (1, 23, 0, 0), [])
abbrev mX6_drawEnd : GM := (yX6_drawEnd, cX6_drawEnd, 3, none, (1, 23, 0, 0), [])
abbrev mX6_addWaste : GM := (yX6_addWaste, cX6_addWaste, 3, none, (0, 0, 0, 0), [])
abbrev mX7_init : GM := (yX7_init, cX7_init, 1, none, (3, 62, 54, 2536), [])
abbrev mX7_append : GM := (yX7_append, cX7_append, 2, (some .int), (7, 106, 2, 12), [])
abbrev mX7_clearText : GM := (yX7_clearText, cX7_clearText, 2, (some .int), (0, 0, 0, 0), [])
abbrev mX7_errorPosition : GM := (yX7_errorPosition, cX7_errorPosition, 1, (some .int), (3, 68, 0, 0), [])
abbrev mX7_planOf : GM := (yX7_planOf, cX7_planOf, 2, (some .int), (7, 104, 1, 6), [])
abbrev mX7_loopOf : GM := (yX7_loopOf, cX7_loopOf, 2, (some .int), (7, 104, 1, 6), [])
abbrev mX7_heightOf : GM := (yX7_heightOf, cX7_heightOf, 2, (some .int), (7, 104, 1, 6), [])
abbrev mX7_isSkipped : GM := (yX7_isSkipped, cX7_isSkipped, 2, (some .boolean), (7, 104, 1, 6), [])
abbrev mX7_right : GM := (yX7_right, cX7_right, 1, (some .int), (1, 22, 0, 0), [])
abbrev mX7_missing : GM := (yX7_missing, cX7_missing, 1, (some .int), (3, 64, 0, 0), [])
abbrev mX7_wrong : GM := (yX7_wrong, cX7_wrong, 1, (some .int), (1, 22, 0, 0), [])
abbrev mX7_skipped : GM := (yX7_skipped, cX7_skipped, 1, (some .int), (1, 22, 0, 0), [])
abbrev mX7_areasBySpreading : GM := (yX7_areasBySpreading, cX7_areasBySpreading, 2, (some .int), (7, 104, 1, 6), [])
abbrev mX7_areasByJoining : GM := (yX7_areasByJoining, cX7_areasByJoining, 2, (some .int), (7, 104, 1, 6), [])
abbrev mX7_density : GM := (yX7_density, cX7_density, 1, (some .float), (1, 22, 0, 0), [])
abbrev mX7_meanHeight : GM := (yX7_meanHeight, cX7_meanHeight, 2, (some .double), (1, 22, 0, 0), [])
abbrev mX7_needle : GM := (yX7_needle, cX7_needle, 1, (some .int), (0, 0, 0, 0), [])
abbrev mX7_heading : GM := (yX7_heading, cX7_heading, 1, (some .int), (0, 0, 0, 0), [])
abbrev mX7_threaded : GM := (yX7_threaded, cX7_threaded, 1, (some .int), (0, 0, 0, 0), [])
abbrev mX7_height : GM := (yX7_height, cX7_height, 1, (some .int), (0, 0, 0, 0), [])
abbrev mX7_tension : GM := (yX7_tension, cX7_tension, 1, (some .int), (0, 0, 0, 0), [])
abbrev mX7_canGo : GM := (yX7_canGo, cX7_canGo, 1, (some .boolean), (1, 23, 0, 0), [])
abbrev mX7_wouldSkip : GM := (yX7_wouldSkip, cX7_wouldSkip, 1, (some .boolean), (1, 20, 0, 0), [])
abbrev mX7_coneOf : GM := (yX7_coneOf, cX7_coneOf, 2, (some .int), (7, 104, 1, 6), [])
abbrev mX7_drawnByCone : GM := (yX7_drawnByCone, cX7_drawnByCone, 2, (some .int), (7, 104, 1, 6), [])
abbrev mX7_drawnByRug : GM := (yX7_drawnByRug, cX7_drawnByRug, 2, (some .int), (7, 104, 1, 6), [])
abbrev mX7_wasteOf : GM := (yX7_wasteOf, cX7_wasteOf, 2, (some .int), (7, 104, 1, 6), [])
abbrev mX7_neededFor : GM := (yX7_neededFor, cX7_neededFor, 2, (some .int), (7, 104, 1, 6), [])
abbrev mX7_untilKnot : GM := (yX7_untilKnot, cX7_untilKnot, 2, (some .int), (7, 104, 1, 6), [])
abbrev mX7_knots : GM := (yX7_knots, cX7_knots, 1, (some .int), (0, 0, 0, 0), [])
abbrev mX7_motifLength : GM := (yX7_motifLength, cX7_motifLength, 3, (some .int), (7, 104, 1, 6), [])
abbrev mX7_motifSign : GM := (yX7_motifSign, cX7_motifSign, 4, (some .int), (7, 104, 2, 12), [])
abbrev mX7_setPlan : GM := (yX7_setPlan, cX7_setPlan, 4, (some .int), (7, 113, 22, 978), [])
abbrev mX7_fillPlan : GM := (yX7_fillPlan, cX7_fillPlan, 4, (some .int), (7, 113, 23, 984), [])
abbrev mX7_thread : GM := (yX7_thread, cX7_thread, 2, (some .int), (7, 113, 22, 978), [])
abbrev mX7_cut : GM := (yX7_cut, cX7_cut, 2, (some .int), (7, 113, 21, 972), [])
abbrev mX7_sew : GM := (yX7_sew, cX7_sew, 2, (some .int), (7, 113, 22, 978), [])
abbrev mX7_jump : GM := (yX7_jump, cX7_jump, 2, (some .int), (7, 113, 21, 972), [])
abbrev mX7_turnLeft : GM := (yX7_turnLeft, cX7_turnLeft, 1, (some .int), (5, 113, 20, 966), [])
abbrev mX7_turnRight : GM := (yX7_turnRight, cX7_turnRight, 1, (some .int), (5, 113, 20, 966), [])
abbrev mX7_ease : GM := (yX7_ease, cX7_ease, 2, (some .int), (7, 113, 21, 972), [])
abbrev mX7_setHeight : GM := (yX7_setHeight, cX7_setHeight, 3, (some .int), (7, 113, 21, 972), [])
abbrev mX7_place : GM := (yX7_place, cX7_place, 4, (some .int), (7, 113, 23, 984), [])
abbrev mX7_wind : GM := (yX7_wind, cX7_wind, 3, (some .int), (7, 113, 23, 984), [])
abbrev mX7_mend : GM := (yX7_mend, cX7_mend, 2, (some .int), (7, 113, 22, 978), [])
abbrev mX7_unpick : GM := (yX7_unpick, cX7_unpick, 3, (some .int), (7, 113, 22, 978), [])
abbrev mX7_shear : GM := (yX7_shear, cX7_shear, 2, (some .int), (7, 113, 21, 972), [])
abbrev mX7_store : GM := (yX7_store, cX7_store, 2, (some .int), (7, 113, 23, 984), [])
abbrev mX7_run : GM := (yX7_run, cX7_run, 3, (some .int), (7, 141, 22, 978), [])
abbrev mX7_runText : GM := (yX7_runText, cX7_runText, 1, (some .int), (7, 141, 21, 972), [])
abbrev mX7_undo : GM := (yX7_undo, cX7_undo, 1, (some .int), (6, 113, 1, 6), [])
abbrev mX7_whyNoStitch : GM := (yX7_whyNoStitch, cX7_whyNoStitch, 1, (some .int), (2, 41, 0, 0), [])
abbrev mX7_whyNoMending : GM := (yX7_whyNoMending, cX7_whyNoMending, 2, (some .int), (7, 104, 1, 6), [])
abbrev mX7_couldSew : GM := (yX7_couldSew, cX7_couldSew, 1, (some .int), (4, 91, 0, 0), [])
abbrev mX7_nearestByRings : GM := (yX7_nearestByRings, cX7_nearestByRings, 2, (some .int), (7, 115, 1, 6), [])
abbrev mX7_nearestByCells : GM := (yX7_nearestByCells, cX7_nearestByCells, 2, (some .int), (7, 104, 1, 6), [])
abbrev mX7_loopsBy : GM := (yX7_loopsBy, cX7_loopsBy, 1, (some .int), (7, 161, 1, 6), [])
abbrev mX7_needleBy : GM := (yX7_needleBy, cX7_needleBy, 1, (some .int), (7, 161, 1, 6), [])
abbrev mX7_yarnBy : GM := (yX7_yarnBy, cX7_yarnBy, 2, (some .int), (7, 161, 2, 12), [])
abbrev mX7_simulate : GM := (yX7_simulate, cX7_simulate, 7, (some .int), (7, 164, 1, 6), [])
abbrev mX7_save : GM := (yX7_save, cX7_save, 2, (some .int), (7, 104, 21, 972), [])
abbrev mX7_restore : GM := (yX7_restore, cX7_restore, 3, (some .int), (7, 104, 2, 12), [])
abbrev mX7_tryText : GM := (yX7_tryText, cX7_tryText, 1, none, (6, 141, 0, 0), [])
abbrev mX7_simulateTurn : GM := (yX7_simulateTurn, cX7_simulateTurn, 4, none, (6, 141, 0, 0), [])
abbrev mX7_needThreaded : GM := (yX7_needThreaded, cX7_needThreaded, 1, none, (6, 84, 1, 6), [])
abbrev mX7_needMotifText : GM := (yX7_needMotifText, cX7_needMotifText, 1, none, (6, 84, 1, 6), [])
abbrev mX7_needCell : GM := (yX7_needCell, cX7_needCell, 1, none, (6, 84, 1, 6), [])
abbrev mX7_needColour : GM := (yX7_needColour, cX7_needColour, 1, none, (6, 84, 1, 6), [])
abbrev mX7_needMotif : GM := (yX7_needMotif, cX7_needMotif, 1, none, (6, 84, 1, 6), [])
abbrev mX7_needSlot : GM := (yX7_needSlot, cX7_needSlot, 1, none, (6, 84, 1, 6), [])
abbrev mX7_needRange : GM := (yX7_needRange, cX7_needRange, 3, none, (6, 84, 1, 6), [])
abbrev mX7_yarnForLoop : GM := (yX7_yarnForLoop, cX7_yarnForLoop, 1, (some .int), (0, 0, 0, 0), [])
abbrev mX7_beside : GM := (yX7_beside, cX7_beside, 4, (some .int), (0, 0, 0, 0), [])
abbrev mX8_init : GM := (yX8_init, cX8_init, 2, none, (1, 20, 12, 17432), [])
abbrev mX8_thrown : GM := (yX8_thrown, cX8_thrown, 1, (some .int), (0, 0, 0, 0), [])
abbrev mX8_refused : GM := (yX8_refused, cX8_refused, 2, (some .boolean), (0, 0, 0, 0), [])
abbrev mX8_in : GM := (yX8_in, cX8_in, 6, (some .boolean), (0, 0, 0, 0), [])
abbrev mX8_copy : GM := (yX8_copy, cX8_copy, 3, none, (0, 0, 0, 0), [])
abbrev mX8_isCell : GM := (yX8_isCell, cX8_isCell, 1, (some .boolean), (1, 25, 0, 0), [])
abbrev mX8_isColour : GM := (yX8_isColour, cX8_isColour, 1, (some .boolean), (1, 25, 0, 0), [])
abbrev mX8_hasLoop : GM := (yX8_hasLoop, cX8_hasLoop, 2, (some .boolean), (1, 25, 0, 0), [])
abbrev mX8_yarn : GM := (yX8_yarn, cX8_yarn, 1, (some .int), (0, 0, 0, 0), [])
abbrev mX8_isMissing : GM := (yX8_isMissing, cX8_isMissing, 2, (some .boolean), (2, 46, 0, 0), [])
abbrev mX8_cone : GM := (yX8_cone, cX8_cone, 3, (some .int), (0, 0, 0, 0), [])
abbrev mX8_drawn : GM := (yX8_drawn, cX8_drawn, 2, (some .int), (1, 22, 0, 0), [])
abbrev mX8_next : GM := (yX8_next, cX8_next, 4, (some .int), (1, 25, 0, 0), [])
abbrev mX8_draw : GM := (yX8_draw, cX8_draw, 6, none, (1, 22, 0, 0), [])
abbrev mX8_pull : GM := (yX8_pull, cX8_pull, 7, none, (2, 47, 0, 0), [])
abbrev mX8_goCut : GM := (yX8_goCut, cX8_goCut, 2, (some .int), (2, 47, 0, 0), [])
abbrev mX8_goThread : GM := (yX8_goThread, cX8_goThread, 3, (some .int), (3, 68, 0, 0), [])
abbrev mX8_noStitch : GM := (yX8_noStitch, cX8_noStitch, 2, (some .int), (2, 46, 0, 0), [])
abbrev mX8_stitch : GM := (yX8_stitch, cX8_stitch, 4, (some .boolean), (3, 73, 0, 0), [])
abbrev mX8_goSew : GM := (yX8_goSew, cX8_goSew, 4, (some .int), (4, 96, 0, 0), [])
abbrev mX8_goJump : GM := (yX8_goJump, cX8_goJump, 3, (some .int), (3, 73, 0, 0), [])
abbrev mX8_goTurn : GM := (yX8_goTurn, cX8_goTurn, 2, (some .int), (0, 0, 0, 0), [])
abbrev mX8_goEase : GM := (yX8_goEase, cX8_goEase, 2, (some .int), (2, 47, 0, 0), [])
abbrev mX8_goUnpick : GM := (yX8_goUnpick, cX8_goUnpick, 3, (some .int), (1, 20, 0, 0), [])
abbrev mX8_goShear : GM := (yX8_goShear, cX8_goShear, 4, (some .int), (2, 46, 0, 0), [])
abbrev mX8_loops : GM := (yX8_loops, cX8_loops, 3, (some .int), (2, 46, 0, 0), [])
abbrev mX8_sign : GM := (yX8_sign, cX8_sign, 4, (some .int), (0, 0, 0, 0), [])
abbrev mX8_push : GM := (yX8_push, cX8_push, 5, none, (0, 0, 0, 0), [])
abbrev mX8_fails : GM := (yX8_fails, cX8_fails, 2, none, (0, 0, 0, 0), [])
abbrev mX8_order : GM := (yX8_order, cX8_order, 9, none, (5, 119, 0, 0), [])
abbrev mX8_goRun : GM := (yX8_goRun, cX8_goRun, 6, (some .int), (6, 147, 0, 0), [])
abbrev mX8_remember : GM := (yX8_remember, cX8_remember, 2, none, (0, 0, 0, 0), [])
abbrev mX8_change : GM := (yX8_change, cX8_change, 4, (some .int), (1, 21, 0, 0), [])
abbrev mX8_append : GM := (yX8_append, cX8_append, 2, (some .int), (1, 25, 0, 0), [])
abbrev mX8_clearText : GM := (yX8_clearText, cX8_clearText, 2, (some .int), (0, 0, 0, 0), [])
abbrev mX8_here : GM := (yX8_here, cX8_here, 1, (some .int), (0, 0, 0, 0), [])
abbrev mX8_take : GM := (yX8_take, cX8_take, 2, none, (0, 0, 0, 0), [])
abbrev mX8_digit : GM := (yX8_digit, cX8_digit, 4, (some .int), (1, 25, 0, 0), [])
abbrev mX8_readPlain : GM := (yX8_readPlain, cX8_readPlain, 4, none, (2, 48, 0, 0), [])
abbrev mX8_readOrder : GM := (yX8_readOrder, cX8_readOrder, 1, none, (3, 71, 0, 0), [])
abbrev mX8_readAll : GM := (yX8_readAll, cX8_readAll, 1, (some .int), (4, 91, 0, 0), [])
abbrev mX8_errorPosition : GM := (yX8_errorPosition, cX8_errorPosition, 1, (some .int), (5, 111, 0, 0), [])
abbrev mX8_noCell : GM := (yX8_noCell, cX8_noCell, 2, (some .boolean), (2, 45, 0, 0), [])
abbrev mX8_noColour : GM := (yX8_noColour, cX8_noColour, 2, (some .boolean), (2, 45, 0, 0), [])
abbrev mX8_planOf : GM := (yX8_planOf, cX8_planOf, 2, (some .int), (3, 66, 0, 0), [])
abbrev mX8_loopOf : GM := (yX8_loopOf, cX8_loopOf, 2, (some .int), (3, 66, 0, 0), [])
abbrev mX8_heightOf : GM := (yX8_heightOf, cX8_heightOf, 2, (some .int), (3, 66, 0, 0), [])
abbrev mX8_isSkipped : GM := (yX8_isSkipped, cX8_isSkipped, 2, (some .boolean), (3, 66, 0, 0), [])
abbrev mX8_right : GM := (yX8_right, cX8_right, 3, (some .int), (2, 46, 0, 0), [])
abbrev mX8_missing : GM := (yX8_missing, cX8_missing, 3, (some .int), (3, 67, 0, 0), [])
abbrev mX8_wrong : GM := (yX8_wrong, cX8_wrong, 3, (some .int), (2, 46, 0, 0), [])
abbrev mX8_skippedIn : GM := (yX8_skippedIn, cX8_skippedIn, 3, (some .int), (0, 0, 0, 0), [])
abbrev mX8_skipped : GM := (yX8_skipped, cX8_skipped, 1, (some .int), (1, 22, 0, 0), [])
abbrev mX8_areas : GM := (yX8_areas, cX8_areas, 7, (some .int), (2, 48, 0, 0), [])
abbrev mX8_areasBySpreading : GM := (yX8_areasBySpreading, cX8_areasBySpreading, 2, (some .int), (3, 74, 0, 0), [])
abbrev mX8_areasByJoining : GM := (yX8_areasByJoining, cX8_areasByJoining, 2, (some .int), (3, 74, 0, 0), [])
abbrev mX8_density : GM := (yX8_density, cX8_density, 1, (some .float), (3, 68, 0, 0), [])
abbrev mX8_meanHeight : GM := (yX8_meanHeight, cX8_meanHeight, 3, (some .double), (3, 68, 0, 0), [])
abbrev mX8_tell : GM := (yX8_tell, cX8_tell, 2, (some .int), (0, 0, 0, 0), [])
abbrev mX8_needle : GM := (yX8_needle, cX8_needle, 1, (some .int), (1, 21, 0, 0), [])
abbrev mX8_heading : GM := (yX8_heading, cX8_heading, 1, (some .int), (1, 21, 0, 0), [])
abbrev mX8_threaded : GM := (yX8_threaded, cX8_threaded, 1, (some .int), (1, 21, 0, 0), [])
abbrev mX8_height : GM := (yX8_height, cX8_height, 1, (some .int), (1, 21, 0, 0), [])
abbrev mX8_tension : GM := (yX8_tension, cX8_tension, 1, (some .int), (1, 21, 0, 0), [])
abbrev mX8_canGo : GM := (yX8_canGo, cX8_canGo, 1, (some .boolean), (2, 48, 0, 0), [])
abbrev mX8_wouldSkip : GM := (yX8_wouldSkip, cX8_wouldSkip, 1, (some .boolean), (1, 21, 0, 0), [])
abbrev mX8_coneOf : GM := (yX8_coneOf, cX8_coneOf, 2, (some .int), (3, 66, 0, 0), [])
abbrev mX8_drawnByCone : GM := (yX8_drawnByCone, cX8_drawnByCone, 2, (some .int), (3, 66, 0, 0), [])
abbrev mX8_drawnByRug : GM := (yX8_drawnByRug, cX8_drawnByRug, 2, (some .int), (3, 66, 0, 0), [])
abbrev mX8_wasteOf : GM := (yX8_wasteOf, cX8_wasteOf, 2, (some .int), (3, 66, 0, 0), [])
abbrev mX8_neededFor : GM := (yX8_neededFor, cX8_neededFor, 4, (some .int), (3, 67, 0, 0), [])
abbrev mX8_untilKnot : GM := (yX8_untilKnot, cX8_untilKnot, 2, (some .int), (3, 66, 0, 0), [])
abbrev mX8_knots : GM := (yX8_knots, cX8_knots, 1, (some .int), (1, 21, 0, 0), [])
abbrev mX8_isMotif : GM := (yX8_isMotif, cX8_isMotif, 1, (some .boolean), (1, 25, 0, 0), [])
abbrev mX8_motifLength : GM := (yX8_motifLength, cX8_motifLength, 2, (some .int), (2, 45, 0, 0), [])
abbrev mX8_motifSign : GM := (yX8_motifSign, cX8_motifSign, 4, (some .int), (2, 45, 0, 0), [])
abbrev mX8_setPlan : GM := (yX8_setPlan, cX8_setPlan, 4, (some .int), (2, 45, 0, 0), [])
abbrev mX8_fillPlan : GM := (yX8_fillPlan, cX8_fillPlan, 11, (some .int), (2, 45, 0, 0), [])
abbrev mX8_thread : GM := (yX8_thread, cX8_thread, 3, (some .int), (4, 90, 0, 0), [])
abbrev mX8_cut : GM := (yX8_cut, cX8_cut, 1, (some .int), (3, 68, 0, 0), [])
abbrev mX8_sew : GM := (yX8_sew, cX8_sew, 2, (some .int), (5, 119, 0, 0), [])
abbrev mX8_jump : GM := (yX8_jump, cX8_jump, 2, (some .int), (4, 95, 0, 0), [])
abbrev mX8_turnLeft : GM := (yX8_turnLeft, cX8_turnLeft, 1, (some .int), (1, 21, 0, 0), [])
abbrev mX8_turnRight : GM := (yX8_turnRight, cX8_turnRight, 1, (some .int), (1, 21, 0, 0), [])
abbrev mX8_ease : GM := (yX8_ease, cX8_ease, 1, (some .int), (3, 68, 0, 0), [])
abbrev mX8_setHeight : GM := (yX8_setHeight, cX8_setHeight, 2, (some .int), (2, 44, 0, 0), [])
abbrev mX8_place : GM := (yX8_place, cX8_place, 5, (some .int), (2, 45, 0, 0), [])
abbrev mX8_wind : GM := (yX8_wind, cX8_wind, 5, (some .int), (2, 45, 0, 0), [])
abbrev mX8_noMending : GM := (yX8_noMending, cX8_noMending, 2, (some .int), (3, 67, 0, 0), [])
abbrev mX8_mend : GM := (yX8_mend, cX8_mend, 3, (some .int), (4, 88, 0, 0), [])
abbrev mX8_unpick : GM := (yX8_unpick, cX8_unpick, 3, (some .int), (2, 46, 0, 0), [])
abbrev mX8_shear : GM := (yX8_shear, cX8_shear, 2, (some .int), (3, 69, 0, 0), [])
abbrev mX8_store : GM := (yX8_store, cX8_store, 4, (some .int), (5, 111, 0, 0), [])
abbrev mX8_run : GM := (yX8_run, cX8_run, 3, (some .int), (7, 172, 0, 0), [])
abbrev mX8_runText : GM := (yX8_runText, cX8_runText, 1, (some .int), (7, 172, 0, 0), [])
abbrev mX8_undo : GM := (yX8_undo, cX8_undo, 2, (some .int), (1, 21, 0, 0), [])
abbrev mX8_whyNoStitch : GM := (yX8_whyNoStitch, cX8_whyNoStitch, 1, (some .int), (3, 67, 0, 0), [])
abbrev mX8_whyNoMending : GM := (yX8_whyNoMending, cX8_whyNoMending, 2, (some .int), (4, 88, 0, 0), [])
abbrev mX8_couldSew : GM := (yX8_couldSew, cX8_couldSew, 1, (some .int), (5, 119, 0, 0), [])
abbrev mX8_nearest : GM := (yX8_nearest, cX8_nearest, 11, (some .int), (3, 67, 0, 0), [])
abbrev mX8_nearestByRings : GM := (yX8_nearestByRings, cX8_nearestByRings, 2, (some .int), (4, 97, 0, 0), [])
abbrev mX8_nearestByCells : GM := (yX8_nearestByCells, cX8_nearestByCells, 2, (some .int), (4, 97, 0, 0), [])
abbrev mX8_tried : GM := (yX8_tried, cX8_tried, 2, (some .boolean), (7, 172, 0, 0), [])
abbrev mX8_loopsBy : GM := (yX8_loopsBy, cX8_loopsBy, 1, (some .int), (8, 193, 0, 0), [])
abbrev mX8_needleBy : GM := (yX8_needleBy, cX8_needleBy, 1, (some .int), (8, 193, 0, 0), [])
abbrev mX8_yarnBy : GM := (yX8_yarnBy, cX8_yarnBy, 2, (some .int), (8, 193, 0, 0), [])
abbrev mX8_stir : GM := (yX8_stir, cX8_stir, 5, (some .int), (7, 172, 0, 0), [])
abbrev mX8_simulate : GM := (yX8_simulate, cX8_simulate, 8, (some .int), (8, 196, 0, 0), [])
abbrev mX8_save : GM := (yX8_save, cX8_save, 3, (some .int), (3, 68, 0, 0), [])
abbrev mX8_restore : GM := (yX8_restore, cX8_restore, 3, (some .int), (3, 68, 0, 0), [])
abbrev mL_append : GM := (yL_append, cL_append, 4, (some .int), (8, 127, 2, 12), [(0, 9, 12, 13), (0, 9, 15, 15)])
abbrev mL_planOf : GM := (yL_planOf, cL_planOf, 4, (some .int), (8, 125, 1, 6), [(0, 9, 12, 20)])
abbrev mL_loopOf : GM := (yL_loopOf, cL_loopOf, 4, (some .int), (8, 125, 1, 6), [(0, 9, 12, 20)])
abbrev mL_heightOf : GM := (yL_heightOf, cL_heightOf, 4, (some .int), (8, 125, 1, 6), [(0, 9, 12, 20)])
abbrev mL_isSkipped : GM := (yL_isSkipped, cL_isSkipped, 4, (some .int), (8, 125, 1, 6), [(0, 16, 19, 20)])
abbrev mL_areasBySpreading : GM := (yL_areasBySpreading, cL_areasBySpreading, 4, (some .int), (8, 125, 1, 6), [(0, 9, 12, 20)])
abbrev mL_areasByJoining : GM := (yL_areasByJoining, cL_areasByJoining, 4, (some .int), (8, 125, 1, 6), [(0, 9, 12, 20)])
abbrev mL_coneOf : GM := (yL_coneOf, cL_coneOf, 4, (some .int), (8, 125, 1, 6), [(0, 9, 12, 20)])
abbrev mL_drawnByCone : GM := (yL_drawnByCone, cL_drawnByCone, 4, (some .int), (8, 125, 1, 6), [(0, 9, 12, 20)])
abbrev mL_drawnByRug : GM := (yL_drawnByRug, cL_drawnByRug, 4, (some .int), (8, 125, 1, 6), [(0, 9, 12, 20)])
abbrev mL_wasteOf : GM := (yL_wasteOf, cL_wasteOf, 4, (some .int), (8, 125, 1, 6), [(0, 9, 12, 20)])
abbrev mL_neededFor : GM := (yL_neededFor, cL_neededFor, 4, (some .int), (8, 125, 1, 6), [(0, 9, 12, 20)])
abbrev mL_untilKnot : GM := (yL_untilKnot, cL_untilKnot, 4, (some .int), (8, 125, 1, 6), [(0, 9, 12, 20)])
abbrev mL_motifLength : GM := (yL_motifLength, cL_motifLength, 4, (some .int), (8, 126, 1, 6), [(0, 9, 12, 20)])
abbrev mL_motifSign : GM := (yL_motifSign, cL_motifSign, 5, (some .int), (8, 127, 2, 12), [(0, 10, 13, 20)])
abbrev mL_setPlan : GM := (yL_setPlan, cL_setPlan, 5, (some .int), (8, 136, 22, 978), [(0, 10, 13, 20), (0, 10, 17, 13)])
abbrev mL_fillPlan : GM := (yL_fillPlan, cL_fillPlan, 6, (some .int), (8, 136, 23, 984), [(0, 12, 15, 20), (0, 12, 19, 13)])
abbrev mL_thread : GM := (yL_thread, cL_thread, 4, (some .int), (8, 134, 22, 978), [(0, 9, 12, 20), (0, 9, 15, 15)])
abbrev mL_cut : GM := (yL_cut, cL_cut, 3, (some .int), (8, 134, 21, 972), [(0, 8, 11, 15)])
abbrev mL_sew : GM := (yL_sew, cL_sew, 4, (some .int), (8, 134, 22, 978), [(0, 9, 12, 13), (0, 9, 15, 15)])
abbrev mL_jump : GM := (yL_jump, cL_jump, 4, (some .int), (8, 134, 21, 972), [(0, 9, 12, 13)])
abbrev mL_ease : GM := (yL_ease, cL_ease, 3, (some .int), (8, 134, 21, 972), [(0, 8, 11, 15)])
abbrev mL_setHeight : GM := (yL_setHeight, cL_setHeight, 4, (some .int), (8, 135, 21, 972), [(0, 9, 12, 13)])
abbrev mL_place : GM := (yL_place, cL_place, 5, (some .int), (8, 136, 23, 984), [(0, 10, 13, 20), (0, 10, 17, 13), (0, 10, 21, 15)])
abbrev mL_wind : GM := (yL_wind, cL_wind, 5, (some .int), (8, 135, 23, 984), [(0, 10, 13, 20), (0, 10, 17, 13), (0, 10, 21, 15)])
abbrev mL_mend : GM := (yL_mend, cL_mend, 4, (some .int), (8, 134, 22, 978), [(0, 9, 12, 20), (0, 9, 15, 15)])
abbrev mL_unpick : GM := (yL_unpick, cL_unpick, 4, (some .int), (8, 135, 22, 978), [(0, 9, 12, 20), (0, 9, 15, 15)])
abbrev mL_shear : GM := (yL_shear, cL_shear, 4, (some .int), (8, 134, 21, 972), [(0, 9, 12, 13)])
abbrev mL_store : GM := (yL_store, cL_store, 4, (some .int), (8, 134, 23, 984), [(0, 9, 12, 20), (0, 9, 15, 15)])
abbrev mL_run : GM := (yL_run, cL_run, 4, (some .int), (8, 163, 22, 978), [(0, 9, 12, 20), (0, 9, 15, 15)])
abbrev mL_runText : GM := (yL_runText, cL_runText, 3, (some .int), (8, 161, 21, 972), [(0, 8, 11, 15)])
abbrev mL_undo : GM := (yL_undo, cL_undo, 3, (some .int), (7, 133, 1, 6), [(0, 8, 11, 15)])
abbrev mL_whyNoMending : GM := (yL_whyNoMending, cL_whyNoMending, 4, (some .int), (8, 125, 1, 6), [(0, 9, 12, 20)])
abbrev mL_nearestByRings : GM := (yL_nearestByRings, cL_nearestByRings, 4, (some .int), (8, 136, 1, 6), [(0, 9, 12, 20)])
abbrev mL_nearestByCells : GM := (yL_nearestByCells, cL_nearestByCells, 4, (some .int), (8, 125, 1, 6), [(0, 9, 12, 20)])
abbrev mL_loopsBy : GM := (yL_loopsBy, cL_loopsBy, 3, (some .int), (8, 181, 1, 6), [(0, 8, 11, 15)])
abbrev mL_needleBy : GM := (yL_needleBy, cL_needleBy, 3, (some .int), (8, 181, 1, 6), [(0, 8, 11, 15)])
abbrev mL_yarnBy : GM := (yL_yarnBy, cL_yarnBy, 4, (some .int), (8, 182, 2, 12), [(0, 9, 12, 20), (0, 9, 15, 15)])
abbrev mL_simulate : GM := (yL_simulate, cL_simulate, 6, (some .int), (8, 190, 1, 6), [(0, 11, 14, 13)])
abbrev mL_save : GM := (yL_save, cL_save, 4, (some .int), (8, 125, 21, 972), [(0, 9, 12, 20)])
abbrev mL_restore : GM := (yL_restore, cL_restore, 4, (some .int), (8, 126, 2, 12), [(0, 9, 12, 20), (0, 9, 15, 15)])
abbrev mL_law : GM := (yL_law, cL_law, 9, (some .boolean), (11, 446, 601024, 7293034), [])
abbrev mJ_abs : GM := (yJ_abs, cJ_abs, 1, (some .int), (0, 0, 0, 0), [])
abbrev mJ_floorMod : GM := (yJ_floorMod, cJ_floorMod, 3, (some .int), (0, 0, 0, 0), [])
abbrev mJ_max : GM := (yJ_max, cJ_max, 2, (some .int), (0, 0, 0, 0), [])
abbrev mJ_min : GM := (yJ_min, cJ_min, 2, (some .int), (0, 0, 0, 0), [])
end
section
theorem dX0_init_0 : dc mX0_init 0 (.aload_n 0) 1 := by decide +kernel
theorem dX0_init_1 : dc mX0_init 1 (.invokespecial 3) 3 := by decide +kernel
theorem dX0_init_4 : dc mX0_init 4 (.aload_n 0) 1 := by decide +kernel
theorem dX0_init_5 : dc mX0_init 5 (.sipush 144) 3 := by decide +kernel
theorem dX0_init_8 : dc mX0_init 8 (.newarray .boolean) 2 := by decide +kernel
theorem dX0_init_10 : dc mX0_init 10 (.putfield 9) 3 := by decide +kernel
theorem dX0_init_13 : dc mX0_init 13 (.aload_n 0) 1 := by decide +kernel
theorem dX0_init_14 : dc mX0_init 14 (.sipush 144) 3 := by decide +kernel
theorem dX0_init_17 : dc mX0_init 17 (.newarray .int) 2 := by decide +kernel
theorem dX0_init_19 : dc mX0_init 19 (.putfield 15) 3 := by decide +kernel
theorem dX0_init_22 : dc mX0_init 22 (.aload_n 0) 1 := by decide +kernel
theorem dX0_init_23 : dc mX0_init 23 (.sipush 144) 3 := by decide +kernel
theorem dX0_init_26 : dc mX0_init 26 (.newarray .int) 2 := by decide +kernel
theorem dX0_init_28 : dc mX0_init 28 (.putfield 19) 3 := by decide +kernel
theorem dX0_init_31 : dc mX0_init 31 .return_ 1 := by decide +kernel
theorem dX0_countSpreading_0 : dc mX0_countSpreading 0 (.iconst 0) 1 := by decide +kernel
theorem dX0_countSpreading_1 : dc mX0_countSpreading 1 (.istore_n 3) 1 := by decide +kernel
theorem dX0_countSpreading_2 : dc mX0_countSpreading 2 (.iload_n 3) 1 := by decide +kernel
theorem dX0_countSpreading_3 : dc mX0_countSpreading 3 (.sipush 144) 3 := by decide +kernel
theorem dX0_countSpreading_6 : dc mX0_countSpreading 6 (.if_icmp .ge 29) 3 := by decide +kernel
theorem dX0_countSpreading_9 : dc mX0_countSpreading 9 (.aload_n 0) 1 := by decide +kernel
theorem dX0_countSpreading_10 : dc mX0_countSpreading 10 (.getfield 9) 3 := by decide +kernel
theorem dX0_countSpreading_13 : dc mX0_countSpreading 13 (.iload_n 3) 1 := by decide +kernel
theorem dX0_countSpreading_14 : dc mX0_countSpreading 14 (.aload_n 1) 1 := by decide +kernel
theorem dX0_countSpreading_15 : dc mX0_countSpreading 15 (.iload_n 3) 1 := by decide +kernel
theorem dX0_countSpreading_16 : dc mX0_countSpreading 16 (.invokevirtual 22) 3 := by decide +kernel
theorem dX0_countSpreading_19 : dc mX0_countSpreading 19 (.iload_n 2) 1 := by decide +kernel
theorem dX0_countSpreading_20 : dc mX0_countSpreading 20 (.if_icmp .ne 7) 3 := by decide +kernel
theorem dX0_countSpreading_23 : dc mX0_countSpreading 23 (.iconst 1) 1 := by decide +kernel
theorem dX0_countSpreading_24 : dc mX0_countSpreading 24 (.goto 4) 3 := by decide +kernel
theorem dX0_countSpreading_27 : dc mX0_countSpreading 27 (.iconst 0) 1 := by decide +kernel
theorem dX0_countSpreading_28 : dc mX0_countSpreading 28 .bastore 1 := by decide +kernel
theorem dX0_countSpreading_29 : dc mX0_countSpreading 29 (.iinc 3 1) 3 := by decide +kernel
theorem dX0_countSpreading_32 : dc mX0_countSpreading 32 (.goto (-30)) 3 := by decide +kernel
theorem dX0_countSpreading_35 : dc mX0_countSpreading 35 (.iconst 0) 1 := by decide +kernel
theorem dX0_countSpreading_36 : dc mX0_countSpreading 36 (.istore_n 3) 1 := by decide +kernel
theorem dX0_countSpreading_37 : dc mX0_countSpreading 37 (.iconst 0) 1 := by decide +kernel
theorem dX0_countSpreading_38 : dc mX0_countSpreading 38 (.istore 4) 2 := by decide +kernel
theorem dX0_countSpreading_40 : dc mX0_countSpreading 40 (.iload 4) 2 := by decide +kernel
theorem dX0_countSpreading_42 : dc mX0_countSpreading 42 (.sipush 144) 3 := by decide +kernel
theorem dX0_countSpreading_45 : dc mX0_countSpreading 45 (.if_icmp .ge 28) 3 := by decide +kernel
theorem dX0_countSpreading_48 : dc mX0_countSpreading 48 (.aload_n 0) 1 := by decide +kernel
theorem dX0_countSpreading_49 : dc mX0_countSpreading 49 (.getfield 9) 3 := by decide +kernel
theorem dX0_countSpreading_52 : dc mX0_countSpreading 52 (.iload 4) 2 := by decide +kernel
theorem dX0_countSpreading_54 : dc mX0_countSpreading 54 .baload 1 := by decide +kernel
theorem dX0_countSpreading_55 : dc mX0_countSpreading 55 (.ifCond .eq 12) 3 := by decide +kernel
theorem dX0_countSpreading_58 : dc mX0_countSpreading 58 (.iinc 3 1) 3 := by decide +kernel
theorem dX0_countSpreading_61 : dc mX0_countSpreading 61 (.aload_n 0) 1 := by decide +kernel
theorem dX0_countSpreading_62 : dc mX0_countSpreading 62 (.iload 4) 2 := by decide +kernel
theorem dX0_countSpreading_64 : dc mX0_countSpreading 64 (.invokevirtual 28) 3 := by decide +kernel
theorem dX0_countSpreading_67 : dc mX0_countSpreading 67 (.iinc 4 1) 3 := by decide +kernel
theorem dX0_countSpreading_70 : dc mX0_countSpreading 70 (.goto (-30)) 3 := by decide +kernel
theorem dX0_countSpreading_73 : dc mX0_countSpreading 73 (.iload_n 3) 1 := by decide +kernel
theorem dX0_countSpreading_74 : dc mX0_countSpreading 74 .ireturn 1 := by decide +kernel
theorem dX0_spreadFrom_0 : dc mX0_spreadFrom 0 (.aload_n 0) 1 := by decide +kernel
theorem dX0_spreadFrom_1 : dc mX0_spreadFrom 1 (.iconst 0) 1 := by decide +kernel
theorem dX0_spreadFrom_2 : dc mX0_spreadFrom 2 (.putfield 32) 3 := by decide +kernel
theorem dX0_spreadFrom_5 : dc mX0_spreadFrom 5 (.aload_n 0) 1 := by decide +kernel
theorem dX0_spreadFrom_6 : dc mX0_spreadFrom 6 (.iload_n 1) 1 := by decide +kernel
theorem dX0_spreadFrom_7 : dc mX0_spreadFrom 7 (.invokevirtual 36) 3 := by decide +kernel
theorem dX0_spreadFrom_10 : dc mX0_spreadFrom 10 (.iconst 0) 1 := by decide +kernel
theorem dX0_spreadFrom_11 : dc mX0_spreadFrom 11 (.istore_n 2) 1 := by decide +kernel
theorem dX0_spreadFrom_12 : dc mX0_spreadFrom 12 (.iload_n 2) 1 := by decide +kernel
theorem dX0_spreadFrom_13 : dc mX0_spreadFrom 13 (.aload_n 0) 1 := by decide +kernel
theorem dX0_spreadFrom_14 : dc mX0_spreadFrom 14 (.getfield 32) 3 := by decide +kernel
theorem dX0_spreadFrom_17 : dc mX0_spreadFrom 17 (.if_icmp .ge 43) 3 := by decide +kernel
theorem dX0_spreadFrom_20 : dc mX0_spreadFrom 20 (.iload_n 2) 1 := by decide +kernel
theorem dX0_spreadFrom_21 : dc mX0_spreadFrom 21 (.sipush 144) 3 := by decide +kernel
theorem dX0_spreadFrom_24 : dc mX0_spreadFrom 24 (.if_icmp .ge 36) 3 := by decide +kernel
theorem dX0_spreadFrom_27 : dc mX0_spreadFrom 27 (.iconst 0) 1 := by decide +kernel
theorem dX0_spreadFrom_28 : dc mX0_spreadFrom 28 (.istore_n 3) 1 := by decide +kernel
theorem dX0_spreadFrom_29 : dc mX0_spreadFrom 29 (.iload_n 3) 1 := by decide +kernel
theorem dX0_spreadFrom_30 : dc mX0_spreadFrom 30 (.iconst 4) 1 := by decide +kernel
theorem dX0_spreadFrom_31 : dc mX0_spreadFrom 31 (.if_icmp .ge 23) 3 := by decide +kernel
theorem dX0_spreadFrom_34 : dc mX0_spreadFrom 34 (.aload_n 0) 1 := by decide +kernel
theorem dX0_spreadFrom_35 : dc mX0_spreadFrom 35 (.aload_n 0) 1 := by decide +kernel
theorem dX0_spreadFrom_36 : dc mX0_spreadFrom 36 (.getfield 15) 3 := by decide +kernel
theorem dX0_spreadFrom_39 : dc mX0_spreadFrom 39 (.iload_n 2) 1 := by decide +kernel
theorem dX0_spreadFrom_40 : dc mX0_spreadFrom 40 .iaload 1 := by decide +kernel
theorem dX0_spreadFrom_41 : dc mX0_spreadFrom 41 (.iload_n 3) 1 := by decide +kernel
theorem dX0_spreadFrom_42 : dc mX0_spreadFrom 42 (.invokestatic 39) 3 := by decide +kernel
theorem dX0_spreadFrom_45 : dc mX0_spreadFrom 45 (.invokevirtual 36) 3 := by decide +kernel
theorem dX0_spreadFrom_48 : dc mX0_spreadFrom 48 (.iinc 3 1) 3 := by decide +kernel
theorem dX0_spreadFrom_51 : dc mX0_spreadFrom 51 (.goto (-22)) 3 := by decide +kernel
theorem dX0_spreadFrom_54 : dc mX0_spreadFrom 54 (.iinc 2 1) 3 := by decide +kernel
theorem dX0_spreadFrom_57 : dc mX0_spreadFrom 57 (.goto (-45)) 3 := by decide +kernel
theorem dX0_spreadFrom_60 : dc mX0_spreadFrom 60 .return_ 1 := by decide +kernel
theorem dX0_reach_0 : dc mX0_reach 0 (.iload_n 1) 1 := by decide +kernel
theorem dX0_reach_1 : dc mX0_reach 1 (.ifCond .lt 63) 3 := by decide +kernel
theorem dX0_reach_4 : dc mX0_reach 4 (.iload_n 1) 1 := by decide +kernel
theorem dX0_reach_5 : dc mX0_reach 5 (.sipush 144) 3 := by decide +kernel
theorem dX0_reach_8 : dc mX0_reach 8 (.if_icmp .ge 56) 3 := by decide +kernel
theorem dX0_reach_11 : dc mX0_reach 11 (.aload_n 0) 1 := by decide +kernel
theorem dX0_reach_12 : dc mX0_reach 12 (.getfield 9) 3 := by decide +kernel
theorem dX0_reach_15 : dc mX0_reach 15 (.iload_n 1) 1 := by decide +kernel
theorem dX0_reach_16 : dc mX0_reach 16 .baload 1 := by decide +kernel
theorem dX0_reach_17 : dc mX0_reach 17 (.ifCond .eq 47) 3 := by decide +kernel
theorem dX0_reach_20 : dc mX0_reach 20 (.aload_n 0) 1 := by decide +kernel
theorem dX0_reach_21 : dc mX0_reach 21 (.getfield 32) 3 := by decide +kernel
theorem dX0_reach_24 : dc mX0_reach 24 (.ifCond .lt 40) 3 := by decide +kernel
theorem dX0_reach_27 : dc mX0_reach 27 (.aload_n 0) 1 := by decide +kernel
theorem dX0_reach_28 : dc mX0_reach 28 (.getfield 32) 3 := by decide +kernel
theorem dX0_reach_31 : dc mX0_reach 31 (.sipush 144) 3 := by decide +kernel
theorem dX0_reach_34 : dc mX0_reach 34 (.if_icmp .ge 30) 3 := by decide +kernel
theorem dX0_reach_37 : dc mX0_reach 37 (.aload_n 0) 1 := by decide +kernel
theorem dX0_reach_38 : dc mX0_reach 38 (.getfield 9) 3 := by decide +kernel
theorem dX0_reach_41 : dc mX0_reach 41 (.iload_n 1) 1 := by decide +kernel
theorem dX0_reach_42 : dc mX0_reach 42 (.iconst 0) 1 := by decide +kernel
theorem dX0_reach_43 : dc mX0_reach 43 .bastore 1 := by decide +kernel
theorem dX0_reach_44 : dc mX0_reach 44 (.aload_n 0) 1 := by decide +kernel
theorem dX0_reach_45 : dc mX0_reach 45 (.getfield 15) 3 := by decide +kernel
theorem dX0_reach_48 : dc mX0_reach 48 (.aload_n 0) 1 := by decide +kernel
theorem dX0_reach_49 : dc mX0_reach 49 (.getfield 32) 3 := by decide +kernel
theorem dX0_reach_52 : dc mX0_reach 52 (.iload_n 1) 1 := by decide +kernel
theorem dX0_reach_53 : dc mX0_reach 53 .iastore 1 := by decide +kernel
theorem dX0_reach_54 : dc mX0_reach 54 (.aload_n 0) 1 := by decide +kernel
theorem dX0_reach_55 : dc mX0_reach 55 .dup 1 := by decide +kernel
theorem dX0_reach_56 : dc mX0_reach 56 (.getfield 32) 3 := by decide +kernel
theorem dX0_reach_59 : dc mX0_reach 59 (.iconst 1) 1 := by decide +kernel
theorem dX0_reach_60 : dc mX0_reach 60 .iadd 1 := by decide +kernel
theorem dX0_reach_61 : dc mX0_reach 61 (.putfield 32) 3 := by decide +kernel
theorem dX0_reach_64 : dc mX0_reach 64 .return_ 1 := by decide +kernel
theorem dX0_countJoining_0 : dc mX0_countJoining 0 (.iconst 0) 1 := by decide +kernel
theorem dX0_countJoining_1 : dc mX0_countJoining 1 (.istore_n 3) 1 := by decide +kernel
theorem dX0_countJoining_2 : dc mX0_countJoining 2 (.iload_n 3) 1 := by decide +kernel
theorem dX0_countJoining_3 : dc mX0_countJoining 3 (.sipush 144) 3 := by decide +kernel
theorem dX0_countJoining_6 : dc mX0_countJoining 6 (.if_icmp .ge 16) 3 := by decide +kernel
theorem dX0_countJoining_9 : dc mX0_countJoining 9 (.aload_n 0) 1 := by decide +kernel
theorem dX0_countJoining_10 : dc mX0_countJoining 10 (.getfield 19) 3 := by decide +kernel
theorem dX0_countJoining_13 : dc mX0_countJoining 13 (.iload_n 3) 1 := by decide +kernel
theorem dX0_countJoining_14 : dc mX0_countJoining 14 (.iload_n 3) 1 := by decide +kernel
theorem dX0_countJoining_15 : dc mX0_countJoining 15 .iastore 1 := by decide +kernel
theorem dX0_countJoining_16 : dc mX0_countJoining 16 (.iinc 3 1) 3 := by decide +kernel
theorem dX0_countJoining_19 : dc mX0_countJoining 19 (.goto (-17)) 3 := by decide +kernel
theorem dX0_countJoining_22 : dc mX0_countJoining 22 (.iconst 0) 1 := by decide +kernel
theorem dX0_countJoining_23 : dc mX0_countJoining 23 (.istore_n 3) 1 := by decide +kernel
theorem dX0_countJoining_24 : dc mX0_countJoining 24 (.iconst 0) 1 := by decide +kernel
theorem dX0_countJoining_25 : dc mX0_countJoining 25 (.istore 4) 2 := by decide +kernel
theorem dX0_countJoining_27 : dc mX0_countJoining 27 (.iload 4) 2 := by decide +kernel
theorem dX0_countJoining_29 : dc mX0_countJoining 29 (.sipush 144) 3 := by decide +kernel
theorem dX0_countJoining_32 : dc mX0_countJoining 32 (.if_icmp .ge 60) 3 := by decide +kernel
theorem dX0_countJoining_35 : dc mX0_countJoining 35 (.aload_n 1) 1 := by decide +kernel
theorem dX0_countJoining_36 : dc mX0_countJoining 36 (.iload 4) 2 := by decide +kernel
theorem dX0_countJoining_38 : dc mX0_countJoining 38 (.invokevirtual 22) 3 := by decide +kernel
theorem dX0_countJoining_41 : dc mX0_countJoining 41 (.iload_n 2) 1 := by decide +kernel
theorem dX0_countJoining_42 : dc mX0_countJoining 42 (.if_icmp .ne 44) 3 := by decide +kernel
theorem dX0_countJoining_45 : dc mX0_countJoining 45 (.iinc 3 1) 3 := by decide +kernel
theorem dX0_countJoining_48 : dc mX0_countJoining 48 (.iload_n 3) 1 := by decide +kernel
theorem dX0_countJoining_49 : dc mX0_countJoining 49 (.aload_n 0) 1 := by decide +kernel
theorem dX0_countJoining_50 : dc mX0_countJoining 50 (.aload_n 1) 1 := by decide +kernel
theorem dX0_countJoining_51 : dc mX0_countJoining 51 (.iload 4) 2 := by decide +kernel
theorem dX0_countJoining_53 : dc mX0_countJoining 53 (.iconst 2) 1 := by decide +kernel
theorem dX0_countJoining_54 : dc mX0_countJoining 54 (.invokevirtual 43) 3 := by decide +kernel
theorem dX0_countJoining_57 : dc mX0_countJoining 57 (.ifCond .eq 7) 3 := by decide +kernel
theorem dX0_countJoining_60 : dc mX0_countJoining 60 (.iconst 1) 1 := by decide +kernel
theorem dX0_countJoining_61 : dc mX0_countJoining 61 (.goto 4) 3 := by decide +kernel
theorem dX0_countJoining_64 : dc mX0_countJoining 64 (.iconst 0) 1 := by decide +kernel
theorem dX0_countJoining_65 : dc mX0_countJoining 65 .isub 1 := by decide +kernel
theorem dX0_countJoining_66 : dc mX0_countJoining 66 (.istore_n 3) 1 := by decide +kernel
theorem dX0_countJoining_67 : dc mX0_countJoining 67 (.iload_n 3) 1 := by decide +kernel
theorem dX0_countJoining_68 : dc mX0_countJoining 68 (.aload_n 0) 1 := by decide +kernel
theorem dX0_countJoining_69 : dc mX0_countJoining 69 (.aload_n 1) 1 := by decide +kernel
theorem dX0_countJoining_70 : dc mX0_countJoining 70 (.iload 4) 2 := by decide +kernel
theorem dX0_countJoining_72 : dc mX0_countJoining 72 (.iconst 3) 1 := by decide +kernel
theorem dX0_countJoining_73 : dc mX0_countJoining 73 (.invokevirtual 43) 3 := by decide +kernel
theorem dX0_countJoining_76 : dc mX0_countJoining 76 (.ifCond .eq 7) 3 := by decide +kernel
theorem dX0_countJoining_79 : dc mX0_countJoining 79 (.iconst 1) 1 := by decide +kernel
theorem dX0_countJoining_80 : dc mX0_countJoining 80 (.goto 4) 3 := by decide +kernel
theorem dX0_countJoining_83 : dc mX0_countJoining 83 (.iconst 0) 1 := by decide +kernel
theorem dX0_countJoining_84 : dc mX0_countJoining 84 .isub 1 := by decide +kernel
theorem dX0_countJoining_85 : dc mX0_countJoining 85 (.istore_n 3) 1 := by decide +kernel
theorem dX0_countJoining_86 : dc mX0_countJoining 86 (.iinc 4 1) 3 := by decide +kernel
theorem dX0_countJoining_89 : dc mX0_countJoining 89 (.goto (-62)) 3 := by decide +kernel
theorem dX0_countJoining_92 : dc mX0_countJoining 92 (.iload_n 3) 1 := by decide +kernel
theorem dX0_countJoining_93 : dc mX0_countJoining 93 .ireturn 1 := by decide +kernel
theorem dX0_joinBeside_0 : dc mX0_joinBeside 0 (.iload_n 2) 1 := by decide +kernel
theorem dX0_joinBeside_1 : dc mX0_joinBeside 1 (.iload_n 3) 1 := by decide +kernel
theorem dX0_joinBeside_2 : dc mX0_joinBeside 2 (.invokestatic 39) 3 := by decide +kernel
theorem dX0_joinBeside_5 : dc mX0_joinBeside 5 (.istore 4) 2 := by decide +kernel
theorem dX0_joinBeside_7 : dc mX0_joinBeside 7 (.iload 4) 2 := by decide +kernel
theorem dX0_joinBeside_9 : dc mX0_joinBeside 9 (.iconst (-1)) 1 := by decide +kernel
theorem dX0_joinBeside_10 : dc mX0_joinBeside 10 (.if_icmp .eq 17) 3 := by decide +kernel
theorem dX0_joinBeside_13 : dc mX0_joinBeside 13 (.aload_n 1) 1 := by decide +kernel
theorem dX0_joinBeside_14 : dc mX0_joinBeside 14 (.iload 4) 2 := by decide +kernel
theorem dX0_joinBeside_16 : dc mX0_joinBeside 16 (.invokevirtual 22) 3 := by decide +kernel
theorem dX0_joinBeside_19 : dc mX0_joinBeside 19 (.aload_n 1) 1 := by decide +kernel
theorem dX0_joinBeside_20 : dc mX0_joinBeside 20 (.iload_n 2) 1 := by decide +kernel
theorem dX0_joinBeside_21 : dc mX0_joinBeside 21 (.invokevirtual 22) 3 := by decide +kernel
theorem dX0_joinBeside_24 : dc mX0_joinBeside 24 (.if_icmp .eq 5) 3 := by decide +kernel
theorem dX0_joinBeside_27 : dc mX0_joinBeside 27 (.iconst 0) 1 := by decide +kernel
theorem dX0_joinBeside_28 : dc mX0_joinBeside 28 .ireturn 1 := by decide +kernel
theorem dX0_joinBeside_29 : dc mX0_joinBeside 29 (.aload_n 0) 1 := by decide +kernel
theorem dX0_joinBeside_30 : dc mX0_joinBeside 30 (.iload_n 2) 1 := by decide +kernel
theorem dX0_joinBeside_31 : dc mX0_joinBeside 31 (.invokevirtual 47) 3 := by decide +kernel
theorem dX0_joinBeside_34 : dc mX0_joinBeside 34 (.istore 5) 2 := by decide +kernel
theorem dX0_joinBeside_36 : dc mX0_joinBeside 36 (.aload_n 0) 1 := by decide +kernel
theorem dX0_joinBeside_37 : dc mX0_joinBeside 37 (.iload 4) 2 := by decide +kernel
theorem dX0_joinBeside_39 : dc mX0_joinBeside 39 (.invokevirtual 47) 3 := by decide +kernel
theorem dX0_joinBeside_42 : dc mX0_joinBeside 42 (.istore 6) 2 := by decide +kernel
theorem dX0_joinBeside_44 : dc mX0_joinBeside 44 (.iload 5) 2 := by decide +kernel
theorem dX0_joinBeside_46 : dc mX0_joinBeside 46 (.iload 6) 2 := by decide +kernel
theorem dX0_joinBeside_48 : dc mX0_joinBeside 48 (.if_icmp .eq 16) 3 := by decide +kernel
theorem dX0_joinBeside_51 : dc mX0_joinBeside 51 (.iload 5) 2 := by decide +kernel
theorem dX0_joinBeside_53 : dc mX0_joinBeside 53 (.ifCond .lt 11) 3 := by decide +kernel
theorem dX0_joinBeside_56 : dc mX0_joinBeside 56 (.iload 5) 2 := by decide +kernel
theorem dX0_joinBeside_58 : dc mX0_joinBeside 58 (.sipush 144) 3 := by decide +kernel
theorem dX0_joinBeside_61 : dc mX0_joinBeside 61 (.if_icmp .lt 5) 3 := by decide +kernel
theorem dX0_joinBeside_64 : dc mX0_joinBeside 64 (.iconst 0) 1 := by decide +kernel
theorem dX0_joinBeside_65 : dc mX0_joinBeside 65 .ireturn 1 := by decide +kernel
theorem dX0_joinBeside_66 : dc mX0_joinBeside 66 (.aload_n 0) 1 := by decide +kernel
theorem dX0_joinBeside_67 : dc mX0_joinBeside 67 (.getfield 19) 3 := by decide +kernel
theorem dX0_joinBeside_70 : dc mX0_joinBeside 70 (.iload 5) 2 := by decide +kernel
theorem dX0_joinBeside_72 : dc mX0_joinBeside 72 (.iload 6) 2 := by decide +kernel
theorem dX0_joinBeside_74 : dc mX0_joinBeside 74 .iastore 1 := by decide +kernel
theorem dX0_joinBeside_75 : dc mX0_joinBeside 75 (.iconst 1) 1 := by decide +kernel
theorem dX0_joinBeside_76 : dc mX0_joinBeside 76 .ireturn 1 := by decide +kernel
theorem dX0_chiefOf_0 : dc mX0_chiefOf 0 (.iload_n 1) 1 := by decide +kernel
theorem dX0_chiefOf_1 : dc mX0_chiefOf 1 (.istore_n 2) 1 := by decide +kernel
theorem dX0_chiefOf_2 : dc mX0_chiefOf 2 (.iconst 0) 1 := by decide +kernel
theorem dX0_chiefOf_3 : dc mX0_chiefOf 3 (.istore_n 3) 1 := by decide +kernel
theorem dX0_chiefOf_4 : dc mX0_chiefOf 4 (.iload_n 3) 1 := by decide +kernel
theorem dX0_chiefOf_5 : dc mX0_chiefOf 5 (.sipush 144) 3 := by decide +kernel
theorem dX0_chiefOf_8 : dc mX0_chiefOf 8 (.if_icmp .ge 37) 3 := by decide +kernel
theorem dX0_chiefOf_11 : dc mX0_chiefOf 11 (.iload_n 2) 1 := by decide +kernel
theorem dX0_chiefOf_12 : dc mX0_chiefOf 12 (.ifCond .lt 33) 3 := by decide +kernel
theorem dX0_chiefOf_15 : dc mX0_chiefOf 15 (.iload_n 2) 1 := by decide +kernel
theorem dX0_chiefOf_16 : dc mX0_chiefOf 16 (.sipush 144) 3 := by decide +kernel
theorem dX0_chiefOf_19 : dc mX0_chiefOf 19 (.if_icmp .ge 26) 3 := by decide +kernel
theorem dX0_chiefOf_22 : dc mX0_chiefOf 22 (.aload_n 0) 1 := by decide +kernel
theorem dX0_chiefOf_23 : dc mX0_chiefOf 23 (.getfield 19) 3 := by decide +kernel
theorem dX0_chiefOf_26 : dc mX0_chiefOf 26 (.iload_n 2) 1 := by decide +kernel
theorem dX0_chiefOf_27 : dc mX0_chiefOf 27 .iaload 1 := by decide +kernel
theorem dX0_chiefOf_28 : dc mX0_chiefOf 28 (.iload_n 2) 1 := by decide +kernel
theorem dX0_chiefOf_29 : dc mX0_chiefOf 29 (.if_icmp .eq 16) 3 := by decide +kernel
theorem dX0_chiefOf_32 : dc mX0_chiefOf 32 (.aload_n 0) 1 := by decide +kernel
theorem dX0_chiefOf_33 : dc mX0_chiefOf 33 (.getfield 19) 3 := by decide +kernel
theorem dX0_chiefOf_36 : dc mX0_chiefOf 36 (.iload_n 2) 1 := by decide +kernel
theorem dX0_chiefOf_37 : dc mX0_chiefOf 37 .iaload 1 := by decide +kernel
theorem dX0_chiefOf_38 : dc mX0_chiefOf 38 (.istore_n 2) 1 := by decide +kernel
theorem dX0_chiefOf_39 : dc mX0_chiefOf 39 (.iinc 3 1) 3 := by decide +kernel
theorem dX0_chiefOf_42 : dc mX0_chiefOf 42 (.goto (-38)) 3 := by decide +kernel
theorem dX0_chiefOf_45 : dc mX0_chiefOf 45 (.iload_n 2) 1 := by decide +kernel
theorem dX0_chiefOf_46 : dc mX0_chiefOf 46 .ireturn 1 := by decide +kernel
theorem dX1_init_0 : dc mX1_init 0 (.aload_n 0) 1 := by decide +kernel
theorem dX1_init_1 : dc mX1_init 1 (.invokespecial 3) 3 := by decide +kernel
theorem dX1_init_4 : dc mX1_init 4 (.aload_n 0) 1 := by decide +kernel
theorem dX1_init_5 : dc mX1_init 5 (.sipush 144) 3 := by decide +kernel
theorem dX1_init_8 : dc mX1_init 8 (.newarray .int) 2 := by decide +kernel
theorem dX1_init_10 : dc mX1_init 10 (.putfield 9) 3 := by decide +kernel
theorem dX1_init_13 : dc mX1_init 13 (.aload_n 0) 1 := by decide +kernel
theorem dX1_init_14 : dc mX1_init 14 (.sipush 144) 3 := by decide +kernel
theorem dX1_init_17 : dc mX1_init 17 (.newarray .int) 2 := by decide +kernel
theorem dX1_init_19 : dc mX1_init 19 (.putfield 15) 3 := by decide +kernel
theorem dX1_init_22 : dc mX1_init 22 (.aload_n 0) 1 := by decide +kernel
theorem dX1_init_23 : dc mX1_init 23 (.sipush 144) 3 := by decide +kernel
theorem dX1_init_26 : dc mX1_init 26 (.newarray .int) 2 := by decide +kernel
theorem dX1_init_28 : dc mX1_init 28 (.putfield 18) 3 := by decide +kernel
theorem dX1_init_31 : dc mX1_init 31 (.iconst 0) 1 := by decide +kernel
theorem dX1_init_32 : dc mX1_init 32 (.istore_n 1) 1 := by decide +kernel
theorem dX1_init_33 : dc mX1_init 33 (.iload_n 1) 1 := by decide +kernel
theorem dX1_init_34 : dc mX1_init 34 (.sipush 144) 3 := by decide +kernel
theorem dX1_init_37 : dc mX1_init 37 (.if_icmp .ge 23) 3 := by decide +kernel
theorem dX1_init_40 : dc mX1_init 40 (.aload_n 0) 1 := by decide +kernel
theorem dX1_init_41 : dc mX1_init 41 (.getfield 9) 3 := by decide +kernel
theorem dX1_init_44 : dc mX1_init 44 (.iload_n 1) 1 := by decide +kernel
theorem dX1_init_45 : dc mX1_init 45 (.iconst (-1)) 1 := by decide +kernel
theorem dX1_init_46 : dc mX1_init 46 .iastore 1 := by decide +kernel
theorem dX1_init_47 : dc mX1_init 47 (.aload_n 0) 1 := by decide +kernel
theorem dX1_init_48 : dc mX1_init 48 (.getfield 15) 3 := by decide +kernel
theorem dX1_init_51 : dc mX1_init 51 (.iload_n 1) 1 := by decide +kernel
theorem dX1_init_52 : dc mX1_init 52 (.iconst (-1)) 1 := by decide +kernel
theorem dX1_init_53 : dc mX1_init 53 .iastore 1 := by decide +kernel
theorem dX1_init_54 : dc mX1_init 54 (.iinc 1 1) 3 := by decide +kernel
theorem dX1_init_57 : dc mX1_init 57 (.goto (-24)) 3 := by decide +kernel
theorem dX1_init_60 : dc mX1_init 60 .return_ 1 := by decide +kernel
theorem dX1_copyFrom_0 : dc mX1_copyFrom 0 (.aload_n 1) 1 := by decide +kernel
theorem dX1_copyFrom_1 : dc mX1_copyFrom 1 (.getfield 9) 3 := by decide +kernel
theorem dX1_copyFrom_4 : dc mX1_copyFrom 4 (.iconst 0) 1 := by decide +kernel
theorem dX1_copyFrom_5 : dc mX1_copyFrom 5 (.aload_n 0) 1 := by decide +kernel
theorem dX1_copyFrom_6 : dc mX1_copyFrom 6 (.getfield 9) 3 := by decide +kernel
theorem dX1_copyFrom_9 : dc mX1_copyFrom 9 (.iconst 0) 1 := by decide +kernel
theorem dX1_copyFrom_10 : dc mX1_copyFrom 10 (.sipush 144) 3 := by decide +kernel
theorem dX1_copyFrom_13 : dc mX1_copyFrom 13 (.invokestatic 21) 3 := by decide +kernel
theorem dX1_copyFrom_16 : dc mX1_copyFrom 16 (.aload_n 1) 1 := by decide +kernel
theorem dX1_copyFrom_17 : dc mX1_copyFrom 17 (.getfield 15) 3 := by decide +kernel
theorem dX1_copyFrom_20 : dc mX1_copyFrom 20 (.iconst 0) 1 := by decide +kernel
theorem dX1_copyFrom_21 : dc mX1_copyFrom 21 (.aload_n 0) 1 := by decide +kernel
theorem dX1_copyFrom_22 : dc mX1_copyFrom 22 (.getfield 15) 3 := by decide +kernel
theorem dX1_copyFrom_25 : dc mX1_copyFrom 25 (.iconst 0) 1 := by decide +kernel
theorem dX1_copyFrom_26 : dc mX1_copyFrom 26 (.sipush 144) 3 := by decide +kernel
theorem dX1_copyFrom_29 : dc mX1_copyFrom 29 (.invokestatic 21) 3 := by decide +kernel
theorem dX1_copyFrom_32 : dc mX1_copyFrom 32 (.aload_n 1) 1 := by decide +kernel
theorem dX1_copyFrom_33 : dc mX1_copyFrom 33 (.getfield 18) 3 := by decide +kernel
theorem dX1_copyFrom_36 : dc mX1_copyFrom 36 (.iconst 0) 1 := by decide +kernel
theorem dX1_copyFrom_37 : dc mX1_copyFrom 37 (.aload_n 0) 1 := by decide +kernel
theorem dX1_copyFrom_38 : dc mX1_copyFrom 38 (.getfield 18) 3 := by decide +kernel
theorem dX1_copyFrom_41 : dc mX1_copyFrom 41 (.iconst 0) 1 := by decide +kernel
theorem dX1_copyFrom_42 : dc mX1_copyFrom 42 (.sipush 144) 3 := by decide +kernel
theorem dX1_copyFrom_45 : dc mX1_copyFrom 45 (.invokestatic 21) 3 := by decide +kernel
theorem dX1_copyFrom_48 : dc mX1_copyFrom 48 .return_ 1 := by decide +kernel
theorem dX1_planAt_0 : dc mX1_planAt 0 (.iload_n 1) 1 := by decide +kernel
theorem dX1_planAt_1 : dc mX1_planAt 1 (.ifCond .lt 19) 3 := by decide +kernel
theorem dX1_planAt_4 : dc mX1_planAt 4 (.iload_n 1) 1 := by decide +kernel
theorem dX1_planAt_5 : dc mX1_planAt 5 (.sipush 144) 3 := by decide +kernel
theorem dX1_planAt_8 : dc mX1_planAt 8 (.if_icmp .ge 12) 3 := by decide +kernel
theorem dX1_planAt_11 : dc mX1_planAt 11 (.aload_n 0) 1 := by decide +kernel
theorem dX1_planAt_12 : dc mX1_planAt 12 (.getfield 9) 3 := by decide +kernel
theorem dX1_planAt_15 : dc mX1_planAt 15 (.iload_n 1) 1 := by decide +kernel
theorem dX1_planAt_16 : dc mX1_planAt 16 .iaload 1 := by decide +kernel
theorem dX1_planAt_17 : dc mX1_planAt 17 (.goto 4) 3 := by decide +kernel
theorem dX1_planAt_20 : dc mX1_planAt 20 (.iconst (-1)) 1 := by decide +kernel
theorem dX1_planAt_21 : dc mX1_planAt 21 .ireturn 1 := by decide +kernel
theorem dX1_loopAt_0 : dc mX1_loopAt 0 (.iload_n 1) 1 := by decide +kernel
theorem dX1_loopAt_1 : dc mX1_loopAt 1 (.ifCond .lt 28) 3 := by decide +kernel
theorem dX1_loopAt_4 : dc mX1_loopAt 4 (.iload_n 1) 1 := by decide +kernel
theorem dX1_loopAt_5 : dc mX1_loopAt 5 (.sipush 144) 3 := by decide +kernel
theorem dX1_loopAt_8 : dc mX1_loopAt 8 (.if_icmp .ge 21) 3 := by decide +kernel
theorem dX1_loopAt_11 : dc mX1_loopAt 11 (.aload_n 0) 1 := by decide +kernel
theorem dX1_loopAt_12 : dc mX1_loopAt 12 (.getfield 15) 3 := by decide +kernel
theorem dX1_loopAt_15 : dc mX1_loopAt 15 (.iload_n 1) 1 := by decide +kernel
theorem dX1_loopAt_16 : dc mX1_loopAt 16 .iaload 1 := by decide +kernel
theorem dX1_loopAt_17 : dc mX1_loopAt 17 (.ifCond .lt 12) 3 := by decide +kernel
theorem dX1_loopAt_20 : dc mX1_loopAt 20 (.aload_n 0) 1 := by decide +kernel
theorem dX1_loopAt_21 : dc mX1_loopAt 21 (.getfield 15) 3 := by decide +kernel
theorem dX1_loopAt_24 : dc mX1_loopAt 24 (.iload_n 1) 1 := by decide +kernel
theorem dX1_loopAt_25 : dc mX1_loopAt 25 .iaload 1 := by decide +kernel
theorem dX1_loopAt_26 : dc mX1_loopAt 26 (.goto 4) 3 := by decide +kernel
theorem dX1_loopAt_29 : dc mX1_loopAt 29 (.iconst (-1)) 1 := by decide +kernel
theorem dX1_loopAt_30 : dc mX1_loopAt 30 .ireturn 1 := by decide +kernel
theorem dX1_heightAt_0 : dc mX1_heightAt 0 (.iload_n 1) 1 := by decide +kernel
theorem dX1_heightAt_1 : dc mX1_heightAt 1 (.ifCond .lt 19) 3 := by decide +kernel
theorem dX1_heightAt_4 : dc mX1_heightAt 4 (.iload_n 1) 1 := by decide +kernel
theorem dX1_heightAt_5 : dc mX1_heightAt 5 (.sipush 144) 3 := by decide +kernel
theorem dX1_heightAt_8 : dc mX1_heightAt 8 (.if_icmp .ge 12) 3 := by decide +kernel
theorem dX1_heightAt_11 : dc mX1_heightAt 11 (.aload_n 0) 1 := by decide +kernel
theorem dX1_heightAt_12 : dc mX1_heightAt 12 (.getfield 18) 3 := by decide +kernel
theorem dX1_heightAt_15 : dc mX1_heightAt 15 (.iload_n 1) 1 := by decide +kernel
theorem dX1_heightAt_16 : dc mX1_heightAt 16 .iaload 1 := by decide +kernel
theorem dX1_heightAt_17 : dc mX1_heightAt 17 (.goto 4) 3 := by decide +kernel
theorem dX1_heightAt_20 : dc mX1_heightAt 20 (.iconst 0) 1 := by decide +kernel
theorem dX1_heightAt_21 : dc mX1_heightAt 21 .ireturn 1 := by decide +kernel
theorem dX1_skippedAt_0 : dc mX1_skippedAt 0 (.iload_n 1) 1 := by decide +kernel
theorem dX1_skippedAt_1 : dc mX1_skippedAt 1 (.ifCond .lt 25) 3 := by decide +kernel
theorem dX1_skippedAt_4 : dc mX1_skippedAt 4 (.iload_n 1) 1 := by decide +kernel
theorem dX1_skippedAt_5 : dc mX1_skippedAt 5 (.sipush 144) 3 := by decide +kernel
theorem dX1_skippedAt_8 : dc mX1_skippedAt 8 (.if_icmp .ge 18) 3 := by decide +kernel
theorem dX1_skippedAt_11 : dc mX1_skippedAt 11 (.aload_n 0) 1 := by decide +kernel
theorem dX1_skippedAt_12 : dc mX1_skippedAt 12 (.getfield 15) 3 := by decide +kernel
theorem dX1_skippedAt_15 : dc mX1_skippedAt 15 (.iload_n 1) 1 := by decide +kernel
theorem dX1_skippedAt_16 : dc mX1_skippedAt 16 .iaload 1 := by decide +kernel
theorem dX1_skippedAt_17 : dc mX1_skippedAt 17 (.bipush (-2)) 2 := by decide +kernel
theorem dX1_skippedAt_19 : dc mX1_skippedAt 19 (.if_icmp .ne 7) 3 := by decide +kernel
theorem dX1_skippedAt_22 : dc mX1_skippedAt 22 (.iconst 1) 1 := by decide +kernel
theorem dX1_skippedAt_23 : dc mX1_skippedAt 23 (.goto 4) 3 := by decide +kernel
theorem dX1_skippedAt_26 : dc mX1_skippedAt 26 (.iconst 0) 1 := by decide +kernel
theorem dX1_skippedAt_27 : dc mX1_skippedAt 27 .ireturn 1 := by decide +kernel
theorem dX1_missingAt_0 : dc mX1_missingAt 0 (.aload_n 0) 1 := by decide +kernel
theorem dX1_missingAt_1 : dc mX1_missingAt 1 (.iload_n 1) 1 := by decide +kernel
theorem dX1_missingAt_2 : dc mX1_missingAt 2 (.invokevirtual 27) 3 := by decide +kernel
theorem dX1_missingAt_5 : dc mX1_missingAt 5 (.iconst (-1)) 1 := by decide +kernel
theorem dX1_missingAt_6 : dc mX1_missingAt 6 (.if_icmp .eq 16) 3 := by decide +kernel
theorem dX1_missingAt_9 : dc mX1_missingAt 9 (.aload_n 0) 1 := by decide +kernel
theorem dX1_missingAt_10 : dc mX1_missingAt 10 (.iload_n 1) 1 := by decide +kernel
theorem dX1_missingAt_11 : dc mX1_missingAt 11 (.invokevirtual 31) 3 := by decide +kernel
theorem dX1_missingAt_14 : dc mX1_missingAt 14 (.iconst (-1)) 1 := by decide +kernel
theorem dX1_missingAt_15 : dc mX1_missingAt 15 (.if_icmp .ne 7) 3 := by decide +kernel
theorem dX1_missingAt_18 : dc mX1_missingAt 18 (.iconst 1) 1 := by decide +kernel
theorem dX1_missingAt_19 : dc mX1_missingAt 19 (.goto 4) 3 := by decide +kernel
theorem dX1_missingAt_22 : dc mX1_missingAt 22 (.iconst 0) 1 := by decide +kernel
theorem dX1_missingAt_23 : dc mX1_missingAt 23 .ireturn 1 := by decide +kernel
theorem dX1_setPlanAt_0 : dc mX1_setPlanAt 0 (.iload_n 1) 1 := by decide +kernel
theorem dX1_setPlanAt_1 : dc mX1_setPlanAt 1 (.ifCond .lt 17) 3 := by decide +kernel
theorem dX1_setPlanAt_4 : dc mX1_setPlanAt 4 (.iload_n 1) 1 := by decide +kernel
theorem dX1_setPlanAt_5 : dc mX1_setPlanAt 5 (.sipush 144) 3 := by decide +kernel
theorem dX1_setPlanAt_8 : dc mX1_setPlanAt 8 (.if_icmp .ge 10) 3 := by decide +kernel
theorem dX1_setPlanAt_11 : dc mX1_setPlanAt 11 (.aload_n 0) 1 := by decide +kernel
theorem dX1_setPlanAt_12 : dc mX1_setPlanAt 12 (.getfield 9) 3 := by decide +kernel
theorem dX1_setPlanAt_15 : dc mX1_setPlanAt 15 (.iload_n 1) 1 := by decide +kernel
theorem dX1_setPlanAt_16 : dc mX1_setPlanAt 16 (.iload_n 2) 1 := by decide +kernel
theorem dX1_setPlanAt_17 : dc mX1_setPlanAt 17 .iastore 1 := by decide +kernel
theorem dX1_setPlanAt_18 : dc mX1_setPlanAt 18 .return_ 1 := by decide +kernel
theorem dX1_fillBetween_0 : dc mX1_fillBetween 0 (.iload_n 1) 1 := by decide +kernel
theorem dX1_fillBetween_1 : dc mX1_fillBetween 1 (.bipush 12) 2 := by decide +kernel
theorem dX1_fillBetween_3 : dc mX1_fillBetween 3 .irem 1 := by decide +kernel
theorem dX1_fillBetween_4 : dc mX1_fillBetween 4 (.iload_n 2) 1 := by decide +kernel
theorem dX1_fillBetween_5 : dc mX1_fillBetween 5 (.bipush 12) 2 := by decide +kernel
theorem dX1_fillBetween_7 : dc mX1_fillBetween 7 .irem 1 := by decide +kernel
theorem dX1_fillBetween_8 : dc mX1_fillBetween 8 (.invokestatic 34) 3 := by decide +kernel
theorem dX1_fillBetween_11 : dc mX1_fillBetween 11 (.istore 4) 2 := by decide +kernel
theorem dX1_fillBetween_13 : dc mX1_fillBetween 13 (.iload_n 1) 1 := by decide +kernel
theorem dX1_fillBetween_14 : dc mX1_fillBetween 14 (.bipush 12) 2 := by decide +kernel
theorem dX1_fillBetween_16 : dc mX1_fillBetween 16 .idiv 1 := by decide +kernel
theorem dX1_fillBetween_17 : dc mX1_fillBetween 17 (.iload_n 2) 1 := by decide +kernel
theorem dX1_fillBetween_18 : dc mX1_fillBetween 18 (.bipush 12) 2 := by decide +kernel
theorem dX1_fillBetween_20 : dc mX1_fillBetween 20 .idiv 1 := by decide +kernel
theorem dX1_fillBetween_21 : dc mX1_fillBetween 21 (.invokestatic 34) 3 := by decide +kernel
theorem dX1_fillBetween_24 : dc mX1_fillBetween 24 (.istore 5) 2 := by decide +kernel
theorem dX1_fillBetween_26 : dc mX1_fillBetween 26 (.iconst 0) 1 := by decide +kernel
theorem dX1_fillBetween_27 : dc mX1_fillBetween 27 (.istore 6) 2 := by decide +kernel
theorem dX1_fillBetween_29 : dc mX1_fillBetween 29 (.iload_n 1) 1 := by decide +kernel
theorem dX1_fillBetween_30 : dc mX1_fillBetween 30 (.bipush 12) 2 := by decide +kernel
theorem dX1_fillBetween_32 : dc mX1_fillBetween 32 .idiv 1 := by decide +kernel
theorem dX1_fillBetween_33 : dc mX1_fillBetween 33 (.iload_n 2) 1 := by decide +kernel
theorem dX1_fillBetween_34 : dc mX1_fillBetween 34 (.bipush 12) 2 := by decide +kernel
theorem dX1_fillBetween_36 : dc mX1_fillBetween 36 .idiv 1 := by decide +kernel
theorem dX1_fillBetween_37 : dc mX1_fillBetween 37 (.invokestatic 40) 3 := by decide +kernel
theorem dX1_fillBetween_40 : dc mX1_fillBetween 40 (.istore 7) 2 := by decide +kernel
theorem dX1_fillBetween_42 : dc mX1_fillBetween 42 (.iload 7) 2 := by decide +kernel
theorem dX1_fillBetween_44 : dc mX1_fillBetween 44 (.iload 5) 2 := by decide +kernel
theorem dX1_fillBetween_46 : dc mX1_fillBetween 46 (.if_icmp .gt 65) 3 := by decide +kernel
theorem dX1_fillBetween_49 : dc mX1_fillBetween 49 (.iload_n 1) 1 := by decide +kernel
theorem dX1_fillBetween_50 : dc mX1_fillBetween 50 (.bipush 12) 2 := by decide +kernel
theorem dX1_fillBetween_52 : dc mX1_fillBetween 52 .irem 1 := by decide +kernel
theorem dX1_fillBetween_53 : dc mX1_fillBetween 53 (.iload_n 2) 1 := by decide +kernel
theorem dX1_fillBetween_54 : dc mX1_fillBetween 54 (.bipush 12) 2 := by decide +kernel
theorem dX1_fillBetween_56 : dc mX1_fillBetween 56 .irem 1 := by decide +kernel
theorem dX1_fillBetween_57 : dc mX1_fillBetween 57 (.invokestatic 40) 3 := by decide +kernel
theorem dX1_fillBetween_60 : dc mX1_fillBetween 60 (.istore 8) 2 := by decide +kernel
theorem dX1_fillBetween_62 : dc mX1_fillBetween 62 (.iload 8) 2 := by decide +kernel
theorem dX1_fillBetween_64 : dc mX1_fillBetween 64 (.iload 4) 2 := by decide +kernel
theorem dX1_fillBetween_66 : dc mX1_fillBetween 66 (.if_icmp .gt 39) 3 := by decide +kernel
theorem dX1_fillBetween_69 : dc mX1_fillBetween 69 (.bipush 12) 2 := by decide +kernel
theorem dX1_fillBetween_71 : dc mX1_fillBetween 71 (.iload 7) 2 := by decide +kernel
theorem dX1_fillBetween_73 : dc mX1_fillBetween 73 .imul 1 := by decide +kernel
theorem dX1_fillBetween_74 : dc mX1_fillBetween 74 (.iload 8) 2 := by decide +kernel
theorem dX1_fillBetween_76 : dc mX1_fillBetween 76 .iadd 1 := by decide +kernel
theorem dX1_fillBetween_77 : dc mX1_fillBetween 77 (.istore 9) 2 := by decide +kernel
theorem dX1_fillBetween_79 : dc mX1_fillBetween 79 (.aload_n 0) 1 := by decide +kernel
theorem dX1_fillBetween_80 : dc mX1_fillBetween 80 (.iload 9) 2 := by decide +kernel
theorem dX1_fillBetween_82 : dc mX1_fillBetween 82 (.invokevirtual 27) 3 := by decide +kernel
theorem dX1_fillBetween_85 : dc mX1_fillBetween 85 (.iload_n 3) 1 := by decide +kernel
theorem dX1_fillBetween_86 : dc mX1_fillBetween 86 (.if_icmp .eq 13) 3 := by decide +kernel
theorem dX1_fillBetween_89 : dc mX1_fillBetween 89 (.aload_n 0) 1 := by decide +kernel
theorem dX1_fillBetween_90 : dc mX1_fillBetween 90 (.iload 9) 2 := by decide +kernel
theorem dX1_fillBetween_92 : dc mX1_fillBetween 92 (.iload_n 3) 1 := by decide +kernel
theorem dX1_fillBetween_93 : dc mX1_fillBetween 93 (.invokevirtual 43) 3 := by decide +kernel
theorem dX1_fillBetween_96 : dc mX1_fillBetween 96 (.iinc 6 1) 3 := by decide +kernel
theorem dX1_fillBetween_99 : dc mX1_fillBetween 99 (.iinc 8 1) 3 := by decide +kernel
theorem dX1_fillBetween_102 : dc mX1_fillBetween 102 (.goto (-40)) 3 := by decide +kernel
theorem dX1_fillBetween_105 : dc mX1_fillBetween 105 (.iinc 7 1) 3 := by decide +kernel
theorem dX1_fillBetween_108 : dc mX1_fillBetween 108 (.goto (-66)) 3 := by decide +kernel
theorem dX1_fillBetween_111 : dc mX1_fillBetween 111 (.iload 6) 2 := by decide +kernel
theorem dX1_fillBetween_113 : dc mX1_fillBetween 113 .ireturn 1 := by decide +kernel
theorem dX1_putLoop_0 : dc mX1_putLoop 0 (.iload_n 1) 1 := by decide +kernel
theorem dX1_putLoop_1 : dc mX1_putLoop 1 (.ifCond .lt 24) 3 := by decide +kernel
theorem dX1_putLoop_4 : dc mX1_putLoop 4 (.iload_n 1) 1 := by decide +kernel
theorem dX1_putLoop_5 : dc mX1_putLoop 5 (.sipush 144) 3 := by decide +kernel
theorem dX1_putLoop_8 : dc mX1_putLoop 8 (.if_icmp .ge 17) 3 := by decide +kernel
theorem dX1_putLoop_11 : dc mX1_putLoop 11 (.aload_n 0) 1 := by decide +kernel
theorem dX1_putLoop_12 : dc mX1_putLoop 12 (.getfield 15) 3 := by decide +kernel
theorem dX1_putLoop_15 : dc mX1_putLoop 15 (.iload_n 1) 1 := by decide +kernel
theorem dX1_putLoop_16 : dc mX1_putLoop 16 (.iload_n 2) 1 := by decide +kernel
theorem dX1_putLoop_17 : dc mX1_putLoop 17 .iastore 1 := by decide +kernel
theorem dX1_putLoop_18 : dc mX1_putLoop 18 (.aload_n 0) 1 := by decide +kernel
theorem dX1_putLoop_19 : dc mX1_putLoop 19 (.getfield 18) 3 := by decide +kernel
theorem dX1_putLoop_22 : dc mX1_putLoop 22 (.iload_n 1) 1 := by decide +kernel
theorem dX1_putLoop_23 : dc mX1_putLoop 23 (.iload_n 3) 1 := by decide +kernel
theorem dX1_putLoop_24 : dc mX1_putLoop 24 .iastore 1 := by decide +kernel
theorem dX1_putLoop_25 : dc mX1_putLoop 25 .return_ 1 := by decide +kernel
theorem dX1_putSkipped_0 : dc mX1_putSkipped 0 (.aload_n 0) 1 := by decide +kernel
theorem dX1_putSkipped_1 : dc mX1_putSkipped 1 (.iload_n 1) 1 := by decide +kernel
theorem dX1_putSkipped_2 : dc mX1_putSkipped 2 (.bipush (-2)) 2 := by decide +kernel
theorem dX1_putSkipped_4 : dc mX1_putSkipped 4 (.iconst 0) 1 := by decide +kernel
theorem dX1_putSkipped_5 : dc mX1_putSkipped 5 (.invokevirtual 47) 3 := by decide +kernel
theorem dX1_putSkipped_8 : dc mX1_putSkipped 8 .return_ 1 := by decide +kernel
theorem dX1_clearCell_0 : dc mX1_clearCell 0 (.aload_n 0) 1 := by decide +kernel
theorem dX1_clearCell_1 : dc mX1_clearCell 1 (.iload_n 1) 1 := by decide +kernel
theorem dX1_clearCell_2 : dc mX1_clearCell 2 (.iconst (-1)) 1 := by decide +kernel
theorem dX1_clearCell_3 : dc mX1_clearCell 3 (.iconst 0) 1 := by decide +kernel
theorem dX1_clearCell_4 : dc mX1_clearCell 4 (.invokevirtual 47) 3 := by decide +kernel
theorem dX1_clearCell_7 : dc mX1_clearCell 7 .return_ 1 := by decide +kernel
theorem dX1_countLoops_0 : dc mX1_countLoops 0 (.iconst 0) 1 := by decide +kernel
theorem dX1_countLoops_1 : dc mX1_countLoops 1 (.istore_n 1) 1 := by decide +kernel
theorem dX1_countLoops_2 : dc mX1_countLoops 2 (.iconst 0) 1 := by decide +kernel
theorem dX1_countLoops_3 : dc mX1_countLoops 3 (.istore_n 2) 1 := by decide +kernel
theorem dX1_countLoops_4 : dc mX1_countLoops 4 (.iload_n 2) 1 := by decide +kernel
theorem dX1_countLoops_5 : dc mX1_countLoops 5 (.sipush 144) 3 := by decide +kernel
theorem dX1_countLoops_8 : dc mX1_countLoops 8 (.if_icmp .ge 26) 3 := by decide +kernel
theorem dX1_countLoops_11 : dc mX1_countLoops 11 (.iload_n 1) 1 := by decide +kernel
theorem dX1_countLoops_12 : dc mX1_countLoops 12 (.aload_n 0) 1 := by decide +kernel
theorem dX1_countLoops_13 : dc mX1_countLoops 13 (.getfield 15) 3 := by decide +kernel
theorem dX1_countLoops_16 : dc mX1_countLoops 16 (.iload_n 2) 1 := by decide +kernel
theorem dX1_countLoops_17 : dc mX1_countLoops 17 .iaload 1 := by decide +kernel
theorem dX1_countLoops_18 : dc mX1_countLoops 18 (.ifCond .lt 7) 3 := by decide +kernel
theorem dX1_countLoops_21 : dc mX1_countLoops 21 (.iconst 1) 1 := by decide +kernel
theorem dX1_countLoops_22 : dc mX1_countLoops 22 (.goto 4) 3 := by decide +kernel
theorem dX1_countLoops_25 : dc mX1_countLoops 25 (.iconst 0) 1 := by decide +kernel
theorem dX1_countLoops_26 : dc mX1_countLoops 26 .iadd 1 := by decide +kernel
theorem dX1_countLoops_27 : dc mX1_countLoops 27 (.istore_n 1) 1 := by decide +kernel
theorem dX1_countLoops_28 : dc mX1_countLoops 28 (.iinc 2 1) 3 := by decide +kernel
theorem dX1_countLoops_31 : dc mX1_countLoops 31 (.goto (-27)) 3 := by decide +kernel
theorem dX1_countLoops_34 : dc mX1_countLoops 34 (.iload_n 1) 1 := by decide +kernel
theorem dX1_countLoops_35 : dc mX1_countLoops 35 .ireturn 1 := by decide +kernel
theorem dX1_countRight_0 : dc mX1_countRight 0 (.iconst 0) 1 := by decide +kernel
theorem dX1_countRight_1 : dc mX1_countRight 1 (.istore_n 1) 1 := by decide +kernel
theorem dX1_countRight_2 : dc mX1_countRight 2 (.iconst 0) 1 := by decide +kernel
theorem dX1_countRight_3 : dc mX1_countRight 3 (.istore_n 2) 1 := by decide +kernel
theorem dX1_countRight_4 : dc mX1_countRight 4 (.iload_n 2) 1 := by decide +kernel
theorem dX1_countRight_5 : dc mX1_countRight 5 (.sipush 144) 3 := by decide +kernel
theorem dX1_countRight_8 : dc mX1_countRight 8 (.if_icmp .ge 41) 3 := by decide +kernel
theorem dX1_countRight_11 : dc mX1_countRight 11 (.iload_n 1) 1 := by decide +kernel
theorem dX1_countRight_12 : dc mX1_countRight 12 (.aload_n 0) 1 := by decide +kernel
theorem dX1_countRight_13 : dc mX1_countRight 13 (.getfield 15) 3 := by decide +kernel
theorem dX1_countRight_16 : dc mX1_countRight 16 (.iload_n 2) 1 := by decide +kernel
theorem dX1_countRight_17 : dc mX1_countRight 17 .iaload 1 := by decide +kernel
theorem dX1_countRight_18 : dc mX1_countRight 18 (.ifCond .lt 22) 3 := by decide +kernel
theorem dX1_countRight_21 : dc mX1_countRight 21 (.aload_n 0) 1 := by decide +kernel
theorem dX1_countRight_22 : dc mX1_countRight 22 (.getfield 15) 3 := by decide +kernel
theorem dX1_countRight_25 : dc mX1_countRight 25 (.iload_n 2) 1 := by decide +kernel
theorem dX1_countRight_26 : dc mX1_countRight 26 .iaload 1 := by decide +kernel
theorem dX1_countRight_27 : dc mX1_countRight 27 (.aload_n 0) 1 := by decide +kernel
theorem dX1_countRight_28 : dc mX1_countRight 28 (.getfield 9) 3 := by decide +kernel
theorem dX1_countRight_31 : dc mX1_countRight 31 (.iload_n 2) 1 := by decide +kernel
theorem dX1_countRight_32 : dc mX1_countRight 32 .iaload 1 := by decide +kernel
theorem dX1_countRight_33 : dc mX1_countRight 33 (.if_icmp .ne 7) 3 := by decide +kernel
theorem dX1_countRight_36 : dc mX1_countRight 36 (.iconst 1) 1 := by decide +kernel
theorem dX1_countRight_37 : dc mX1_countRight 37 (.goto 4) 3 := by decide +kernel
theorem dX1_countRight_40 : dc mX1_countRight 40 (.iconst 0) 1 := by decide +kernel
theorem dX1_countRight_41 : dc mX1_countRight 41 .iadd 1 := by decide +kernel
theorem dX1_countRight_42 : dc mX1_countRight 42 (.istore_n 1) 1 := by decide +kernel
theorem dX1_countRight_43 : dc mX1_countRight 43 (.iinc 2 1) 3 := by decide +kernel
theorem dX1_countRight_46 : dc mX1_countRight 46 (.goto (-42)) 3 := by decide +kernel
theorem dX1_countRight_49 : dc mX1_countRight 49 (.iload_n 1) 1 := by decide +kernel
theorem dX1_countRight_50 : dc mX1_countRight 50 .ireturn 1 := by decide +kernel
theorem dX1_countMissing_0 : dc mX1_countMissing 0 (.iconst 0) 1 := by decide +kernel
theorem dX1_countMissing_1 : dc mX1_countMissing 1 (.istore_n 1) 1 := by decide +kernel
theorem dX1_countMissing_2 : dc mX1_countMissing 2 (.iconst 0) 1 := by decide +kernel
theorem dX1_countMissing_3 : dc mX1_countMissing 3 (.istore_n 2) 1 := by decide +kernel
theorem dX1_countMissing_4 : dc mX1_countMissing 4 (.iload_n 2) 1 := by decide +kernel
theorem dX1_countMissing_5 : dc mX1_countMissing 5 (.sipush 144) 3 := by decide +kernel
theorem dX1_countMissing_8 : dc mX1_countMissing 8 (.if_icmp .ge 25) 3 := by decide +kernel
theorem dX1_countMissing_11 : dc mX1_countMissing 11 (.iload_n 1) 1 := by decide +kernel
theorem dX1_countMissing_12 : dc mX1_countMissing 12 (.aload_n 0) 1 := by decide +kernel
theorem dX1_countMissing_13 : dc mX1_countMissing 13 (.iload_n 2) 1 := by decide +kernel
theorem dX1_countMissing_14 : dc mX1_countMissing 14 (.invokevirtual 51) 3 := by decide +kernel
theorem dX1_countMissing_17 : dc mX1_countMissing 17 (.ifCond .eq 7) 3 := by decide +kernel
theorem dX1_countMissing_20 : dc mX1_countMissing 20 (.iconst 1) 1 := by decide +kernel
theorem dX1_countMissing_21 : dc mX1_countMissing 21 (.goto 4) 3 := by decide +kernel
theorem dX1_countMissing_24 : dc mX1_countMissing 24 (.iconst 0) 1 := by decide +kernel
theorem dX1_countMissing_25 : dc mX1_countMissing 25 .iadd 1 := by decide +kernel
theorem dX1_countMissing_26 : dc mX1_countMissing 26 (.istore_n 1) 1 := by decide +kernel
theorem dX1_countMissing_27 : dc mX1_countMissing 27 (.iinc 2 1) 3 := by decide +kernel
theorem dX1_countMissing_30 : dc mX1_countMissing 30 (.goto (-26)) 3 := by decide +kernel
theorem dX1_countMissing_33 : dc mX1_countMissing 33 (.iload_n 1) 1 := by decide +kernel
theorem dX1_countMissing_34 : dc mX1_countMissing 34 .ireturn 1 := by decide +kernel
theorem dX1_countMissingOf_0 : dc mX1_countMissingOf 0 (.iconst 0) 1 := by decide +kernel
theorem dX1_countMissingOf_1 : dc mX1_countMissingOf 1 (.istore_n 2) 1 := by decide +kernel
theorem dX1_countMissingOf_2 : dc mX1_countMissingOf 2 (.iconst 0) 1 := by decide +kernel
theorem dX1_countMissingOf_3 : dc mX1_countMissingOf 3 (.istore_n 3) 1 := by decide +kernel
theorem dX1_countMissingOf_4 : dc mX1_countMissingOf 4 (.iload_n 3) 1 := by decide +kernel
theorem dX1_countMissingOf_5 : dc mX1_countMissingOf 5 (.sipush 144) 3 := by decide +kernel
theorem dX1_countMissingOf_8 : dc mX1_countMissingOf 8 (.if_icmp .ge 35) 3 := by decide +kernel
theorem dX1_countMissingOf_11 : dc mX1_countMissingOf 11 (.iload_n 2) 1 := by decide +kernel
theorem dX1_countMissingOf_12 : dc mX1_countMissingOf 12 (.aload_n 0) 1 := by decide +kernel
theorem dX1_countMissingOf_13 : dc mX1_countMissingOf 13 (.getfield 9) 3 := by decide +kernel
theorem dX1_countMissingOf_16 : dc mX1_countMissingOf 16 (.iload_n 3) 1 := by decide +kernel
theorem dX1_countMissingOf_17 : dc mX1_countMissingOf 17 .iaload 1 := by decide +kernel
theorem dX1_countMissingOf_18 : dc mX1_countMissingOf 18 (.iload_n 1) 1 := by decide +kernel
theorem dX1_countMissingOf_19 : dc mX1_countMissingOf 19 (.if_icmp .ne 15) 3 := by decide +kernel
theorem dX1_countMissingOf_22 : dc mX1_countMissingOf 22 (.aload_n 0) 1 := by decide +kernel
theorem dX1_countMissingOf_23 : dc mX1_countMissingOf 23 (.iload_n 3) 1 := by decide +kernel
theorem dX1_countMissingOf_24 : dc mX1_countMissingOf 24 (.invokevirtual 51) 3 := by decide +kernel
theorem dX1_countMissingOf_27 : dc mX1_countMissingOf 27 (.ifCond .eq 7) 3 := by decide +kernel
theorem dX1_countMissingOf_30 : dc mX1_countMissingOf 30 (.iconst 1) 1 := by decide +kernel
theorem dX1_countMissingOf_31 : dc mX1_countMissingOf 31 (.goto 4) 3 := by decide +kernel
theorem dX1_countMissingOf_34 : dc mX1_countMissingOf 34 (.iconst 0) 1 := by decide +kernel
theorem dX1_countMissingOf_35 : dc mX1_countMissingOf 35 .iadd 1 := by decide +kernel
theorem dX1_countMissingOf_36 : dc mX1_countMissingOf 36 (.istore_n 2) 1 := by decide +kernel
theorem dX1_countMissingOf_37 : dc mX1_countMissingOf 37 (.iinc 3 1) 3 := by decide +kernel
theorem dX1_countMissingOf_40 : dc mX1_countMissingOf 40 (.goto (-36)) 3 := by decide +kernel
theorem dX1_countMissingOf_43 : dc mX1_countMissingOf 43 (.iload_n 2) 1 := by decide +kernel
theorem dX1_countMissingOf_44 : dc mX1_countMissingOf 44 .ireturn 1 := by decide +kernel
theorem dX1_countSkipped_0 : dc mX1_countSkipped 0 (.iconst 0) 1 := by decide +kernel
theorem dX1_countSkipped_1 : dc mX1_countSkipped 1 (.istore_n 1) 1 := by decide +kernel
theorem dX1_countSkipped_2 : dc mX1_countSkipped 2 (.iconst 0) 1 := by decide +kernel
theorem dX1_countSkipped_3 : dc mX1_countSkipped 3 (.istore_n 2) 1 := by decide +kernel
theorem dX1_countSkipped_4 : dc mX1_countSkipped 4 (.iload_n 2) 1 := by decide +kernel
theorem dX1_countSkipped_5 : dc mX1_countSkipped 5 (.sipush 144) 3 := by decide +kernel
theorem dX1_countSkipped_8 : dc mX1_countSkipped 8 (.if_icmp .ge 28) 3 := by decide +kernel
theorem dX1_countSkipped_11 : dc mX1_countSkipped 11 (.iload_n 1) 1 := by decide +kernel
theorem dX1_countSkipped_12 : dc mX1_countSkipped 12 (.aload_n 0) 1 := by decide +kernel
theorem dX1_countSkipped_13 : dc mX1_countSkipped 13 (.getfield 15) 3 := by decide +kernel
theorem dX1_countSkipped_16 : dc mX1_countSkipped 16 (.iload_n 2) 1 := by decide +kernel
theorem dX1_countSkipped_17 : dc mX1_countSkipped 17 .iaload 1 := by decide +kernel
theorem dX1_countSkipped_18 : dc mX1_countSkipped 18 (.bipush (-2)) 2 := by decide +kernel
theorem dX1_countSkipped_20 : dc mX1_countSkipped 20 (.if_icmp .ne 7) 3 := by decide +kernel
theorem dX1_countSkipped_23 : dc mX1_countSkipped 23 (.iconst 1) 1 := by decide +kernel
theorem dX1_countSkipped_24 : dc mX1_countSkipped 24 (.goto 4) 3 := by decide +kernel
theorem dX1_countSkipped_27 : dc mX1_countSkipped 27 (.iconst 0) 1 := by decide +kernel
theorem dX1_countSkipped_28 : dc mX1_countSkipped 28 .iadd 1 := by decide +kernel
theorem dX1_countSkipped_29 : dc mX1_countSkipped 29 (.istore_n 1) 1 := by decide +kernel
theorem dX1_countSkipped_30 : dc mX1_countSkipped 30 (.iinc 2 1) 3 := by decide +kernel
theorem dX1_countSkipped_33 : dc mX1_countSkipped 33 (.goto (-29)) 3 := by decide +kernel
theorem dX1_countSkipped_36 : dc mX1_countSkipped 36 (.iload_n 1) 1 := by decide +kernel
theorem dX1_countSkipped_37 : dc mX1_countSkipped 37 .ireturn 1 := by decide +kernel
theorem dX1_sumHeights_0 : dc mX1_sumHeights 0 (.iconst 0) 1 := by decide +kernel
theorem dX1_sumHeights_1 : dc mX1_sumHeights 1 (.istore_n 1) 1 := by decide +kernel
theorem dX1_sumHeights_2 : dc mX1_sumHeights 2 (.iconst 0) 1 := by decide +kernel
theorem dX1_sumHeights_3 : dc mX1_sumHeights 3 (.istore_n 2) 1 := by decide +kernel
theorem dX1_sumHeights_4 : dc mX1_sumHeights 4 (.iload_n 2) 1 := by decide +kernel
theorem dX1_sumHeights_5 : dc mX1_sumHeights 5 (.sipush 144) 3 := by decide +kernel
theorem dX1_sumHeights_8 : dc mX1_sumHeights 8 (.if_icmp .ge 18) 3 := by decide +kernel
theorem dX1_sumHeights_11 : dc mX1_sumHeights 11 (.iload_n 1) 1 := by decide +kernel
theorem dX1_sumHeights_12 : dc mX1_sumHeights 12 (.aload_n 0) 1 := by decide +kernel
theorem dX1_sumHeights_13 : dc mX1_sumHeights 13 (.getfield 18) 3 := by decide +kernel
theorem dX1_sumHeights_16 : dc mX1_sumHeights 16 (.iload_n 2) 1 := by decide +kernel
theorem dX1_sumHeights_17 : dc mX1_sumHeights 17 .iaload 1 := by decide +kernel
theorem dX1_sumHeights_18 : dc mX1_sumHeights 18 .iadd 1 := by decide +kernel
theorem dX1_sumHeights_19 : dc mX1_sumHeights 19 (.istore_n 1) 1 := by decide +kernel
theorem dX1_sumHeights_20 : dc mX1_sumHeights 20 (.iinc 2 1) 3 := by decide +kernel
theorem dX1_sumHeights_23 : dc mX1_sumHeights 23 (.goto (-19)) 3 := by decide +kernel
theorem dX1_sumHeights_26 : dc mX1_sumHeights 26 (.iload_n 1) 1 := by decide +kernel
theorem dX1_sumHeights_27 : dc mX1_sumHeights 27 .ireturn 1 := by decide +kernel
theorem dX1_yarnInLoops_0 : dc mX1_yarnInLoops 0 (.iconst 0) 1 := by decide +kernel
theorem dX1_yarnInLoops_1 : dc mX1_yarnInLoops 1 (.istore_n 2) 1 := by decide +kernel
theorem dX1_yarnInLoops_2 : dc mX1_yarnInLoops 2 (.iconst 0) 1 := by decide +kernel
theorem dX1_yarnInLoops_3 : dc mX1_yarnInLoops 3 (.istore_n 3) 1 := by decide +kernel
theorem dX1_yarnInLoops_4 : dc mX1_yarnInLoops 4 (.iload_n 3) 1 := by decide +kernel
theorem dX1_yarnInLoops_5 : dc mX1_yarnInLoops 5 (.sipush 144) 3 := by decide +kernel
theorem dX1_yarnInLoops_8 : dc mX1_yarnInLoops 8 (.if_icmp .ge 35) 3 := by decide +kernel
theorem dX1_yarnInLoops_11 : dc mX1_yarnInLoops 11 (.iload_n 2) 1 := by decide +kernel
theorem dX1_yarnInLoops_12 : dc mX1_yarnInLoops 12 (.aload_n 0) 1 := by decide +kernel
theorem dX1_yarnInLoops_13 : dc mX1_yarnInLoops 13 (.getfield 15) 3 := by decide +kernel
theorem dX1_yarnInLoops_16 : dc mX1_yarnInLoops 16 (.iload_n 3) 1 := by decide +kernel
theorem dX1_yarnInLoops_17 : dc mX1_yarnInLoops 17 .iaload 1 := by decide +kernel
theorem dX1_yarnInLoops_18 : dc mX1_yarnInLoops 18 (.iload_n 1) 1 := by decide +kernel
theorem dX1_yarnInLoops_19 : dc mX1_yarnInLoops 19 (.if_icmp .ne 15) 3 := by decide +kernel
theorem dX1_yarnInLoops_22 : dc mX1_yarnInLoops 22 (.aload_n 0) 1 := by decide +kernel
theorem dX1_yarnInLoops_23 : dc mX1_yarnInLoops 23 (.getfield 18) 3 := by decide +kernel
theorem dX1_yarnInLoops_26 : dc mX1_yarnInLoops 26 (.iload_n 3) 1 := by decide +kernel
theorem dX1_yarnInLoops_27 : dc mX1_yarnInLoops 27 .iaload 1 := by decide +kernel
theorem dX1_yarnInLoops_28 : dc mX1_yarnInLoops 28 (.invokestatic 55) 3 := by decide +kernel
theorem dX1_yarnInLoops_31 : dc mX1_yarnInLoops 31 (.goto 4) 3 := by decide +kernel
theorem dX1_yarnInLoops_34 : dc mX1_yarnInLoops 34 (.iconst 0) 1 := by decide +kernel
theorem dX1_yarnInLoops_35 : dc mX1_yarnInLoops 35 .iadd 1 := by decide +kernel
theorem dX1_yarnInLoops_36 : dc mX1_yarnInLoops 36 (.istore_n 2) 1 := by decide +kernel
theorem dX1_yarnInLoops_37 : dc mX1_yarnInLoops 37 (.iinc 3 1) 3 := by decide +kernel
theorem dX1_yarnInLoops_40 : dc mX1_yarnInLoops 40 (.goto (-36)) 3 := by decide +kernel
theorem dX1_yarnInLoops_43 : dc mX1_yarnInLoops 43 (.iload_n 2) 1 := by decide +kernel
theorem dX1_yarnInLoops_44 : dc mX1_yarnInLoops 44 .ireturn 1 := by decide +kernel
theorem dX1_nearestInRings_0 : dc mX1_nearestInRings 0 (.iconst 0) 1 := by decide +kernel
theorem dX1_nearestInRings_1 : dc mX1_nearestInRings 1 (.istore_n 3) 1 := by decide +kernel
theorem dX1_nearestInRings_2 : dc mX1_nearestInRings 2 (.iload_n 3) 1 := by decide +kernel
theorem dX1_nearestInRings_3 : dc mX1_nearestInRings 3 (.bipush 22) 2 := by decide +kernel
theorem dX1_nearestInRings_5 : dc mX1_nearestInRings 5 (.if_icmp .gt 27) 3 := by decide +kernel
theorem dX1_nearestInRings_8 : dc mX1_nearestInRings 8 (.aload_n 0) 1 := by decide +kernel
theorem dX1_nearestInRings_9 : dc mX1_nearestInRings 9 (.iload_n 1) 1 := by decide +kernel
theorem dX1_nearestInRings_10 : dc mX1_nearestInRings 10 (.iload_n 3) 1 := by decide +kernel
theorem dX1_nearestInRings_11 : dc mX1_nearestInRings 11 (.iload_n 2) 1 := by decide +kernel
theorem dX1_nearestInRings_12 : dc mX1_nearestInRings 12 (.invokevirtual 58) 3 := by decide +kernel
theorem dX1_nearestInRings_15 : dc mX1_nearestInRings 15 (.istore 4) 2 := by decide +kernel
theorem dX1_nearestInRings_17 : dc mX1_nearestInRings 17 (.iload 4) 2 := by decide +kernel
theorem dX1_nearestInRings_19 : dc mX1_nearestInRings 19 (.iconst (-1)) 1 := by decide +kernel
theorem dX1_nearestInRings_20 : dc mX1_nearestInRings 20 (.if_icmp .eq 6) 3 := by decide +kernel
theorem dX1_nearestInRings_23 : dc mX1_nearestInRings 23 (.iload 4) 2 := by decide +kernel
theorem dX1_nearestInRings_25 : dc mX1_nearestInRings 25 .ireturn 1 := by decide +kernel
theorem dX1_nearestInRings_26 : dc mX1_nearestInRings 26 (.iinc 3 1) 3 := by decide +kernel
theorem dX1_nearestInRings_29 : dc mX1_nearestInRings 29 (.goto (-27)) 3 := by decide +kernel
theorem dX1_nearestInRings_32 : dc mX1_nearestInRings 32 (.iconst (-1)) 1 := by decide +kernel
theorem dX1_nearestInRings_33 : dc mX1_nearestInRings 33 .ireturn 1 := by decide +kernel
theorem dX1_firstInRing_0 : dc mX1_firstInRing 0 (.iconst 0) 1 := by decide +kernel
theorem dX1_firstInRing_1 : dc mX1_firstInRing 1 (.istore 4) 2 := by decide +kernel
theorem dX1_firstInRing_3 : dc mX1_firstInRing 3 (.iload 4) 2 := by decide +kernel
theorem dX1_firstInRing_5 : dc mX1_firstInRing 5 (.bipush 12) 2 := by decide +kernel
theorem dX1_firstInRing_7 : dc mX1_firstInRing 7 (.if_icmp .ge 90) 3 := by decide +kernel
theorem dX1_firstInRing_10 : dc mX1_firstInRing 10 (.iload_n 2) 1 := by decide +kernel
theorem dX1_firstInRing_11 : dc mX1_firstInRing 11 (.iload 4) 2 := by decide +kernel
theorem dX1_firstInRing_13 : dc mX1_firstInRing 13 (.iload_n 1) 1 := by decide +kernel
theorem dX1_firstInRing_14 : dc mX1_firstInRing 14 (.bipush 12) 2 := by decide +kernel
theorem dX1_firstInRing_16 : dc mX1_firstInRing 16 .idiv 1 := by decide +kernel
theorem dX1_firstInRing_17 : dc mX1_firstInRing 17 .isub 1 := by decide +kernel
theorem dX1_firstInRing_18 : dc mX1_firstInRing 18 (.invokestatic 62) 3 := by decide +kernel
theorem dX1_firstInRing_21 : dc mX1_firstInRing 21 .isub 1 := by decide +kernel
theorem dX1_firstInRing_22 : dc mX1_firstInRing 22 (.istore 5) 2 := by decide +kernel
theorem dX1_firstInRing_24 : dc mX1_firstInRing 24 (.iload 5) 2 := by decide +kernel
theorem dX1_firstInRing_26 : dc mX1_firstInRing 26 (.ifCond .lt 65) 3 := by decide +kernel
theorem dX1_firstInRing_29 : dc mX1_firstInRing 29 (.aload_n 0) 1 := by decide +kernel
theorem dX1_firstInRing_30 : dc mX1_firstInRing 30 (.iload_n 1) 1 := by decide +kernel
theorem dX1_firstInRing_31 : dc mX1_firstInRing 31 (.bipush 12) 2 := by decide +kernel
theorem dX1_firstInRing_33 : dc mX1_firstInRing 33 .irem 1 := by decide +kernel
theorem dX1_firstInRing_34 : dc mX1_firstInRing 34 (.iload 5) 2 := by decide +kernel
theorem dX1_firstInRing_36 : dc mX1_firstInRing 36 .isub 1 := by decide +kernel
theorem dX1_firstInRing_37 : dc mX1_firstInRing 37 (.iload 4) 2 := by decide +kernel
theorem dX1_firstInRing_39 : dc mX1_firstInRing 39 (.iload_n 3) 1 := by decide +kernel
theorem dX1_firstInRing_40 : dc mX1_firstInRing 40 (.invokevirtual 65) 3 := by decide +kernel
theorem dX1_firstInRing_43 : dc mX1_firstInRing 43 (.ifCond .eq 17) 3 := by decide +kernel
theorem dX1_firstInRing_46 : dc mX1_firstInRing 46 (.bipush 12) 2 := by decide +kernel
theorem dX1_firstInRing_48 : dc mX1_firstInRing 48 (.iload 4) 2 := by decide +kernel
theorem dX1_firstInRing_50 : dc mX1_firstInRing 50 .imul 1 := by decide +kernel
theorem dX1_firstInRing_51 : dc mX1_firstInRing 51 (.iload_n 1) 1 := by decide +kernel
theorem dX1_firstInRing_52 : dc mX1_firstInRing 52 (.bipush 12) 2 := by decide +kernel
theorem dX1_firstInRing_54 : dc mX1_firstInRing 54 .irem 1 := by decide +kernel
theorem dX1_firstInRing_55 : dc mX1_firstInRing 55 .iadd 1 := by decide +kernel
theorem dX1_firstInRing_56 : dc mX1_firstInRing 56 (.iload 5) 2 := by decide +kernel
theorem dX1_firstInRing_58 : dc mX1_firstInRing 58 .isub 1 := by decide +kernel
theorem dX1_firstInRing_59 : dc mX1_firstInRing 59 .ireturn 1 := by decide +kernel
theorem dX1_firstInRing_60 : dc mX1_firstInRing 60 (.aload_n 0) 1 := by decide +kernel
theorem dX1_firstInRing_61 : dc mX1_firstInRing 61 (.iload_n 1) 1 := by decide +kernel
theorem dX1_firstInRing_62 : dc mX1_firstInRing 62 (.bipush 12) 2 := by decide +kernel
theorem dX1_firstInRing_64 : dc mX1_firstInRing 64 .irem 1 := by decide +kernel
theorem dX1_firstInRing_65 : dc mX1_firstInRing 65 (.iload 5) 2 := by decide +kernel
theorem dX1_firstInRing_67 : dc mX1_firstInRing 67 .iadd 1 := by decide +kernel
theorem dX1_firstInRing_68 : dc mX1_firstInRing 68 (.iload 4) 2 := by decide +kernel
theorem dX1_firstInRing_70 : dc mX1_firstInRing 70 (.iload_n 3) 1 := by decide +kernel
theorem dX1_firstInRing_71 : dc mX1_firstInRing 71 (.invokevirtual 65) 3 := by decide +kernel
theorem dX1_firstInRing_74 : dc mX1_firstInRing 74 (.ifCond .eq 17) 3 := by decide +kernel
theorem dX1_firstInRing_77 : dc mX1_firstInRing 77 (.bipush 12) 2 := by decide +kernel
theorem dX1_firstInRing_79 : dc mX1_firstInRing 79 (.iload 4) 2 := by decide +kernel
theorem dX1_firstInRing_81 : dc mX1_firstInRing 81 .imul 1 := by decide +kernel
theorem dX1_firstInRing_82 : dc mX1_firstInRing 82 (.iload_n 1) 1 := by decide +kernel
theorem dX1_firstInRing_83 : dc mX1_firstInRing 83 (.bipush 12) 2 := by decide +kernel
theorem dX1_firstInRing_85 : dc mX1_firstInRing 85 .irem 1 := by decide +kernel
theorem dX1_firstInRing_86 : dc mX1_firstInRing 86 .iadd 1 := by decide +kernel
theorem dX1_firstInRing_87 : dc mX1_firstInRing 87 (.iload 5) 2 := by decide +kernel
theorem dX1_firstInRing_89 : dc mX1_firstInRing 89 .iadd 1 := by decide +kernel
theorem dX1_firstInRing_90 : dc mX1_firstInRing 90 .ireturn 1 := by decide +kernel
theorem dX1_firstInRing_91 : dc mX1_firstInRing 91 (.iinc 4 1) 3 := by decide +kernel
theorem dX1_firstInRing_94 : dc mX1_firstInRing 94 (.goto (-91)) 3 := by decide +kernel
theorem dX1_firstInRing_97 : dc mX1_firstInRing 97 (.iconst (-1)) 1 := by decide +kernel
theorem dX1_firstInRing_98 : dc mX1_firstInRing 98 .ireturn 1 := by decide +kernel
theorem dX1_missesAt_0 : dc mX1_missesAt 0 (.bipush 12) 2 := by decide +kernel
theorem dX1_missesAt_2 : dc mX1_missesAt 2 (.iload_n 2) 1 := by decide +kernel
theorem dX1_missesAt_3 : dc mX1_missesAt 3 .imul 1 := by decide +kernel
theorem dX1_missesAt_4 : dc mX1_missesAt 4 (.iload_n 1) 1 := by decide +kernel
theorem dX1_missesAt_5 : dc mX1_missesAt 5 .iadd 1 := by decide +kernel
theorem dX1_missesAt_6 : dc mX1_missesAt 6 (.istore 4) 2 := by decide +kernel
theorem dX1_missesAt_8 : dc mX1_missesAt 8 (.iload_n 1) 1 := by decide +kernel
theorem dX1_missesAt_9 : dc mX1_missesAt 9 (.ifCond .lt 32) 3 := by decide +kernel
theorem dX1_missesAt_12 : dc mX1_missesAt 12 (.iload_n 1) 1 := by decide +kernel
theorem dX1_missesAt_13 : dc mX1_missesAt 13 (.bipush 12) 2 := by decide +kernel
theorem dX1_missesAt_15 : dc mX1_missesAt 15 (.if_icmp .ge 26) 3 := by decide +kernel
theorem dX1_missesAt_18 : dc mX1_missesAt 18 (.aload_n 0) 1 := by decide +kernel
theorem dX1_missesAt_19 : dc mX1_missesAt 19 (.iload 4) 2 := by decide +kernel
theorem dX1_missesAt_21 : dc mX1_missesAt 21 (.invokevirtual 27) 3 := by decide +kernel
theorem dX1_missesAt_24 : dc mX1_missesAt 24 (.iload_n 3) 1 := by decide +kernel
theorem dX1_missesAt_25 : dc mX1_missesAt 25 (.if_icmp .ne 16) 3 := by decide +kernel
theorem dX1_missesAt_28 : dc mX1_missesAt 28 (.aload_n 0) 1 := by decide +kernel
theorem dX1_missesAt_29 : dc mX1_missesAt 29 (.iload 4) 2 := by decide +kernel
theorem dX1_missesAt_31 : dc mX1_missesAt 31 (.invokevirtual 51) 3 := by decide +kernel
theorem dX1_missesAt_34 : dc mX1_missesAt 34 (.ifCond .eq 7) 3 := by decide +kernel
theorem dX1_missesAt_37 : dc mX1_missesAt 37 (.iconst 1) 1 := by decide +kernel
theorem dX1_missesAt_38 : dc mX1_missesAt 38 (.goto 4) 3 := by decide +kernel
theorem dX1_missesAt_41 : dc mX1_missesAt 41 (.iconst 0) 1 := by decide +kernel
theorem dX1_missesAt_42 : dc mX1_missesAt 42 .ireturn 1 := by decide +kernel
theorem dX1_nearestInCells_0 : dc mX1_nearestInCells 0 (.iconst (-1)) 1 := by decide +kernel
theorem dX1_nearestInCells_1 : dc mX1_nearestInCells 1 (.istore_n 3) 1 := by decide +kernel
theorem dX1_nearestInCells_2 : dc mX1_nearestInCells 2 (.bipush 24) 2 := by decide +kernel
theorem dX1_nearestInCells_4 : dc mX1_nearestInCells 4 (.istore 4) 2 := by decide +kernel
theorem dX1_nearestInCells_6 : dc mX1_nearestInCells 6 (.iconst 0) 1 := by decide +kernel
theorem dX1_nearestInCells_7 : dc mX1_nearestInCells 7 (.istore 5) 2 := by decide +kernel
theorem dX1_nearestInCells_9 : dc mX1_nearestInCells 9 (.iload 5) 2 := by decide +kernel
theorem dX1_nearestInCells_11 : dc mX1_nearestInCells 11 (.sipush 144) 3 := by decide +kernel
theorem dX1_nearestInCells_14 : dc mX1_nearestInCells 14 (.if_icmp .ge 72) 3 := by decide +kernel
theorem dX1_nearestInCells_17 : dc mX1_nearestInCells 17 (.iload 5) 2 := by decide +kernel
theorem dX1_nearestInCells_19 : dc mX1_nearestInCells 19 (.bipush 12) 2 := by decide +kernel
theorem dX1_nearestInCells_21 : dc mX1_nearestInCells 21 .irem 1 := by decide +kernel
theorem dX1_nearestInCells_22 : dc mX1_nearestInCells 22 (.iload_n 1) 1 := by decide +kernel
theorem dX1_nearestInCells_23 : dc mX1_nearestInCells 23 (.bipush 12) 2 := by decide +kernel
theorem dX1_nearestInCells_25 : dc mX1_nearestInCells 25 .irem 1 := by decide +kernel
theorem dX1_nearestInCells_26 : dc mX1_nearestInCells 26 .isub 1 := by decide +kernel
theorem dX1_nearestInCells_27 : dc mX1_nearestInCells 27 (.invokestatic 62) 3 := by decide +kernel
theorem dX1_nearestInCells_30 : dc mX1_nearestInCells 30 (.iload 5) 2 := by decide +kernel
theorem dX1_nearestInCells_32 : dc mX1_nearestInCells 32 (.bipush 12) 2 := by decide +kernel
theorem dX1_nearestInCells_34 : dc mX1_nearestInCells 34 .idiv 1 := by decide +kernel
theorem dX1_nearestInCells_35 : dc mX1_nearestInCells 35 (.iload_n 1) 1 := by decide +kernel
theorem dX1_nearestInCells_36 : dc mX1_nearestInCells 36 (.bipush 12) 2 := by decide +kernel
theorem dX1_nearestInCells_38 : dc mX1_nearestInCells 38 .idiv 1 := by decide +kernel
theorem dX1_nearestInCells_39 : dc mX1_nearestInCells 39 .isub 1 := by decide +kernel
theorem dX1_nearestInCells_40 : dc mX1_nearestInCells 40 (.invokestatic 62) 3 := by decide +kernel
theorem dX1_nearestInCells_43 : dc mX1_nearestInCells 43 .iadd 1 := by decide +kernel
theorem dX1_nearestInCells_44 : dc mX1_nearestInCells 44 (.istore 6) 2 := by decide +kernel
theorem dX1_nearestInCells_46 : dc mX1_nearestInCells 46 (.aload_n 0) 1 := by decide +kernel
theorem dX1_nearestInCells_47 : dc mX1_nearestInCells 47 (.getfield 9) 3 := by decide +kernel
theorem dX1_nearestInCells_50 : dc mX1_nearestInCells 50 (.iload 5) 2 := by decide +kernel
theorem dX1_nearestInCells_52 : dc mX1_nearestInCells 52 .iaload 1 := by decide +kernel
theorem dX1_nearestInCells_53 : dc mX1_nearestInCells 53 (.iload_n 2) 1 := by decide +kernel
theorem dX1_nearestInCells_54 : dc mX1_nearestInCells 54 (.if_icmp .ne 26) 3 := by decide +kernel
theorem dX1_nearestInCells_57 : dc mX1_nearestInCells 57 (.aload_n 0) 1 := by decide +kernel
theorem dX1_nearestInCells_58 : dc mX1_nearestInCells 58 (.iload 5) 2 := by decide +kernel
theorem dX1_nearestInCells_60 : dc mX1_nearestInCells 60 (.invokevirtual 51) 3 := by decide +kernel
theorem dX1_nearestInCells_63 : dc mX1_nearestInCells 63 (.ifCond .eq 17) 3 := by decide +kernel
theorem dX1_nearestInCells_66 : dc mX1_nearestInCells 66 (.iload 6) 2 := by decide +kernel
theorem dX1_nearestInCells_68 : dc mX1_nearestInCells 68 (.iload 4) 2 := by decide +kernel
theorem dX1_nearestInCells_70 : dc mX1_nearestInCells 70 (.if_icmp .ge 10) 3 := by decide +kernel
theorem dX1_nearestInCells_73 : dc mX1_nearestInCells 73 (.iload 5) 2 := by decide +kernel
theorem dX1_nearestInCells_75 : dc mX1_nearestInCells 75 (.istore_n 3) 1 := by decide +kernel
theorem dX1_nearestInCells_76 : dc mX1_nearestInCells 76 (.iload 6) 2 := by decide +kernel
theorem dX1_nearestInCells_78 : dc mX1_nearestInCells 78 (.istore 4) 2 := by decide +kernel
theorem dX1_nearestInCells_80 : dc mX1_nearestInCells 80 (.iinc 5 1) 3 := by decide +kernel
theorem dX1_nearestInCells_83 : dc mX1_nearestInCells 83 (.goto (-74)) 3 := by decide +kernel
theorem dX1_nearestInCells_86 : dc mX1_nearestInCells 86 (.iload_n 3) 1 := by decide +kernel
theorem dX1_nearestInCells_87 : dc mX1_nearestInCells 87 .ireturn 1 := by decide +kernel
theorem dX2_init_0 : dc mX2_init 0 (.aload_n 0) 1 := by decide +kernel
theorem dX2_init_1 : dc mX2_init 1 (.invokespecial 1) 3 := by decide +kernel
theorem dX2_init_4 : dc mX2_init 4 (.aload_n 0) 1 := by decide +kernel
theorem dX2_init_5 : dc mX2_init 5 (.bipush 14) 2 := by decide +kernel
theorem dX2_init_7 : dc mX2_init 7 (.anewarray 9) 3 := by decide +kernel
theorem dX2_init_10 : dc mX2_init 10 (.putfield 11) 3 := by decide +kernel
theorem dX2_init_13 : dc mX2_init 13 .return_ 1 := by decide +kernel
theorem dX2_remember_0 : dc mX2_remember 0 (.aload_n 0) 1 := by decide +kernel
theorem dX2_remember_1 : dc mX2_remember 1 (.getfield 15) 3 := by decide +kernel
theorem dX2_remember_4 : dc mX2_remember 4 (.bipush 14) 2 := by decide +kernel
theorem dX2_remember_6 : dc mX2_remember 6 (.if_icmp .lt 24) 3 := by decide +kernel
theorem dX2_remember_9 : dc mX2_remember 9 (.aload_n 0) 1 := by decide +kernel
theorem dX2_remember_10 : dc mX2_remember 10 (.aload_n 0) 1 := by decide +kernel
theorem dX2_remember_11 : dc mX2_remember 11 (.getfield 19) 3 := by decide +kernel
theorem dX2_remember_14 : dc mX2_remember 14 (.iconst 1) 1 := by decide +kernel
theorem dX2_remember_15 : dc mX2_remember 15 .iadd 1 := by decide +kernel
theorem dX2_remember_16 : dc mX2_remember 16 (.bipush 14) 2 := by decide +kernel
theorem dX2_remember_18 : dc mX2_remember 18 (.invokestatic 22) 3 := by decide +kernel
theorem dX2_remember_21 : dc mX2_remember 21 (.putfield 19) 3 := by decide +kernel
theorem dX2_remember_24 : dc mX2_remember 24 (.aload_n 0) 1 := by decide +kernel
theorem dX2_remember_25 : dc mX2_remember 25 (.bipush 13) 2 := by decide +kernel
theorem dX2_remember_27 : dc mX2_remember 27 (.putfield 15) 3 := by decide +kernel
theorem dX2_remember_30 : dc mX2_remember 30 (.aload_n 0) 1 := by decide +kernel
theorem dX2_remember_31 : dc mX2_remember 31 (.getfield 19) 3 := by decide +kernel
theorem dX2_remember_34 : dc mX2_remember 34 (.aload_n 0) 1 := by decide +kernel
theorem dX2_remember_35 : dc mX2_remember 35 (.getfield 15) 3 := by decide +kernel
theorem dX2_remember_38 : dc mX2_remember 38 .iadd 1 := by decide +kernel
theorem dX2_remember_39 : dc mX2_remember 39 (.bipush 14) 2 := by decide +kernel
theorem dX2_remember_41 : dc mX2_remember 41 (.invokestatic 22) 3 := by decide +kernel
theorem dX2_remember_44 : dc mX2_remember 44 (.istore_n 2) 1 := by decide +kernel
theorem dX2_remember_45 : dc mX2_remember 45 (.aload_n 0) 1 := by decide +kernel
theorem dX2_remember_46 : dc mX2_remember 46 (.getfield 11) 3 := by decide +kernel
theorem dX2_remember_49 : dc mX2_remember 49 (.iload_n 2) 1 := by decide +kernel
theorem dX2_remember_50 : dc mX2_remember 50 .aaload 1 := by decide +kernel
theorem dX2_remember_51 : dc mX2_remember 51 (.ifnonnull 16) 3 := by decide +kernel
theorem dX2_remember_54 : dc mX2_remember 54 (.aload_n 0) 1 := by decide +kernel
theorem dX2_remember_55 : dc mX2_remember 55 (.getfield 11) 3 := by decide +kernel
theorem dX2_remember_58 : dc mX2_remember 58 (.iload_n 2) 1 := by decide +kernel
theorem dX2_remember_59 : dc mX2_remember 59 (.new 9) 3 := by decide +kernel
theorem dX2_remember_62 : dc mX2_remember 62 .dup 1 := by decide +kernel
theorem dX2_remember_63 : dc mX2_remember 63 (.invokespecial 28) 3 := by decide +kernel
theorem dX2_remember_66 : dc mX2_remember 66 .aastore 1 := by decide +kernel
theorem dX2_remember_67 : dc mX2_remember 67 (.aload_n 0) 1 := by decide +kernel
theorem dX2_remember_68 : dc mX2_remember 68 (.getfield 11) 3 := by decide +kernel
theorem dX2_remember_71 : dc mX2_remember 71 (.iload_n 2) 1 := by decide +kernel
theorem dX2_remember_72 : dc mX2_remember 72 .aaload 1 := by decide +kernel
theorem dX2_remember_73 : dc mX2_remember 73 (.aload_n 1) 1 := by decide +kernel
theorem dX2_remember_74 : dc mX2_remember 74 (.invokevirtual 29) 3 := by decide +kernel
theorem dX2_remember_77 : dc mX2_remember 77 (.aload_n 0) 1 := by decide +kernel
theorem dX2_remember_78 : dc mX2_remember 78 .dup 1 := by decide +kernel
theorem dX2_remember_79 : dc mX2_remember 79 (.getfield 15) 3 := by decide +kernel
theorem dX2_remember_82 : dc mX2_remember 82 (.iconst 1) 1 := by decide +kernel
theorem dX2_remember_83 : dc mX2_remember 83 .iadd 1 := by decide +kernel
theorem dX2_remember_84 : dc mX2_remember 84 (.putfield 15) 3 := by decide +kernel
theorem dX2_remember_87 : dc mX2_remember 87 .return_ 1 := by decide +kernel
theorem dX2_takeBack_0 : dc mX2_takeBack 0 (.aload_n 0) 1 := by decide +kernel
theorem dX2_takeBack_1 : dc mX2_takeBack 1 (.getfield 19) 3 := by decide +kernel
theorem dX2_takeBack_4 : dc mX2_takeBack 4 (.aload_n 0) 1 := by decide +kernel
theorem dX2_takeBack_5 : dc mX2_takeBack 5 (.getfield 15) 3 := by decide +kernel
theorem dX2_takeBack_8 : dc mX2_takeBack 8 .iadd 1 := by decide +kernel
theorem dX2_takeBack_9 : dc mX2_takeBack 9 (.iconst 1) 1 := by decide +kernel
theorem dX2_takeBack_10 : dc mX2_takeBack 10 .isub 1 := by decide +kernel
theorem dX2_takeBack_11 : dc mX2_takeBack 11 (.bipush 14) 2 := by decide +kernel
theorem dX2_takeBack_13 : dc mX2_takeBack 13 (.invokestatic 22) 3 := by decide +kernel
theorem dX2_takeBack_16 : dc mX2_takeBack 16 (.istore_n 2) 1 := by decide +kernel
theorem dX2_takeBack_17 : dc mX2_takeBack 17 (.aload_n 0) 1 := by decide +kernel
theorem dX2_takeBack_18 : dc mX2_takeBack 18 (.getfield 15) 3 := by decide +kernel
theorem dX2_takeBack_21 : dc mX2_takeBack 21 (.ifCond .le 32) 3 := by decide +kernel
theorem dX2_takeBack_24 : dc mX2_takeBack 24 (.aload_n 0) 1 := by decide +kernel
theorem dX2_takeBack_25 : dc mX2_takeBack 25 (.getfield 11) 3 := by decide +kernel
theorem dX2_takeBack_28 : dc mX2_takeBack 28 (.iload_n 2) 1 := by decide +kernel
theorem dX2_takeBack_29 : dc mX2_takeBack 29 .aaload 1 := by decide +kernel
theorem dX2_takeBack_30 : dc mX2_takeBack 30 (.ifnull 23) 3 := by decide +kernel
theorem dX2_takeBack_33 : dc mX2_takeBack 33 (.aload_n 1) 1 := by decide +kernel
theorem dX2_takeBack_34 : dc mX2_takeBack 34 (.aload_n 0) 1 := by decide +kernel
theorem dX2_takeBack_35 : dc mX2_takeBack 35 (.getfield 11) 3 := by decide +kernel
theorem dX2_takeBack_38 : dc mX2_takeBack 38 (.iload_n 2) 1 := by decide +kernel
theorem dX2_takeBack_39 : dc mX2_takeBack 39 .aaload 1 := by decide +kernel
theorem dX2_takeBack_40 : dc mX2_takeBack 40 (.invokevirtual 29) 3 := by decide +kernel
theorem dX2_takeBack_43 : dc mX2_takeBack 43 (.aload_n 0) 1 := by decide +kernel
theorem dX2_takeBack_44 : dc mX2_takeBack 44 .dup 1 := by decide +kernel
theorem dX2_takeBack_45 : dc mX2_takeBack 45 (.getfield 15) 3 := by decide +kernel
theorem dX2_takeBack_48 : dc mX2_takeBack 48 (.iconst 1) 1 := by decide +kernel
theorem dX2_takeBack_49 : dc mX2_takeBack 49 .isub 1 := by decide +kernel
theorem dX2_takeBack_50 : dc mX2_takeBack 50 (.putfield 15) 3 := by decide +kernel
theorem dX2_takeBack_53 : dc mX2_takeBack 53 .return_ 1 := by decide +kernel
theorem dX3_init_0 : dc mX3_init 0 (.aload_n 0) 1 := by decide +kernel
theorem dX3_init_1 : dc mX3_init 1 (.invokespecial 3) 3 := by decide +kernel
theorem dX3_init_4 : dc mX3_init 4 (.aload_n 0) 1 := by decide +kernel
theorem dX3_init_5 : dc mX3_init 5 (.iconst 5) 1 := by decide +kernel
theorem dX3_init_6 : dc mX3_init 6 (.anewarray 11) 3 := by decide +kernel
theorem dX3_init_9 : dc mX3_init 9 (.putfield 13) 3 := by decide +kernel
theorem dX3_init_12 : dc mX3_init 12 (.aload_n 0) 1 := by decide +kernel
theorem dX3_init_13 : dc mX3_init 13 (.iconst 5) 1 := by decide +kernel
theorem dX3_init_14 : dc mX3_init 14 (.newarray .int) 2 := by decide +kernel
theorem dX3_init_16 : dc mX3_init 16 (.putfield 17) 3 := by decide +kernel
theorem dX3_init_19 : dc mX3_init 19 (.aload_n 0) 1 := by decide +kernel
theorem dX3_init_20 : dc mX3_init 20 (.iconst 5) 1 := by decide +kernel
theorem dX3_init_21 : dc mX3_init 21 (.newarray .int) 2 := by decide +kernel
theorem dX3_init_23 : dc mX3_init 23 (.putfield 21) 3 := by decide +kernel
theorem dX3_init_26 : dc mX3_init 26 (.aload_n 0) 1 := by decide +kernel
theorem dX3_init_27 : dc mX3_init 27 (.iconst 5) 1 := by decide +kernel
theorem dX3_init_28 : dc mX3_init 28 (.newarray .int) 2 := by decide +kernel
theorem dX3_init_30 : dc mX3_init 30 (.putfield 24) 3 := by decide +kernel
theorem dX3_init_33 : dc mX3_init 33 .return_ 1 := by decide +kernel
theorem dX3_play_0 : dc mX3_play 0 (.aload_n 0) 1 := by decide +kernel
theorem dX3_play_1 : dc mX3_play 1 (.iconst (-1)) 1 := by decide +kernel
theorem dX3_play_2 : dc mX3_play 2 (.putfield 27) 3 := by decide +kernel
theorem dX3_play_5 : dc mX3_play 5 (.aload_n 0) 1 := by decide +kernel
theorem dX3_play_6 : dc mX3_play 6 (.iconst 0) 1 := by decide +kernel
theorem dX3_play_7 : dc mX3_play 7 (.putfield 31) 3 := by decide +kernel
theorem dX3_play_10 : dc mX3_play 10 (.aload_n 0) 1 := by decide +kernel
theorem dX3_play_11 : dc mX3_play 11 (.iconst 0) 1 := by decide +kernel
theorem dX3_play_12 : dc mX3_play 12 (.putfield 34) 3 := by decide +kernel
theorem dX3_play_15 : dc mX3_play 15 (.aload_n 0) 1 := by decide +kernel
theorem dX3_play_16 : dc mX3_play 16 (.aload_n 2) 1 := by decide +kernel
theorem dX3_play_17 : dc mX3_play 17 (.invokevirtual 37) 3 := by decide +kernel
theorem dX3_play_20 : dc mX3_play 20 .pop 1 := by decide +kernel
theorem dX3_play_21 : dc mX3_play 21 (.iconst 0) 1 := by decide +kernel
theorem dX3_play_22 : dc mX3_play 22 (.istore_n 3) 1 := by decide +kernel
theorem dX3_play_23 : dc mX3_play 23 (.iload_n 3) 1 := by decide +kernel
theorem dX3_play_24 : dc mX3_play 24 (.ldc 41) 2 := by decide +kernel
theorem dX3_play_26 : dc mX3_play 26 (.if_icmp .ge 141) 3 := by decide +kernel
theorem dX3_play_29 : dc mX3_play 29 (.aload_n 0) 1 := by decide +kernel
theorem dX3_play_30 : dc mX3_play 30 (.getfield 31) 3 := by decide +kernel
theorem dX3_play_33 : dc mX3_play 33 (.sipush 400) 3 := by decide +kernel
theorem dX3_play_36 : dc mX3_play 36 (.if_icmp .ge 131) 3 := by decide +kernel
theorem dX3_play_39 : dc mX3_play 39 (.aload_n 0) 1 := by decide +kernel
theorem dX3_play_40 : dc mX3_play 40 (.getfield 27) 3 := by decide +kernel
theorem dX3_play_43 : dc mX3_play 43 (.ifCond .lt 124) 3 := by decide +kernel
theorem dX3_play_46 : dc mX3_play 46 (.aload_n 0) 1 := by decide +kernel
theorem dX3_play_47 : dc mX3_play 47 (.getfield 27) 3 := by decide +kernel
theorem dX3_play_50 : dc mX3_play 50 (.iconst 5) 1 := by decide +kernel
theorem dX3_play_51 : dc mX3_play 51 (.if_icmp .ge 116) 3 := by decide +kernel
theorem dX3_play_54 : dc mX3_play 54 (.aload_n 0) 1 := by decide +kernel
theorem dX3_play_55 : dc mX3_play 55 (.getfield 13) 3 := by decide +kernel
theorem dX3_play_58 : dc mX3_play 58 (.aload_n 0) 1 := by decide +kernel
theorem dX3_play_59 : dc mX3_play 59 (.getfield 27) 3 := by decide +kernel
theorem dX3_play_62 : dc mX3_play 62 .aaload 1 := by decide +kernel
theorem dX3_play_63 : dc mX3_play 63 (.astore 4) 2 := by decide +kernel
theorem dX3_play_65 : dc mX3_play 65 (.aload_n 0) 1 := by decide +kernel
theorem dX3_play_66 : dc mX3_play 66 (.getfield 17) 3 := by decide +kernel
theorem dX3_play_69 : dc mX3_play 69 (.aload_n 0) 1 := by decide +kernel
theorem dX3_play_70 : dc mX3_play 70 (.getfield 27) 3 := by decide +kernel
theorem dX3_play_73 : dc mX3_play 73 .iaload 1 := by decide +kernel
theorem dX3_play_74 : dc mX3_play 74 (.istore 5) 2 := by decide +kernel
theorem dX3_play_76 : dc mX3_play 76 (.aload 4) 2 := by decide +kernel
theorem dX3_play_78 : dc mX3_play 78 (.ifnull 13) 3 := by decide +kernel
theorem dX3_play_81 : dc mX3_play 81 (.iload 5) 2 := by decide +kernel
theorem dX3_play_83 : dc mX3_play 83 (.aload 4) 2 := by decide +kernel
theorem dX3_play_85 : dc mX3_play 85 (.getfield 42) 3 := by decide +kernel
theorem dX3_play_88 : dc mX3_play 88 (.if_icmp .lt 16) 3 := by decide +kernel
theorem dX3_play_91 : dc mX3_play 91 (.aload_n 0) 1 := by decide +kernel
theorem dX3_play_92 : dc mX3_play 92 .dup 1 := by decide +kernel
theorem dX3_play_93 : dc mX3_play 93 (.getfield 27) 3 := by decide +kernel
theorem dX3_play_96 : dc mX3_play 96 (.iconst 1) 1 := by decide +kernel
theorem dX3_play_97 : dc mX3_play 97 .isub 1 := by decide +kernel
theorem dX3_play_98 : dc mX3_play 98 (.putfield 27) 3 := by decide +kernel
theorem dX3_play_101 : dc mX3_play 101 (.goto 60) 3 := by decide +kernel
theorem dX3_play_104 : dc mX3_play 104 (.aload 4) 2 := by decide +kernel
theorem dX3_play_106 : dc mX3_play 106 (.iload 5) 2 := by decide +kernel
theorem dX3_play_108 : dc mX3_play 108 (.invokevirtual 45) 3 := by decide +kernel
theorem dX3_play_111 : dc mX3_play 111 (.bipush 41) 2 := by decide +kernel
theorem dX3_play_113 : dc mX3_play 113 (.if_icmp .ne 12) 3 := by decide +kernel
theorem dX3_play_116 : dc mX3_play 116 (.aload_n 0) 1 := by decide +kernel
theorem dX3_play_117 : dc mX3_play 117 (.iload 5) 2 := by decide +kernel
theorem dX3_play_119 : dc mX3_play 119 (.invokevirtual 49) 3 := by decide +kernel
theorem dX3_play_122 : dc mX3_play 122 (.goto 39) 3 := by decide +kernel
theorem dX3_play_125 : dc mX3_play 125 (.aload_n 0) 1 := by decide +kernel
theorem dX3_play_126 : dc mX3_play 126 .dup 1 := by decide +kernel
theorem dX3_play_127 : dc mX3_play 127 (.getfield 31) 3 := by decide +kernel
theorem dX3_play_130 : dc mX3_play 130 (.iconst 1) 1 := by decide +kernel
theorem dX3_play_131 : dc mX3_play 131 .iadd 1 := by decide +kernel
theorem dX3_play_132 : dc mX3_play 132 (.putfield 31) 3 := by decide +kernel
theorem dX3_play_135 : dc mX3_play 135 (.aload_n 0) 1 := by decide +kernel
theorem dX3_play_136 : dc mX3_play 136 .dup 1 := by decide +kernel
theorem dX3_play_137 : dc mX3_play 137 (.getfield 34) 3 := by decide +kernel
theorem dX3_play_140 : dc mX3_play 140 (.aload_n 0) 1 := by decide +kernel
theorem dX3_play_141 : dc mX3_play 141 (.aload_n 1) 1 := by decide +kernel
theorem dX3_play_142 : dc mX3_play 142 (.aload 4) 2 := by decide +kernel
theorem dX3_play_144 : dc mX3_play 144 (.iload 5) 2 := by decide +kernel
theorem dX3_play_146 : dc mX3_play 146 (.invokevirtual 53) 3 := by decide +kernel
theorem dX3_play_149 : dc mX3_play 149 (.ifCond .eq 7) 3 := by decide +kernel
theorem dX3_play_152 : dc mX3_play 152 (.iconst 0) 1 := by decide +kernel
theorem dX3_play_153 : dc mX3_play 153 (.goto 4) 3 := by decide +kernel
theorem dX3_play_156 : dc mX3_play 156 (.iconst 1) 1 := by decide +kernel
theorem dX3_play_157 : dc mX3_play 157 .iadd 1 := by decide +kernel
theorem dX3_play_158 : dc mX3_play 158 (.putfield 34) 3 := by decide +kernel
theorem dX3_play_161 : dc mX3_play 161 (.iinc 3 1) 3 := by decide +kernel
theorem dX3_play_164 : dc mX3_play 164 (.goto (-141)) 3 := by decide +kernel
theorem dX3_play_167 : dc mX3_play 167 (.aload_n 0) 1 := by decide +kernel
theorem dX3_play_168 : dc mX3_play 168 (.getfield 34) 3 := by decide +kernel
theorem dX3_play_171 : dc mX3_play 171 .ireturn 1 := by decide +kernel
theorem dX3_enter_0 : dc mX3_enter 0 (.aload_n 1) 1 := by decide +kernel
theorem dX3_enter_1 : dc mX3_enter 1 (.ifnull 19) 3 := by decide +kernel
theorem dX3_enter_4 : dc mX3_enter 4 (.aload_n 0) 1 := by decide +kernel
theorem dX3_enter_5 : dc mX3_enter 5 (.getfield 27) 3 := by decide +kernel
theorem dX3_enter_8 : dc mX3_enter 8 (.iconst (-1)) 1 := by decide +kernel
theorem dX3_enter_9 : dc mX3_enter 9 (.if_icmp .lt 11) 3 := by decide +kernel
theorem dX3_enter_12 : dc mX3_enter 12 (.aload_n 0) 1 := by decide +kernel
theorem dX3_enter_13 : dc mX3_enter 13 (.getfield 27) 3 := by decide +kernel
theorem dX3_enter_16 : dc mX3_enter 16 (.iconst 4) 1 := by decide +kernel
theorem dX3_enter_17 : dc mX3_enter 17 (.if_icmp .lt 5) 3 := by decide +kernel
theorem dX3_enter_20 : dc mX3_enter 20 (.iconst 0) 1 := by decide +kernel
theorem dX3_enter_21 : dc mX3_enter 21 .ireturn 1 := by decide +kernel
theorem dX3_enter_22 : dc mX3_enter 22 (.aload_n 0) 1 := by decide +kernel
theorem dX3_enter_23 : dc mX3_enter 23 .dup 1 := by decide +kernel
theorem dX3_enter_24 : dc mX3_enter 24 (.getfield 27) 3 := by decide +kernel
theorem dX3_enter_27 : dc mX3_enter 27 (.iconst 1) 1 := by decide +kernel
theorem dX3_enter_28 : dc mX3_enter 28 .iadd 1 := by decide +kernel
theorem dX3_enter_29 : dc mX3_enter 29 (.putfield 27) 3 := by decide +kernel
theorem dX3_enter_32 : dc mX3_enter 32 (.aload_n 0) 1 := by decide +kernel
theorem dX3_enter_33 : dc mX3_enter 33 (.getfield 13) 3 := by decide +kernel
theorem dX3_enter_36 : dc mX3_enter 36 (.aload_n 0) 1 := by decide +kernel
theorem dX3_enter_37 : dc mX3_enter 37 (.getfield 27) 3 := by decide +kernel
theorem dX3_enter_40 : dc mX3_enter 40 (.aload_n 1) 1 := by decide +kernel
theorem dX3_enter_41 : dc mX3_enter 41 .aastore 1 := by decide +kernel
theorem dX3_enter_42 : dc mX3_enter 42 (.aload_n 0) 1 := by decide +kernel
theorem dX3_enter_43 : dc mX3_enter 43 (.getfield 17) 3 := by decide +kernel
theorem dX3_enter_46 : dc mX3_enter 46 (.aload_n 0) 1 := by decide +kernel
theorem dX3_enter_47 : dc mX3_enter 47 (.getfield 27) 3 := by decide +kernel
theorem dX3_enter_50 : dc mX3_enter 50 (.iconst 0) 1 := by decide +kernel
theorem dX3_enter_51 : dc mX3_enter 51 .iastore 1 := by decide +kernel
theorem dX3_enter_52 : dc mX3_enter 52 (.aload_n 0) 1 := by decide +kernel
theorem dX3_enter_53 : dc mX3_enter 53 (.getfield 24) 3 := by decide +kernel
theorem dX3_enter_56 : dc mX3_enter 56 (.aload_n 0) 1 := by decide +kernel
theorem dX3_enter_57 : dc mX3_enter 57 (.getfield 27) 3 := by decide +kernel
theorem dX3_enter_60 : dc mX3_enter 60 (.iconst 0) 1 := by decide +kernel
theorem dX3_enter_61 : dc mX3_enter 61 .iastore 1 := by decide +kernel
theorem dX3_enter_62 : dc mX3_enter 62 (.iconst 1) 1 := by decide +kernel
theorem dX3_enter_63 : dc mX3_enter 63 .ireturn 1 := by decide +kernel
theorem dX3_endGroup_0 : dc mX3_endGroup 0 (.aload_n 0) 1 := by decide +kernel
theorem dX3_endGroup_1 : dc mX3_endGroup 1 (.getfield 27) 3 := by decide +kernel
theorem dX3_endGroup_4 : dc mX3_endGroup 4 (.ifCond .lt 60) 3 := by decide +kernel
theorem dX3_endGroup_7 : dc mX3_endGroup 7 (.aload_n 0) 1 := by decide +kernel
theorem dX3_endGroup_8 : dc mX3_endGroup 8 (.getfield 27) 3 := by decide +kernel
theorem dX3_endGroup_11 : dc mX3_endGroup 11 (.iconst 5) 1 := by decide +kernel
theorem dX3_endGroup_12 : dc mX3_endGroup 12 (.if_icmp .ge 52) 3 := by decide +kernel
theorem dX3_endGroup_15 : dc mX3_endGroup 15 (.aload_n 0) 1 := by decide +kernel
theorem dX3_endGroup_16 : dc mX3_endGroup 16 (.getfield 24) 3 := by decide +kernel
theorem dX3_endGroup_19 : dc mX3_endGroup 19 (.aload_n 0) 1 := by decide +kernel
theorem dX3_endGroup_20 : dc mX3_endGroup 20 (.getfield 27) 3 := by decide +kernel
theorem dX3_endGroup_23 : dc mX3_endGroup 23 .dup2 1 := by decide +kernel
theorem dX3_endGroup_24 : dc mX3_endGroup 24 .iaload 1 := by decide +kernel
theorem dX3_endGroup_25 : dc mX3_endGroup 25 (.iconst 1) 1 := by decide +kernel
theorem dX3_endGroup_26 : dc mX3_endGroup 26 .isub 1 := by decide +kernel
theorem dX3_endGroup_27 : dc mX3_endGroup 27 .iastore 1 := by decide +kernel
theorem dX3_endGroup_28 : dc mX3_endGroup 28 (.aload_n 0) 1 := by decide +kernel
theorem dX3_endGroup_29 : dc mX3_endGroup 29 (.getfield 17) 3 := by decide +kernel
theorem dX3_endGroup_32 : dc mX3_endGroup 32 (.aload_n 0) 1 := by decide +kernel
theorem dX3_endGroup_33 : dc mX3_endGroup 33 (.getfield 27) 3 := by decide +kernel
theorem dX3_endGroup_36 : dc mX3_endGroup 36 (.aload_n 0) 1 := by decide +kernel
theorem dX3_endGroup_37 : dc mX3_endGroup 37 (.getfield 24) 3 := by decide +kernel
theorem dX3_endGroup_40 : dc mX3_endGroup 40 (.aload_n 0) 1 := by decide +kernel
theorem dX3_endGroup_41 : dc mX3_endGroup 41 (.getfield 27) 3 := by decide +kernel
theorem dX3_endGroup_44 : dc mX3_endGroup 44 .iaload 1 := by decide +kernel
theorem dX3_endGroup_45 : dc mX3_endGroup 45 (.ifCond .le 15) 3 := by decide +kernel
theorem dX3_endGroup_48 : dc mX3_endGroup 48 (.aload_n 0) 1 := by decide +kernel
theorem dX3_endGroup_49 : dc mX3_endGroup 49 (.getfield 21) 3 := by decide +kernel
theorem dX3_endGroup_52 : dc mX3_endGroup 52 (.aload_n 0) 1 := by decide +kernel
theorem dX3_endGroup_53 : dc mX3_endGroup 53 (.getfield 27) 3 := by decide +kernel
theorem dX3_endGroup_56 : dc mX3_endGroup 56 .iaload 1 := by decide +kernel
theorem dX3_endGroup_57 : dc mX3_endGroup 57 (.goto 6) 3 := by decide +kernel
theorem dX3_endGroup_60 : dc mX3_endGroup 60 (.iload_n 1) 1 := by decide +kernel
theorem dX3_endGroup_61 : dc mX3_endGroup 61 (.iconst 1) 1 := by decide +kernel
theorem dX3_endGroup_62 : dc mX3_endGroup 62 .iadd 1 := by decide +kernel
theorem dX3_endGroup_63 : dc mX3_endGroup 63 .iastore 1 := by decide +kernel
theorem dX3_endGroup_64 : dc mX3_endGroup 64 .return_ 1 := by decide +kernel
theorem dX3_startGroup_0 : dc mX3_startGroup 0 (.aload_n 0) 1 := by decide +kernel
theorem dX3_startGroup_1 : dc mX3_startGroup 1 (.getfield 27) 3 := by decide +kernel
theorem dX3_startGroup_4 : dc mX3_startGroup 4 (.ifCond .lt 31) 3 := by decide +kernel
theorem dX3_startGroup_7 : dc mX3_startGroup 7 (.aload_n 0) 1 := by decide +kernel
theorem dX3_startGroup_8 : dc mX3_startGroup 8 (.getfield 27) 3 := by decide +kernel
theorem dX3_startGroup_11 : dc mX3_startGroup 11 (.iconst 5) 1 := by decide +kernel
theorem dX3_startGroup_12 : dc mX3_startGroup 12 (.if_icmp .ge 23) 3 := by decide +kernel
theorem dX3_startGroup_15 : dc mX3_startGroup 15 (.aload_n 0) 1 := by decide +kernel
theorem dX3_startGroup_16 : dc mX3_startGroup 16 (.getfield 21) 3 := by decide +kernel
theorem dX3_startGroup_19 : dc mX3_startGroup 19 (.aload_n 0) 1 := by decide +kernel
theorem dX3_startGroup_20 : dc mX3_startGroup 20 (.getfield 27) 3 := by decide +kernel
theorem dX3_startGroup_23 : dc mX3_startGroup 23 (.iload_n 1) 1 := by decide +kernel
theorem dX3_startGroup_24 : dc mX3_startGroup 24 .iastore 1 := by decide +kernel
theorem dX3_startGroup_25 : dc mX3_startGroup 25 (.aload_n 0) 1 := by decide +kernel
theorem dX3_startGroup_26 : dc mX3_startGroup 26 (.getfield 24) 3 := by decide +kernel
theorem dX3_startGroup_29 : dc mX3_startGroup 29 (.aload_n 0) 1 := by decide +kernel
theorem dX3_startGroup_30 : dc mX3_startGroup 30 (.getfield 27) 3 := by decide +kernel
theorem dX3_startGroup_33 : dc mX3_startGroup 33 (.iload_n 2) 1 := by decide +kernel
theorem dX3_startGroup_34 : dc mX3_startGroup 34 .iastore 1 := by decide +kernel
theorem dX3_startGroup_35 : dc mX3_startGroup 35 .return_ 1 := by decide +kernel
theorem dX3_goTo_0 : dc mX3_goTo 0 (.aload_n 0) 1 := by decide +kernel
theorem dX3_goTo_1 : dc mX3_goTo 1 (.getfield 27) 3 := by decide +kernel
theorem dX3_goTo_4 : dc mX3_goTo 4 (.ifCond .lt 21) 3 := by decide +kernel
theorem dX3_goTo_7 : dc mX3_goTo 7 (.aload_n 0) 1 := by decide +kernel
theorem dX3_goTo_8 : dc mX3_goTo 8 (.getfield 27) 3 := by decide +kernel
theorem dX3_goTo_11 : dc mX3_goTo 11 (.iconst 5) 1 := by decide +kernel
theorem dX3_goTo_12 : dc mX3_goTo 12 (.if_icmp .ge 13) 3 := by decide +kernel
theorem dX3_goTo_15 : dc mX3_goTo 15 (.aload_n 0) 1 := by decide +kernel
theorem dX3_goTo_16 : dc mX3_goTo 16 (.getfield 17) 3 := by decide +kernel
theorem dX3_goTo_19 : dc mX3_goTo 19 (.aload_n 0) 1 := by decide +kernel
theorem dX3_goTo_20 : dc mX3_goTo 20 (.getfield 27) 3 := by decide +kernel
theorem dX3_goTo_23 : dc mX3_goTo 23 (.iload_n 1) 1 := by decide +kernel
theorem dX3_goTo_24 : dc mX3_goTo 24 .iastore 1 := by decide +kernel
theorem dX3_goTo_25 : dc mX3_goTo 25 .return_ 1 := by decide +kernel
theorem dX3_doOrder_0 : dc mX3_doOrder 0 (.aload_n 2) 1 := by decide +kernel
theorem dX3_doOrder_1 : dc mX3_doOrder 1 (.iload_n 3) 1 := by decide +kernel
theorem dX3_doOrder_2 : dc mX3_doOrder 2 (.invokevirtual 45) 3 := by decide +kernel
theorem dX3_doOrder_5 : dc mX3_doOrder 5 (.istore 4) 2 := by decide +kernel
theorem dX3_doOrder_7 : dc mX3_doOrder 7 (.aload_n 2) 1 := by decide +kernel
theorem dX3_doOrder_8 : dc mX3_doOrder 8 (.iload_n 3) 1 := by decide +kernel
theorem dX3_doOrder_9 : dc mX3_doOrder 9 (.iconst 1) 1 := by decide +kernel
theorem dX3_doOrder_10 : dc mX3_doOrder 10 .iadd 1 := by decide +kernel
theorem dX3_doOrder_11 : dc mX3_doOrder 11 (.invokevirtual 57) 3 := by decide +kernel
theorem dX3_doOrder_14 : dc mX3_doOrder 14 (.istore 5) 2 := by decide +kernel
theorem dX3_doOrder_16 : dc mX3_doOrder 16 (.bipush 10) 2 := by decide +kernel
theorem dX3_doOrder_18 : dc mX3_doOrder 18 (.iload 5) 2 := by decide +kernel
theorem dX3_doOrder_20 : dc mX3_doOrder 20 .imul 1 := by decide +kernel
theorem dX3_doOrder_21 : dc mX3_doOrder 21 (.aload_n 2) 1 := by decide +kernel
theorem dX3_doOrder_22 : dc mX3_doOrder 22 (.iload_n 3) 1 := by decide +kernel
theorem dX3_doOrder_23 : dc mX3_doOrder 23 (.iconst 2) 1 := by decide +kernel
theorem dX3_doOrder_24 : dc mX3_doOrder 24 .iadd 1 := by decide +kernel
theorem dX3_doOrder_25 : dc mX3_doOrder 25 (.invokevirtual 57) 3 := by decide +kernel
theorem dX3_doOrder_28 : dc mX3_doOrder 28 .iadd 1 := by decide +kernel
theorem dX3_doOrder_29 : dc mX3_doOrder 29 (.istore 6) 2 := by decide +kernel
theorem dX3_doOrder_31 : dc mX3_doOrder 31 (.aload_n 0) 1 := by decide +kernel
theorem dX3_doOrder_32 : dc mX3_doOrder 32 (.iload_n 3) 1 := by decide +kernel
theorem dX3_doOrder_33 : dc mX3_doOrder 33 (.iload 4) 2 := by decide +kernel
theorem dX3_doOrder_35 : dc mX3_doOrder 35 (.invokestatic 61) 3 := by decide +kernel
theorem dX3_doOrder_38 : dc mX3_doOrder 38 .iadd 1 := by decide +kernel
theorem dX3_doOrder_39 : dc mX3_doOrder 39 (.invokevirtual 65) 3 := by decide +kernel
theorem dX3_doOrder_42 : dc mX3_doOrder 42 (.iload 4) 2 := by decide +kernel
theorem dX3_doOrder_44 : dc mX3_doOrder 44 (.tableswitch 188 99 120 #[152, 188, 172, 188, 188, 159, 188, 121, 188, 138, 177, 188, 188, 188, 188, 145, 104, 188, 188, 188, 188, 167]) 104 := by decide +kernel
theorem dX3_doOrder_148 : dc mX3_doOrder 148 (.aload_n 1) 1 := by decide +kernel
theorem dX3_doOrder_149 : dc mX3_doOrder 149 (.iload 6) 2 := by decide +kernel
theorem dX3_doOrder_151 : dc mX3_doOrder 151 (.invokevirtual 68) 3 := by decide +kernel
theorem dX3_doOrder_154 : dc mX3_doOrder 154 (.iload 6) 2 := by decide +kernel
theorem dX3_doOrder_156 : dc mX3_doOrder 156 (.if_icmp .ne 7) 3 := by decide +kernel
theorem dX3_doOrder_159 : dc mX3_doOrder 159 (.iconst 1) 1 := by decide +kernel
theorem dX3_doOrder_160 : dc mX3_doOrder 160 (.goto 4) 3 := by decide +kernel
theorem dX3_doOrder_163 : dc mX3_doOrder 163 (.iconst 0) 1 := by decide +kernel
theorem dX3_doOrder_164 : dc mX3_doOrder 164 .ireturn 1 := by decide +kernel
theorem dX3_doOrder_165 : dc mX3_doOrder 165 (.aload_n 1) 1 := by decide +kernel
theorem dX3_doOrder_166 : dc mX3_doOrder 166 (.iload 6) 2 := by decide +kernel
theorem dX3_doOrder_168 : dc mX3_doOrder 168 (.invokevirtual 73) 3 := by decide +kernel
theorem dX3_doOrder_171 : dc mX3_doOrder 171 (.iload 6) 2 := by decide +kernel
theorem dX3_doOrder_173 : dc mX3_doOrder 173 (.if_icmp .ne 7) 3 := by decide +kernel
theorem dX3_doOrder_176 : dc mX3_doOrder 176 (.iconst 1) 1 := by decide +kernel
theorem dX3_doOrder_177 : dc mX3_doOrder 177 (.goto 4) 3 := by decide +kernel
theorem dX3_doOrder_180 : dc mX3_doOrder 180 (.iconst 0) 1 := by decide +kernel
theorem dX3_doOrder_181 : dc mX3_doOrder 181 .ireturn 1 := by decide +kernel
theorem dX3_doOrder_182 : dc mX3_doOrder 182 (.aload_n 1) 1 := by decide +kernel
theorem dX3_doOrder_183 : dc mX3_doOrder 183 (.iconst (-1)) 1 := by decide +kernel
theorem dX3_doOrder_184 : dc mX3_doOrder 184 (.invokevirtual 76) 3 := by decide +kernel
theorem dX3_doOrder_187 : dc mX3_doOrder 187 (.iconst 1) 1 := by decide +kernel
theorem dX3_doOrder_188 : dc mX3_doOrder 188 .ireturn 1 := by decide +kernel
theorem dX3_doOrder_189 : dc mX3_doOrder 189 (.aload_n 1) 1 := by decide +kernel
theorem dX3_doOrder_190 : dc mX3_doOrder 190 (.iconst 1) 1 := by decide +kernel
theorem dX3_doOrder_191 : dc mX3_doOrder 191 (.invokevirtual 76) 3 := by decide +kernel
theorem dX3_doOrder_194 : dc mX3_doOrder 194 (.iconst 1) 1 := by decide +kernel
theorem dX3_doOrder_195 : dc mX3_doOrder 195 .ireturn 1 := by decide +kernel
theorem dX3_doOrder_196 : dc mX3_doOrder 196 (.aload_n 1) 1 := by decide +kernel
theorem dX3_doOrder_197 : dc mX3_doOrder 197 (.iload 5) 2 := by decide +kernel
theorem dX3_doOrder_199 : dc mX3_doOrder 199 (.invokevirtual 79) 3 := by decide +kernel
theorem dX3_doOrder_202 : dc mX3_doOrder 202 .ireturn 1 := by decide +kernel
theorem dX3_doOrder_203 : dc mX3_doOrder 203 (.aload_n 1) 1 := by decide +kernel
theorem dX3_doOrder_204 : dc mX3_doOrder 204 (.iload 5) 2 := by decide +kernel
theorem dX3_doOrder_206 : dc mX3_doOrder 206 (.putfield 83) 3 := by decide +kernel
theorem dX3_doOrder_209 : dc mX3_doOrder 209 (.iconst 1) 1 := by decide +kernel
theorem dX3_doOrder_210 : dc mX3_doOrder 210 .ireturn 1 := by decide +kernel
theorem dX3_doOrder_211 : dc mX3_doOrder 211 (.aload_n 1) 1 := by decide +kernel
theorem dX3_doOrder_212 : dc mX3_doOrder 212 (.invokevirtual 86) 3 := by decide +kernel
theorem dX3_doOrder_215 : dc mX3_doOrder 215 .ireturn 1 := by decide +kernel
theorem dX3_doOrder_216 : dc mX3_doOrder 216 (.aload_n 1) 1 := by decide +kernel
theorem dX3_doOrder_217 : dc mX3_doOrder 217 (.invokevirtual 90) 3 := by decide +kernel
theorem dX3_doOrder_220 : dc mX3_doOrder 220 .ireturn 1 := by decide +kernel
theorem dX3_doOrder_221 : dc mX3_doOrder 221 (.aload_n 0) 1 := by decide +kernel
theorem dX3_doOrder_222 : dc mX3_doOrder 222 (.aload_n 1) 1 := by decide +kernel
theorem dX3_doOrder_223 : dc mX3_doOrder 223 (.iload 5) 2 := by decide +kernel
theorem dX3_doOrder_225 : dc mX3_doOrder 225 (.invokevirtual 93) 3 := by decide +kernel
theorem dX3_doOrder_228 : dc mX3_doOrder 228 (.invokevirtual 37) 3 := by decide +kernel
theorem dX3_doOrder_231 : dc mX3_doOrder 231 .ireturn 1 := by decide +kernel
theorem dX3_doOrder_232 : dc mX3_doOrder 232 (.aload_n 0) 1 := by decide +kernel
theorem dX3_doOrder_233 : dc mX3_doOrder 233 (.iload_n 3) 1 := by decide +kernel
theorem dX3_doOrder_234 : dc mX3_doOrder 234 (.iconst 2) 1 := by decide +kernel
theorem dX3_doOrder_235 : dc mX3_doOrder 235 .iadd 1 := by decide +kernel
theorem dX3_doOrder_236 : dc mX3_doOrder 236 (.iload 4) 2 := by decide +kernel
theorem dX3_doOrder_238 : dc mX3_doOrder 238 (.bipush 48) 2 := by decide +kernel
theorem dX3_doOrder_240 : dc mX3_doOrder 240 .isub 1 := by decide +kernel
theorem dX3_doOrder_241 : dc mX3_doOrder 241 (.invokevirtual 97) 3 := by decide +kernel
theorem dX3_doOrder_244 : dc mX3_doOrder 244 (.iconst 1) 1 := by decide +kernel
theorem dX3_doOrder_245 : dc mX3_doOrder 245 .ireturn 1 := by decide +kernel
theorem dX3_signsOf_0 : dc mX3_signsOf 0 (.iload_n 0) 1 := by decide +kernel
theorem dX3_signsOf_1 : dc mX3_signsOf 1 (.tableswitch 99 101 120 #[97, 99, 99, 99, 99, 95, 99, 97, 99, 99, 99, 99, 99, 97, 95, 99, 99, 99, 99, 97]) 95 := by decide +kernel
theorem dX3_signsOf_96 : dc mX3_signsOf 96 (.iconst 3) 1 := by decide +kernel
theorem dX3_signsOf_97 : dc mX3_signsOf 97 .ireturn 1 := by decide +kernel
theorem dX3_signsOf_98 : dc mX3_signsOf 98 (.iconst 1) 1 := by decide +kernel
theorem dX3_signsOf_99 : dc mX3_signsOf 99 .ireturn 1 := by decide +kernel
theorem dX3_signsOf_100 : dc mX3_signsOf 100 (.iconst 2) 1 := by decide +kernel
theorem dX3_signsOf_101 : dc mX3_signsOf 101 .ireturn 1 := by decide +kernel
theorem dX4_init_0 : dc mX4_init 0 (.aload_n 0) 1 := by decide +kernel
theorem dX4_init_1 : dc mX4_init 1 (.invokespecial 3) 3 := by decide +kernel
theorem dX4_init_4 : dc mX4_init 4 (.aload_n 0) 1 := by decide +kernel
theorem dX4_init_5 : dc mX4_init 5 (.new 9) 3 := by decide +kernel
theorem dX4_init_8 : dc mX4_init 8 .dup 1 := by decide +kernel
theorem dX4_init_9 : dc mX4_init 9 (.invokespecial 11) 3 := by decide +kernel
theorem dX4_init_12 : dc mX4_init 12 (.putfield 12) 3 := by decide +kernel
theorem dX4_init_15 : dc mX4_init 15 (.aload_n 0) 1 := by decide +kernel
theorem dX4_init_16 : dc mX4_init 16 (.new 18) 3 := by decide +kernel
theorem dX4_init_19 : dc mX4_init 19 .dup 1 := by decide +kernel
theorem dX4_init_20 : dc mX4_init 20 (.invokespecial 20) 3 := by decide +kernel
theorem dX4_init_23 : dc mX4_init 23 (.putfield 21) 3 := by decide +kernel
theorem dX4_init_26 : dc mX4_init 26 (.aload_n 0) 1 := by decide +kernel
theorem dX4_init_27 : dc mX4_init 27 (.iconst 4) 1 := by decide +kernel
theorem dX4_init_28 : dc mX4_init 28 (.anewarray 25) 3 := by decide +kernel
theorem dX4_init_31 : dc mX4_init 31 (.putfield 27) 3 := by decide +kernel
theorem dX4_init_34 : dc mX4_init 34 (.aload_n 0) 1 := by decide +kernel
theorem dX4_init_35 : dc mX4_init 35 (.iconst (-1)) 1 := by decide +kernel
theorem dX4_init_36 : dc mX4_init 36 (.putfield 31) 3 := by decide +kernel
theorem dX4_init_39 : dc mX4_init 39 (.aload_n 0) 1 := by decide +kernel
theorem dX4_init_40 : dc mX4_init 40 (.iconst 4) 1 := by decide +kernel
theorem dX4_init_41 : dc mX4_init 41 (.putfield 35) 3 := by decide +kernel
theorem dX4_init_44 : dc mX4_init 44 (.iconst 0) 1 := by decide +kernel
theorem dX4_init_45 : dc mX4_init 45 (.istore_n 1) 1 := by decide +kernel
theorem dX4_init_46 : dc mX4_init 46 (.iload_n 1) 1 := by decide +kernel
theorem dX4_init_47 : dc mX4_init 47 (.iconst 4) 1 := by decide +kernel
theorem dX4_init_48 : dc mX4_init 48 (.if_icmp .ge 22) 3 := by decide +kernel
theorem dX4_init_51 : dc mX4_init 51 (.aload_n 0) 1 := by decide +kernel
theorem dX4_init_52 : dc mX4_init 52 (.getfield 27) 3 := by decide +kernel
theorem dX4_init_55 : dc mX4_init 55 (.iload_n 1) 1 := by decide +kernel
theorem dX4_init_56 : dc mX4_init 56 (.new 25) 3 := by decide +kernel
theorem dX4_init_59 : dc mX4_init 59 .dup 1 := by decide +kernel
theorem dX4_init_60 : dc mX4_init 60 (.invokespecial 38) 3 := by decide +kernel
theorem dX4_init_63 : dc mX4_init 63 .aastore 1 := by decide +kernel
theorem dX4_init_64 : dc mX4_init 64 (.iinc 1 1) 3 := by decide +kernel
theorem dX4_init_67 : dc mX4_init 67 (.goto (-21)) 3 := by decide +kernel
theorem dX4_init_70 : dc mX4_init 70 .return_ 1 := by decide +kernel
theorem dX4_copyFrom_0 : dc mX4_copyFrom 0 (.aload_n 0) 1 := by decide +kernel
theorem dX4_copyFrom_1 : dc mX4_copyFrom 1 (.getfield 12) 3 := by decide +kernel
theorem dX4_copyFrom_4 : dc mX4_copyFrom 4 (.aload_n 1) 1 := by decide +kernel
theorem dX4_copyFrom_5 : dc mX4_copyFrom 5 (.getfield 12) 3 := by decide +kernel
theorem dX4_copyFrom_8 : dc mX4_copyFrom 8 (.invokevirtual 39) 3 := by decide +kernel
theorem dX4_copyFrom_11 : dc mX4_copyFrom 11 (.aload_n 0) 1 := by decide +kernel
theorem dX4_copyFrom_12 : dc mX4_copyFrom 12 (.getfield 21) 3 := by decide +kernel
theorem dX4_copyFrom_15 : dc mX4_copyFrom 15 (.aload_n 1) 1 := by decide +kernel
theorem dX4_copyFrom_16 : dc mX4_copyFrom 16 (.getfield 21) 3 := by decide +kernel
theorem dX4_copyFrom_19 : dc mX4_copyFrom 19 (.invokevirtual 43) 3 := by decide +kernel
theorem dX4_copyFrom_22 : dc mX4_copyFrom 22 (.iconst 0) 1 := by decide +kernel
theorem dX4_copyFrom_23 : dc mX4_copyFrom 23 (.istore_n 2) 1 := by decide +kernel
theorem dX4_copyFrom_24 : dc mX4_copyFrom 24 (.iload_n 2) 1 := by decide +kernel
theorem dX4_copyFrom_25 : dc mX4_copyFrom 25 (.iconst 4) 1 := by decide +kernel
theorem dX4_copyFrom_26 : dc mX4_copyFrom 26 (.if_icmp .ge 20) 3 := by decide +kernel
theorem dX4_copyFrom_29 : dc mX4_copyFrom 29 (.aload_n 0) 1 := by decide +kernel
theorem dX4_copyFrom_30 : dc mX4_copyFrom 30 (.iload_n 2) 1 := by decide +kernel
theorem dX4_copyFrom_31 : dc mX4_copyFrom 31 (.aload_n 1) 1 := by decide +kernel
theorem dX4_copyFrom_32 : dc mX4_copyFrom 32 (.getfield 27) 3 := by decide +kernel
theorem dX4_copyFrom_35 : dc mX4_copyFrom 35 (.iload_n 2) 1 := by decide +kernel
theorem dX4_copyFrom_36 : dc mX4_copyFrom 36 .aaload 1 := by decide +kernel
theorem dX4_copyFrom_37 : dc mX4_copyFrom 37 (.invokevirtual 46) 3 := by decide +kernel
theorem dX4_copyFrom_40 : dc mX4_copyFrom 40 (.iinc 2 1) 3 := by decide +kernel
theorem dX4_copyFrom_43 : dc mX4_copyFrom 43 (.goto (-19)) 3 := by decide +kernel
theorem dX4_copyFrom_46 : dc mX4_copyFrom 46 (.aload_n 0) 1 := by decide +kernel
theorem dX4_copyFrom_47 : dc mX4_copyFrom 47 (.aload_n 1) 1 := by decide +kernel
theorem dX4_copyFrom_48 : dc mX4_copyFrom 48 (.getfield 50) 3 := by decide +kernel
theorem dX4_copyFrom_51 : dc mX4_copyFrom 51 (.putfield 50) 3 := by decide +kernel
theorem dX4_copyFrom_54 : dc mX4_copyFrom 54 (.aload_n 0) 1 := by decide +kernel
theorem dX4_copyFrom_55 : dc mX4_copyFrom 55 (.aload_n 1) 1 := by decide +kernel
theorem dX4_copyFrom_56 : dc mX4_copyFrom 56 (.getfield 53) 3 := by decide +kernel
theorem dX4_copyFrom_59 : dc mX4_copyFrom 59 (.putfield 53) 3 := by decide +kernel
theorem dX4_copyFrom_62 : dc mX4_copyFrom 62 (.aload_n 0) 1 := by decide +kernel
theorem dX4_copyFrom_63 : dc mX4_copyFrom 63 (.aload_n 1) 1 := by decide +kernel
theorem dX4_copyFrom_64 : dc mX4_copyFrom 64 (.getfield 31) 3 := by decide +kernel
theorem dX4_copyFrom_67 : dc mX4_copyFrom 67 (.putfield 31) 3 := by decide +kernel
theorem dX4_copyFrom_70 : dc mX4_copyFrom 70 (.aload_n 0) 1 := by decide +kernel
theorem dX4_copyFrom_71 : dc mX4_copyFrom 71 (.aload_n 1) 1 := by decide +kernel
theorem dX4_copyFrom_72 : dc mX4_copyFrom 72 (.getfield 35) 3 := by decide +kernel
theorem dX4_copyFrom_75 : dc mX4_copyFrom 75 (.putfield 35) 3 := by decide +kernel
theorem dX4_copyFrom_78 : dc mX4_copyFrom 78 (.aload_n 0) 1 := by decide +kernel
theorem dX4_copyFrom_79 : dc mX4_copyFrom 79 (.aload_n 1) 1 := by decide +kernel
theorem dX4_copyFrom_80 : dc mX4_copyFrom 80 (.getfield 56) 3 := by decide +kernel
theorem dX4_copyFrom_83 : dc mX4_copyFrom 83 (.putfield 56) 3 := by decide +kernel
theorem dX4_copyFrom_86 : dc mX4_copyFrom 86 (.aload_n 0) 1 := by decide +kernel
theorem dX4_copyFrom_87 : dc mX4_copyFrom 87 (.aload_n 1) 1 := by decide +kernel
theorem dX4_copyFrom_88 : dc mX4_copyFrom 88 (.getfield 59) 3 := by decide +kernel
theorem dX4_copyFrom_91 : dc mX4_copyFrom 91 (.putfield 59) 3 := by decide +kernel
theorem dX4_copyFrom_94 : dc mX4_copyFrom 94 .return_ 1 := by decide +kernel
theorem dX4_keepMotif_0 : dc mX4_keepMotif 0 (.iload_n 1) 1 := by decide +kernel
theorem dX4_keepMotif_1 : dc mX4_keepMotif 1 (.ifCond .lt 31) 3 := by decide +kernel
theorem dX4_keepMotif_4 : dc mX4_keepMotif 4 (.iload_n 1) 1 := by decide +kernel
theorem dX4_keepMotif_5 : dc mX4_keepMotif 5 (.iconst 4) 1 := by decide +kernel
theorem dX4_keepMotif_6 : dc mX4_keepMotif 6 (.if_icmp .ge 26) 3 := by decide +kernel
theorem dX4_keepMotif_9 : dc mX4_keepMotif 9 (.aload_n 0) 1 := by decide +kernel
theorem dX4_keepMotif_10 : dc mX4_keepMotif 10 (.getfield 27) 3 := by decide +kernel
theorem dX4_keepMotif_13 : dc mX4_keepMotif 13 (.iload_n 1) 1 := by decide +kernel
theorem dX4_keepMotif_14 : dc mX4_keepMotif 14 .aaload 1 := by decide +kernel
theorem dX4_keepMotif_15 : dc mX4_keepMotif 15 (.ifnull 17) 3 := by decide +kernel
theorem dX4_keepMotif_18 : dc mX4_keepMotif 18 (.aload_n 2) 1 := by decide +kernel
theorem dX4_keepMotif_19 : dc mX4_keepMotif 19 (.ifnull 13) 3 := by decide +kernel
theorem dX4_keepMotif_22 : dc mX4_keepMotif 22 (.aload_n 0) 1 := by decide +kernel
theorem dX4_keepMotif_23 : dc mX4_keepMotif 23 (.getfield 27) 3 := by decide +kernel
theorem dX4_keepMotif_26 : dc mX4_keepMotif 26 (.iload_n 1) 1 := by decide +kernel
theorem dX4_keepMotif_27 : dc mX4_keepMotif 27 .aaload 1 := by decide +kernel
theorem dX4_keepMotif_28 : dc mX4_keepMotif 28 (.aload_n 2) 1 := by decide +kernel
theorem dX4_keepMotif_29 : dc mX4_keepMotif 29 (.invokevirtual 62) 3 := by decide +kernel
theorem dX4_keepMotif_32 : dc mX4_keepMotif 32 .return_ 1 := by decide +kernel
theorem dX4_motifAt_0 : dc mX4_motifAt 0 (.iload_n 1) 1 := by decide +kernel
theorem dX4_motifAt_1 : dc mX4_motifAt 1 (.ifCond .lt 29) 3 := by decide +kernel
theorem dX4_motifAt_4 : dc mX4_motifAt 4 (.iload_n 1) 1 := by decide +kernel
theorem dX4_motifAt_5 : dc mX4_motifAt 5 (.iconst 4) 1 := by decide +kernel
theorem dX4_motifAt_6 : dc mX4_motifAt 6 (.if_icmp .ge 24) 3 := by decide +kernel
theorem dX4_motifAt_9 : dc mX4_motifAt 9 (.aload_n 0) 1 := by decide +kernel
theorem dX4_motifAt_10 : dc mX4_motifAt 10 (.getfield 27) 3 := by decide +kernel
theorem dX4_motifAt_13 : dc mX4_motifAt 13 (.iload_n 1) 1 := by decide +kernel
theorem dX4_motifAt_14 : dc mX4_motifAt 14 .aaload 1 := by decide +kernel
theorem dX4_motifAt_15 : dc mX4_motifAt 15 (.ifnull 15) 3 := by decide +kernel
theorem dX4_motifAt_18 : dc mX4_motifAt 18 (.aload_n 0) 1 := by decide +kernel
theorem dX4_motifAt_19 : dc mX4_motifAt 19 (.getfield 27) 3 := by decide +kernel
theorem dX4_motifAt_22 : dc mX4_motifAt 22 (.iload_n 1) 1 := by decide +kernel
theorem dX4_motifAt_23 : dc mX4_motifAt 23 .aaload 1 := by decide +kernel
theorem dX4_motifAt_24 : dc mX4_motifAt 24 (.getfield 65) 3 := by decide +kernel
theorem dX4_motifAt_27 : dc mX4_motifAt 27 (.ifCond .ne 5) 3 := by decide +kernel
theorem dX4_motifAt_30 : dc mX4_motifAt 30 .aconst_null 1 := by decide +kernel
theorem dX4_motifAt_31 : dc mX4_motifAt 31 .areturn 1 := by decide +kernel
theorem dX4_motifAt_32 : dc mX4_motifAt 32 (.aload_n 0) 1 := by decide +kernel
theorem dX4_motifAt_33 : dc mX4_motifAt 33 (.getfield 27) 3 := by decide +kernel
theorem dX4_motifAt_36 : dc mX4_motifAt 36 (.iload_n 1) 1 := by decide +kernel
theorem dX4_motifAt_37 : dc mX4_motifAt 37 .aaload 1 := by decide +kernel
theorem dX4_motifAt_38 : dc mX4_motifAt 38 .areturn 1 := by decide +kernel
theorem dX4_isTight_0 : dc mX4_isTight 0 (.aload_n 0) 1 := by decide +kernel
theorem dX4_isTight_1 : dc mX4_isTight 1 (.getfield 56) 3 := by decide +kernel
theorem dX4_isTight_4 : dc mX4_isTight 4 (.bipush 10) 2 := by decide +kernel
theorem dX4_isTight_6 : dc mX4_isTight 6 (.if_icmp .lt 7) 3 := by decide +kernel
theorem dX4_isTight_9 : dc mX4_isTight 9 (.iconst 1) 1 := by decide +kernel
theorem dX4_isTight_10 : dc mX4_isTight 10 (.goto 4) 3 := by decide +kernel
theorem dX4_isTight_13 : dc mX4_isTight 13 (.iconst 0) 1 := by decide +kernel
theorem dX4_isTight_14 : dc mX4_isTight 14 .ireturn 1 := by decide +kernel
theorem dX4_reasonAgainstStitch_0 : dc mX4_reasonAgainstStitch 0 (.aload_n 0) 1 := by decide +kernel
theorem dX4_reasonAgainstStitch_1 : dc mX4_reasonAgainstStitch 1 (.getfield 31) 3 := by decide +kernel
theorem dX4_reasonAgainstStitch_4 : dc mX4_reasonAgainstStitch 4 (.iconst (-1)) 1 := by decide +kernel
theorem dX4_reasonAgainstStitch_5 : dc mX4_reasonAgainstStitch 5 (.if_icmp .ne 5) 3 := by decide +kernel
theorem dX4_reasonAgainstStitch_8 : dc mX4_reasonAgainstStitch 8 (.iconst 1) 1 := by decide +kernel
theorem dX4_reasonAgainstStitch_9 : dc mX4_reasonAgainstStitch 9 .ireturn 1 := by decide +kernel
theorem dX4_reasonAgainstStitch_10 : dc mX4_reasonAgainstStitch 10 (.aload_n 0) 1 := by decide +kernel
theorem dX4_reasonAgainstStitch_11 : dc mX4_reasonAgainstStitch 11 (.getfield 12) 3 := by decide +kernel
theorem dX4_reasonAgainstStitch_14 : dc mX4_reasonAgainstStitch 14 (.aload_n 0) 1 := by decide +kernel
theorem dX4_reasonAgainstStitch_15 : dc mX4_reasonAgainstStitch 15 (.getfield 50) 3 := by decide +kernel
theorem dX4_reasonAgainstStitch_18 : dc mX4_reasonAgainstStitch 18 (.invokevirtual 68) 3 := by decide +kernel
theorem dX4_reasonAgainstStitch_21 : dc mX4_reasonAgainstStitch 21 (.iconst (-1)) 1 := by decide +kernel
theorem dX4_reasonAgainstStitch_22 : dc mX4_reasonAgainstStitch 22 (.if_icmp .eq 5) 3 := by decide +kernel
theorem dX4_reasonAgainstStitch_25 : dc mX4_reasonAgainstStitch 25 (.iconst 2) 1 := by decide +kernel
theorem dX4_reasonAgainstStitch_26 : dc mX4_reasonAgainstStitch 26 .ireturn 1 := by decide +kernel
theorem dX4_reasonAgainstStitch_27 : dc mX4_reasonAgainstStitch 27 (.aload_n 0) 1 := by decide +kernel
theorem dX4_reasonAgainstStitch_28 : dc mX4_reasonAgainstStitch 28 (.getfield 21) 3 := by decide +kernel
theorem dX4_reasonAgainstStitch_31 : dc mX4_reasonAgainstStitch 31 (.aload_n 0) 1 := by decide +kernel
theorem dX4_reasonAgainstStitch_32 : dc mX4_reasonAgainstStitch 32 (.getfield 31) 3 := by decide +kernel
theorem dX4_reasonAgainstStitch_35 : dc mX4_reasonAgainstStitch 35 (.invokevirtual 72) 3 := by decide +kernel
theorem dX4_reasonAgainstStitch_38 : dc mX4_reasonAgainstStitch 38 (.aload_n 0) 1 := by decide +kernel
theorem dX4_reasonAgainstStitch_39 : dc mX4_reasonAgainstStitch 39 (.getfield 35) 3 := by decide +kernel
theorem dX4_reasonAgainstStitch_42 : dc mX4_reasonAgainstStitch 42 (.invokestatic 75) 3 := by decide +kernel
theorem dX4_reasonAgainstStitch_45 : dc mX4_reasonAgainstStitch 45 (.if_icmp .ge 7) 3 := by decide +kernel
theorem dX4_reasonAgainstStitch_48 : dc mX4_reasonAgainstStitch 48 (.iconst 3) 1 := by decide +kernel
theorem dX4_reasonAgainstStitch_49 : dc mX4_reasonAgainstStitch 49 (.goto 4) 3 := by decide +kernel
theorem dX4_reasonAgainstStitch_52 : dc mX4_reasonAgainstStitch 52 (.iconst 0) 1 := by decide +kernel
theorem dX4_reasonAgainstStitch_53 : dc mX4_reasonAgainstStitch 53 .ireturn 1 := by decide +kernel
theorem dX4_reasonAgainstMending_0 : dc mX4_reasonAgainstMending 0 (.aload_n 0) 1 := by decide +kernel
theorem dX4_reasonAgainstMending_1 : dc mX4_reasonAgainstMending 1 (.getfield 12) 3 := by decide +kernel
theorem dX4_reasonAgainstMending_4 : dc mX4_reasonAgainstMending 4 (.iload_n 1) 1 := by decide +kernel
theorem dX4_reasonAgainstMending_5 : dc mX4_reasonAgainstMending 5 (.invokevirtual 78) 3 := by decide +kernel
theorem dX4_reasonAgainstMending_8 : dc mX4_reasonAgainstMending 8 (.ifCond .ne 5) 3 := by decide +kernel
theorem dX4_reasonAgainstMending_11 : dc mX4_reasonAgainstMending 11 (.iconst 1) 1 := by decide +kernel
theorem dX4_reasonAgainstMending_12 : dc mX4_reasonAgainstMending 12 .ireturn 1 := by decide +kernel
theorem dX4_reasonAgainstMending_13 : dc mX4_reasonAgainstMending 13 (.aload_n 0) 1 := by decide +kernel
theorem dX4_reasonAgainstMending_14 : dc mX4_reasonAgainstMending 14 (.getfield 21) 3 := by decide +kernel
theorem dX4_reasonAgainstMending_17 : dc mX4_reasonAgainstMending 17 (.aload_n 0) 1 := by decide +kernel
theorem dX4_reasonAgainstMending_18 : dc mX4_reasonAgainstMending 18 (.getfield 12) 3 := by decide +kernel
theorem dX4_reasonAgainstMending_21 : dc mX4_reasonAgainstMending 21 (.iload_n 1) 1 := by decide +kernel
theorem dX4_reasonAgainstMending_22 : dc mX4_reasonAgainstMending 22 (.invokevirtual 82) 3 := by decide +kernel
theorem dX4_reasonAgainstMending_25 : dc mX4_reasonAgainstMending 25 (.invokevirtual 72) 3 := by decide +kernel
theorem dX4_reasonAgainstMending_28 : dc mX4_reasonAgainstMending 28 (.aload_n 0) 1 := by decide +kernel
theorem dX4_reasonAgainstMending_29 : dc mX4_reasonAgainstMending 29 (.getfield 35) 3 := by decide +kernel
theorem dX4_reasonAgainstMending_32 : dc mX4_reasonAgainstMending 32 (.invokestatic 75) 3 := by decide +kernel
theorem dX4_reasonAgainstMending_35 : dc mX4_reasonAgainstMending 35 (.if_icmp .ge 7) 3 := by decide +kernel
theorem dX4_reasonAgainstMending_38 : dc mX4_reasonAgainstMending 38 (.iconst 2) 1 := by decide +kernel
theorem dX4_reasonAgainstMending_39 : dc mX4_reasonAgainstMending 39 (.goto 4) 3 := by decide +kernel
theorem dX4_reasonAgainstMending_42 : dc mX4_reasonAgainstMending 42 (.iconst 0) 1 := by decide +kernel
theorem dX4_reasonAgainstMending_43 : dc mX4_reasonAgainstMending 43 .ireturn 1 := by decide +kernel
theorem dX4_sewUpTo_0 : dc mX4_sewUpTo 0 (.iconst 0) 1 := by decide +kernel
theorem dX4_sewUpTo_1 : dc mX4_sewUpTo 1 (.istore_n 2) 1 := by decide +kernel
theorem dX4_sewUpTo_2 : dc mX4_sewUpTo 2 (.iconst 1) 1 := by decide +kernel
theorem dX4_sewUpTo_3 : dc mX4_sewUpTo 3 (.istore_n 3) 1 := by decide +kernel
theorem dX4_sewUpTo_4 : dc mX4_sewUpTo 4 (.iload_n 3) 1 := by decide +kernel
theorem dX4_sewUpTo_5 : dc mX4_sewUpTo 5 (.ifCond .eq 30) 3 := by decide +kernel
theorem dX4_sewUpTo_8 : dc mX4_sewUpTo 8 (.iload_n 2) 1 := by decide +kernel
theorem dX4_sewUpTo_9 : dc mX4_sewUpTo 9 (.iload_n 1) 1 := by decide +kernel
theorem dX4_sewUpTo_10 : dc mX4_sewUpTo 10 (.if_icmp .ge 25) 3 := by decide +kernel
theorem dX4_sewUpTo_13 : dc mX4_sewUpTo 13 (.aload_n 0) 1 := by decide +kernel
theorem dX4_sewUpTo_14 : dc mX4_sewUpTo 14 (.invokevirtual 85) 3 := by decide +kernel
theorem dX4_sewUpTo_17 : dc mX4_sewUpTo 17 (.ifCond .ne 18) 3 := by decide +kernel
theorem dX4_sewUpTo_20 : dc mX4_sewUpTo 20 (.aload_n 0) 1 := by decide +kernel
theorem dX4_sewUpTo_21 : dc mX4_sewUpTo 21 (.invokevirtual 89) 3 := by decide +kernel
theorem dX4_sewUpTo_24 : dc mX4_sewUpTo 24 (.iinc 2 1) 3 := by decide +kernel
theorem dX4_sewUpTo_27 : dc mX4_sewUpTo 27 (.aload_n 0) 1 := by decide +kernel
theorem dX4_sewUpTo_28 : dc mX4_sewUpTo 28 (.invokevirtual 92) 3 := by decide +kernel
theorem dX4_sewUpTo_31 : dc mX4_sewUpTo 31 (.istore_n 3) 1 := by decide +kernel
theorem dX4_sewUpTo_32 : dc mX4_sewUpTo 32 (.goto (-28)) 3 := by decide +kernel
theorem dX4_sewUpTo_35 : dc mX4_sewUpTo 35 (.iload_n 2) 1 := by decide +kernel
theorem dX4_sewUpTo_36 : dc mX4_sewUpTo 36 .ireturn 1 := by decide +kernel
theorem dX4_punch_0 : dc mX4_punch 0 (.aload_n 0) 1 := by decide +kernel
theorem dX4_punch_1 : dc mX4_punch 1 (.getfield 21) 3 := by decide +kernel
theorem dX4_punch_4 : dc mX4_punch 4 (.aload_n 0) 1 := by decide +kernel
theorem dX4_punch_5 : dc mX4_punch 5 (.getfield 31) 3 := by decide +kernel
theorem dX4_punch_8 : dc mX4_punch 8 (.invokevirtual 96) 3 := by decide +kernel
theorem dX4_punch_11 : dc mX4_punch 11 (.istore_n 1) 1 := by decide +kernel
theorem dX4_punch_12 : dc mX4_punch 12 (.aload_n 0) 1 := by decide +kernel
theorem dX4_punch_13 : dc mX4_punch 13 (.invokevirtual 99) 3 := by decide +kernel
theorem dX4_punch_16 : dc mX4_punch 16 (.ifCond .eq 34) 3 := by decide +kernel
theorem dX4_punch_19 : dc mX4_punch 19 (.aload_n 0) 1 := by decide +kernel
theorem dX4_punch_20 : dc mX4_punch 20 (.getfield 12) 3 := by decide +kernel
theorem dX4_punch_23 : dc mX4_punch 23 (.aload_n 0) 1 := by decide +kernel
theorem dX4_punch_24 : dc mX4_punch 24 (.getfield 50) 3 := by decide +kernel
theorem dX4_punch_27 : dc mX4_punch 27 (.invokevirtual 102) 3 := by decide +kernel
theorem dX4_punch_30 : dc mX4_punch 30 (.aload_n 0) 1 := by decide +kernel
theorem dX4_punch_31 : dc mX4_punch 31 (.getfield 21) 3 := by decide +kernel
theorem dX4_punch_34 : dc mX4_punch 34 (.aload_n 0) 1 := by decide +kernel
theorem dX4_punch_35 : dc mX4_punch 35 (.getfield 31) 3 := by decide +kernel
theorem dX4_punch_38 : dc mX4_punch 38 (.iconst 4) 1 := by decide +kernel
theorem dX4_punch_39 : dc mX4_punch 39 (.invokevirtual 106) 3 := by decide +kernel
theorem dX4_punch_42 : dc mX4_punch 42 (.aload_n 0) 1 := by decide +kernel
theorem dX4_punch_43 : dc mX4_punch 43 (.iconst 2) 1 := by decide +kernel
theorem dX4_punch_44 : dc mX4_punch 44 (.putfield 56) 3 := by decide +kernel
theorem dX4_punch_47 : dc mX4_punch 47 (.goto 64) 3 := by decide +kernel
theorem dX4_punch_50 : dc mX4_punch 50 (.aload_n 0) 1 := by decide +kernel
theorem dX4_punch_51 : dc mX4_punch 51 (.getfield 12) 3 := by decide +kernel
theorem dX4_punch_54 : dc mX4_punch 54 (.aload_n 0) 1 := by decide +kernel
theorem dX4_punch_55 : dc mX4_punch 55 (.getfield 50) 3 := by decide +kernel
theorem dX4_punch_58 : dc mX4_punch 58 (.aload_n 0) 1 := by decide +kernel
theorem dX4_punch_59 : dc mX4_punch 59 (.getfield 31) 3 := by decide +kernel
theorem dX4_punch_62 : dc mX4_punch 62 (.aload_n 0) 1 := by decide +kernel
theorem dX4_punch_63 : dc mX4_punch 63 (.getfield 35) 3 := by decide +kernel
theorem dX4_punch_66 : dc mX4_punch 66 (.invokevirtual 110) 3 := by decide +kernel
theorem dX4_punch_69 : dc mX4_punch 69 (.aload_n 0) 1 := by decide +kernel
theorem dX4_punch_70 : dc mX4_punch 70 (.getfield 21) 3 := by decide +kernel
theorem dX4_punch_73 : dc mX4_punch 73 (.aload_n 0) 1 := by decide +kernel
theorem dX4_punch_74 : dc mX4_punch 74 (.getfield 31) 3 := by decide +kernel
theorem dX4_punch_77 : dc mX4_punch 77 (.aload_n 0) 1 := by decide +kernel
theorem dX4_punch_78 : dc mX4_punch 78 (.getfield 35) 3 := by decide +kernel
theorem dX4_punch_81 : dc mX4_punch 81 (.invokestatic 75) 3 := by decide +kernel
theorem dX4_punch_84 : dc mX4_punch 84 (.invokevirtual 114) 3 := by decide +kernel
theorem dX4_punch_87 : dc mX4_punch 87 .pop 1 := by decide +kernel
theorem dX4_punch_88 : dc mX4_punch 88 (.aload_n 0) 1 := by decide +kernel
theorem dX4_punch_89 : dc mX4_punch 89 .dup 1 := by decide +kernel
theorem dX4_punch_90 : dc mX4_punch 90 (.getfield 56) 3 := by decide +kernel
theorem dX4_punch_93 : dc mX4_punch 93 (.aload_n 0) 1 := by decide +kernel
theorem dX4_punch_94 : dc mX4_punch 94 (.getfield 35) 3 := by decide +kernel
theorem dX4_punch_97 : dc mX4_punch 97 (.bipush 6) 2 := by decide +kernel
theorem dX4_punch_99 : dc mX4_punch 99 (.if_icmp .le 7) 3 := by decide +kernel
theorem dX4_punch_102 : dc mX4_punch 102 (.iconst 2) 1 := by decide +kernel
theorem dX4_punch_103 : dc mX4_punch 103 (.goto 4) 3 := by decide +kernel
theorem dX4_punch_106 : dc mX4_punch 106 (.iconst 1) 1 := by decide +kernel
theorem dX4_punch_107 : dc mX4_punch 107 .iadd 1 := by decide +kernel
theorem dX4_punch_108 : dc mX4_punch 108 (.putfield 56) 3 := by decide +kernel
theorem dX4_punch_111 : dc mX4_punch 111 (.aload_n 0) 1 := by decide +kernel
theorem dX4_punch_112 : dc mX4_punch 112 (.iload_n 1) 1 := by decide +kernel
theorem dX4_punch_113 : dc mX4_punch 113 (.invokevirtual 118) 3 := by decide +kernel
theorem dX4_punch_116 : dc mX4_punch 116 .return_ 1 := by decide +kernel
theorem dX4_feelKnot_0 : dc mX4_feelKnot 0 (.aload_n 0) 1 := by decide +kernel
theorem dX4_feelKnot_1 : dc mX4_feelKnot 1 (.getfield 21) 3 := by decide +kernel
theorem dX4_feelKnot_4 : dc mX4_feelKnot 4 (.aload_n 0) 1 := by decide +kernel
theorem dX4_feelKnot_5 : dc mX4_feelKnot 5 (.getfield 31) 3 := by decide +kernel
theorem dX4_feelKnot_8 : dc mX4_feelKnot 8 (.invokevirtual 96) 3 := by decide +kernel
theorem dX4_feelKnot_11 : dc mX4_feelKnot 11 (.sipush 1000) 3 := by decide +kernel
theorem dX4_feelKnot_14 : dc mX4_feelKnot 14 .idiv 1 := by decide +kernel
theorem dX4_feelKnot_15 : dc mX4_feelKnot 15 (.iload_n 1) 1 := by decide +kernel
theorem dX4_feelKnot_16 : dc mX4_feelKnot 16 (.sipush 1000) 3 := by decide +kernel
theorem dX4_feelKnot_19 : dc mX4_feelKnot 19 .idiv 1 := by decide +kernel
theorem dX4_feelKnot_20 : dc mX4_feelKnot 20 (.if_icmp .le 23) 3 := by decide +kernel
theorem dX4_feelKnot_23 : dc mX4_feelKnot 23 (.aload_n 0) 1 := by decide +kernel
theorem dX4_feelKnot_24 : dc mX4_feelKnot 24 .dup 1 := by decide +kernel
theorem dX4_feelKnot_25 : dc mX4_feelKnot 25 (.getfield 56) 3 := by decide +kernel
theorem dX4_feelKnot_28 : dc mX4_feelKnot 28 (.iconst 4) 1 := by decide +kernel
theorem dX4_feelKnot_29 : dc mX4_feelKnot 29 .iadd 1 := by decide +kernel
theorem dX4_feelKnot_30 : dc mX4_feelKnot 30 (.putfield 56) 3 := by decide +kernel
theorem dX4_feelKnot_33 : dc mX4_feelKnot 33 (.aload_n 0) 1 := by decide +kernel
theorem dX4_feelKnot_34 : dc mX4_feelKnot 34 .dup 1 := by decide +kernel
theorem dX4_feelKnot_35 : dc mX4_feelKnot 35 (.getfield 59) 3 := by decide +kernel
theorem dX4_feelKnot_38 : dc mX4_feelKnot 38 (.iconst 1) 1 := by decide +kernel
theorem dX4_feelKnot_39 : dc mX4_feelKnot 39 .iadd 1 := by decide +kernel
theorem dX4_feelKnot_40 : dc mX4_feelKnot 40 (.putfield 59) 3 := by decide +kernel
theorem dX4_feelKnot_43 : dc mX4_feelKnot 43 .return_ 1 := by decide +kernel
theorem dX4_goOn_0 : dc mX4_goOn 0 (.aload_n 0) 1 := by decide +kernel
theorem dX4_goOn_1 : dc mX4_goOn 1 (.getfield 50) 3 := by decide +kernel
theorem dX4_goOn_4 : dc mX4_goOn 4 (.aload_n 0) 1 := by decide +kernel
theorem dX4_goOn_5 : dc mX4_goOn 5 (.getfield 53) 3 := by decide +kernel
theorem dX4_goOn_8 : dc mX4_goOn 8 (.invokestatic 121) 3 := by decide +kernel
theorem dX4_goOn_11 : dc mX4_goOn 11 (.istore_n 1) 1 := by decide +kernel
theorem dX4_goOn_12 : dc mX4_goOn 12 (.iload_n 1) 1 := by decide +kernel
theorem dX4_goOn_13 : dc mX4_goOn 13 (.iconst (-1)) 1 := by decide +kernel
theorem dX4_goOn_14 : dc mX4_goOn 14 (.if_icmp .ne 5) 3 := by decide +kernel
theorem dX4_goOn_17 : dc mX4_goOn 17 (.iconst 0) 1 := by decide +kernel
theorem dX4_goOn_18 : dc mX4_goOn 18 .ireturn 1 := by decide +kernel
theorem dX4_goOn_19 : dc mX4_goOn 19 (.aload_n 0) 1 := by decide +kernel
theorem dX4_goOn_20 : dc mX4_goOn 20 (.iload_n 1) 1 := by decide +kernel
theorem dX4_goOn_21 : dc mX4_goOn 21 (.putfield 50) 3 := by decide +kernel
theorem dX4_goOn_24 : dc mX4_goOn 24 (.iconst 1) 1 := by decide +kernel
theorem dX4_goOn_25 : dc mX4_goOn 25 .ireturn 1 := by decide +kernel
theorem dX4_jumpOver_0 : dc mX4_jumpOver 0 (.iconst 0) 1 := by decide +kernel
theorem dX4_jumpOver_1 : dc mX4_jumpOver 1 (.istore_n 2) 1 := by decide +kernel
theorem dX4_jumpOver_2 : dc mX4_jumpOver 2 (.iload_n 2) 1 := by decide +kernel
theorem dX4_jumpOver_3 : dc mX4_jumpOver 3 (.iload_n 1) 1 := by decide +kernel
theorem dX4_jumpOver_4 : dc mX4_jumpOver 4 (.if_icmp .ge 64) 3 := by decide +kernel
theorem dX4_jumpOver_7 : dc mX4_jumpOver 7 (.aload_n 0) 1 := by decide +kernel
theorem dX4_jumpOver_8 : dc mX4_jumpOver 8 (.invokevirtual 92) 3 := by decide +kernel
theorem dX4_jumpOver_11 : dc mX4_jumpOver 11 (.ifCond .eq 57) 3 := by decide +kernel
theorem dX4_jumpOver_14 : dc mX4_jumpOver 14 (.iinc 2 1) 3 := by decide +kernel
theorem dX4_jumpOver_17 : dc mX4_jumpOver 17 (.aload_n 0) 1 := by decide +kernel
theorem dX4_jumpOver_18 : dc mX4_jumpOver 18 (.getfield 31) 3 := by decide +kernel
theorem dX4_jumpOver_21 : dc mX4_jumpOver 21 (.iconst (-1)) 1 := by decide +kernel
theorem dX4_jumpOver_22 : dc mX4_jumpOver 22 (.if_icmp .eq (-20)) 3 := by decide +kernel
theorem dX4_jumpOver_25 : dc mX4_jumpOver 25 (.aload_n 0) 1 := by decide +kernel
theorem dX4_jumpOver_26 : dc mX4_jumpOver 26 (.getfield 21) 3 := by decide +kernel
theorem dX4_jumpOver_29 : dc mX4_jumpOver 29 (.aload_n 0) 1 := by decide +kernel
theorem dX4_jumpOver_30 : dc mX4_jumpOver 30 (.getfield 31) 3 := by decide +kernel
theorem dX4_jumpOver_33 : dc mX4_jumpOver 33 (.invokevirtual 96) 3 := by decide +kernel
theorem dX4_jumpOver_36 : dc mX4_jumpOver 36 (.istore_n 3) 1 := by decide +kernel
theorem dX4_jumpOver_37 : dc mX4_jumpOver 37 (.aload_n 0) 1 := by decide +kernel
theorem dX4_jumpOver_38 : dc mX4_jumpOver 38 (.getfield 21) 3 := by decide +kernel
theorem dX4_jumpOver_41 : dc mX4_jumpOver 41 (.aload_n 0) 1 := by decide +kernel
theorem dX4_jumpOver_42 : dc mX4_jumpOver 42 (.getfield 31) 3 := by decide +kernel
theorem dX4_jumpOver_45 : dc mX4_jumpOver 45 (.bipush 8) 2 := by decide +kernel
theorem dX4_jumpOver_47 : dc mX4_jumpOver 47 (.invokevirtual 106) 3 := by decide +kernel
theorem dX4_jumpOver_50 : dc mX4_jumpOver 50 (.aload_n 0) 1 := by decide +kernel
theorem dX4_jumpOver_51 : dc mX4_jumpOver 51 .dup 1 := by decide +kernel
theorem dX4_jumpOver_52 : dc mX4_jumpOver 52 (.getfield 56) 3 := by decide +kernel
theorem dX4_jumpOver_55 : dc mX4_jumpOver 55 (.iconst 1) 1 := by decide +kernel
theorem dX4_jumpOver_56 : dc mX4_jumpOver 56 .iadd 1 := by decide +kernel
theorem dX4_jumpOver_57 : dc mX4_jumpOver 57 (.putfield 56) 3 := by decide +kernel
theorem dX4_jumpOver_60 : dc mX4_jumpOver 60 (.aload_n 0) 1 := by decide +kernel
theorem dX4_jumpOver_61 : dc mX4_jumpOver 61 (.iload_n 3) 1 := by decide +kernel
theorem dX4_jumpOver_62 : dc mX4_jumpOver 62 (.invokevirtual 118) 3 := by decide +kernel
theorem dX4_jumpOver_65 : dc mX4_jumpOver 65 (.goto (-63)) 3 := by decide +kernel
theorem dX4_jumpOver_68 : dc mX4_jumpOver 68 (.iload_n 2) 1 := by decide +kernel
theorem dX4_jumpOver_69 : dc mX4_jumpOver 69 .ireturn 1 := by decide +kernel
theorem dX4_turnBy_0 : dc mX4_turnBy 0 (.aload_n 0) 1 := by decide +kernel
theorem dX4_turnBy_1 : dc mX4_turnBy 1 (.aload_n 0) 1 := by decide +kernel
theorem dX4_turnBy_2 : dc mX4_turnBy 2 (.getfield 53) 3 := by decide +kernel
theorem dX4_turnBy_5 : dc mX4_turnBy 5 (.iload_n 1) 1 := by decide +kernel
theorem dX4_turnBy_6 : dc mX4_turnBy 6 .iadd 1 := by decide +kernel
theorem dX4_turnBy_7 : dc mX4_turnBy 7 (.iconst 4) 1 := by decide +kernel
theorem dX4_turnBy_8 : dc mX4_turnBy 8 (.invokestatic 124) 3 := by decide +kernel
theorem dX4_turnBy_11 : dc mX4_turnBy 11 (.putfield 53) 3 := by decide +kernel
theorem dX4_turnBy_14 : dc mX4_turnBy 14 (.aload_n 0) 1 := by decide +kernel
theorem dX4_turnBy_15 : dc mX4_turnBy 15 (.getfield 31) 3 := by decide +kernel
theorem dX4_turnBy_18 : dc mX4_turnBy 18 (.iconst (-1)) 1 := by decide +kernel
theorem dX4_turnBy_19 : dc mX4_turnBy 19 (.if_icmp .eq 13) 3 := by decide +kernel
theorem dX4_turnBy_22 : dc mX4_turnBy 22 (.aload_n 0) 1 := by decide +kernel
theorem dX4_turnBy_23 : dc mX4_turnBy 23 .dup 1 := by decide +kernel
theorem dX4_turnBy_24 : dc mX4_turnBy 24 (.getfield 56) 3 := by decide +kernel
theorem dX4_turnBy_27 : dc mX4_turnBy 27 (.iconst 2) 1 := by decide +kernel
theorem dX4_turnBy_28 : dc mX4_turnBy 28 .iadd 1 := by decide +kernel
theorem dX4_turnBy_29 : dc mX4_turnBy 29 (.putfield 56) 3 := by decide +kernel
theorem dX4_turnBy_32 : dc mX4_turnBy 32 .return_ 1 := by decide +kernel
theorem dX4_tryThread_0 : dc mX4_tryThread 0 (.aload_n 0) 1 := by decide +kernel
theorem dX4_tryThread_1 : dc mX4_tryThread 1 (.getfield 21) 3 := by decide +kernel
theorem dX4_tryThread_4 : dc mX4_tryThread 4 (.iload_n 1) 1 := by decide +kernel
theorem dX4_tryThread_5 : dc mX4_tryThread 5 (.invokevirtual 129) 3 := by decide +kernel
theorem dX4_tryThread_8 : dc mX4_tryThread 8 (.ifCond .ne 5) 3 := by decide +kernel
theorem dX4_tryThread_11 : dc mX4_tryThread 11 (.iconst 0) 1 := by decide +kernel
theorem dX4_tryThread_12 : dc mX4_tryThread 12 .ireturn 1 := by decide +kernel
theorem dX4_tryThread_13 : dc mX4_tryThread 13 (.aload_n 0) 1 := by decide +kernel
theorem dX4_tryThread_14 : dc mX4_tryThread 14 (.invokevirtual 132) 3 := by decide +kernel
theorem dX4_tryThread_17 : dc mX4_tryThread 17 .pop 1 := by decide +kernel
theorem dX4_tryThread_18 : dc mX4_tryThread 18 (.aload_n 0) 1 := by decide +kernel
theorem dX4_tryThread_19 : dc mX4_tryThread 19 (.getfield 21) 3 := by decide +kernel
theorem dX4_tryThread_22 : dc mX4_tryThread 22 (.iload_n 1) 1 := by decide +kernel
theorem dX4_tryThread_23 : dc mX4_tryThread 23 (.invokevirtual 135) 3 := by decide +kernel
theorem dX4_tryThread_26 : dc mX4_tryThread 26 (.aload_n 0) 1 := by decide +kernel
theorem dX4_tryThread_27 : dc mX4_tryThread 27 (.iload_n 1) 1 := by decide +kernel
theorem dX4_tryThread_28 : dc mX4_tryThread 28 (.putfield 31) 3 := by decide +kernel
theorem dX4_tryThread_31 : dc mX4_tryThread 31 (.aload_n 0) 1 := by decide +kernel
theorem dX4_tryThread_32 : dc mX4_tryThread 32 (.iconst 0) 1 := by decide +kernel
theorem dX4_tryThread_33 : dc mX4_tryThread 33 (.putfield 56) 3 := by decide +kernel
theorem dX4_tryThread_36 : dc mX4_tryThread 36 (.iconst 1) 1 := by decide +kernel
theorem dX4_tryThread_37 : dc mX4_tryThread 37 .ireturn 1 := by decide +kernel
theorem dX4_tryCut_0 : dc mX4_tryCut 0 (.aload_n 0) 1 := by decide +kernel
theorem dX4_tryCut_1 : dc mX4_tryCut 1 (.getfield 31) 3 := by decide +kernel
theorem dX4_tryCut_4 : dc mX4_tryCut 4 (.iconst (-1)) 1 := by decide +kernel
theorem dX4_tryCut_5 : dc mX4_tryCut 5 (.if_icmp .ne 5) 3 := by decide +kernel
theorem dX4_tryCut_8 : dc mX4_tryCut 8 (.iconst 0) 1 := by decide +kernel
theorem dX4_tryCut_9 : dc mX4_tryCut 9 .ireturn 1 := by decide +kernel
theorem dX4_tryCut_10 : dc mX4_tryCut 10 (.aload_n 0) 1 := by decide +kernel
theorem dX4_tryCut_11 : dc mX4_tryCut 11 (.getfield 21) 3 := by decide +kernel
theorem dX4_tryCut_14 : dc mX4_tryCut 14 (.aload_n 0) 1 := by decide +kernel
theorem dX4_tryCut_15 : dc mX4_tryCut 15 (.getfield 31) 3 := by decide +kernel
theorem dX4_tryCut_18 : dc mX4_tryCut 18 (.invokevirtual 135) 3 := by decide +kernel
theorem dX4_tryCut_21 : dc mX4_tryCut 21 (.aload_n 0) 1 := by decide +kernel
theorem dX4_tryCut_22 : dc mX4_tryCut 22 (.iconst (-1)) 1 := by decide +kernel
theorem dX4_tryCut_23 : dc mX4_tryCut 23 (.putfield 31) 3 := by decide +kernel
theorem dX4_tryCut_26 : dc mX4_tryCut 26 (.aload_n 0) 1 := by decide +kernel
theorem dX4_tryCut_27 : dc mX4_tryCut 27 (.iconst 0) 1 := by decide +kernel
theorem dX4_tryCut_28 : dc mX4_tryCut 28 (.putfield 56) 3 := by decide +kernel
theorem dX4_tryCut_31 : dc mX4_tryCut 31 (.iconst 1) 1 := by decide +kernel
theorem dX4_tryCut_32 : dc mX4_tryCut 32 .ireturn 1 := by decide +kernel
theorem dX4_tryEase_0 : dc mX4_tryEase 0 (.aload_n 0) 1 := by decide +kernel
theorem dX4_tryEase_1 : dc mX4_tryEase 1 (.getfield 31) 3 := by decide +kernel
theorem dX4_tryEase_4 : dc mX4_tryEase 4 (.iconst (-1)) 1 := by decide +kernel
theorem dX4_tryEase_5 : dc mX4_tryEase 5 (.if_icmp .ne 5) 3 := by decide +kernel
theorem dX4_tryEase_8 : dc mX4_tryEase 8 (.iconst 0) 1 := by decide +kernel
theorem dX4_tryEase_9 : dc mX4_tryEase 9 .ireturn 1 := by decide +kernel
theorem dX4_tryEase_10 : dc mX4_tryEase 10 (.aload_n 0) 1 := by decide +kernel
theorem dX4_tryEase_11 : dc mX4_tryEase 11 (.getfield 21) 3 := by decide +kernel
theorem dX4_tryEase_14 : dc mX4_tryEase 14 (.aload_n 0) 1 := by decide +kernel
theorem dX4_tryEase_15 : dc mX4_tryEase 15 (.getfield 31) 3 := by decide +kernel
theorem dX4_tryEase_18 : dc mX4_tryEase 18 (.aload_n 0) 1 := by decide +kernel
theorem dX4_tryEase_19 : dc mX4_tryEase 19 (.getfield 21) 3 := by decide +kernel
theorem dX4_tryEase_22 : dc mX4_tryEase 22 (.aload_n 0) 1 := by decide +kernel
theorem dX4_tryEase_23 : dc mX4_tryEase 23 (.getfield 31) 3 := by decide +kernel
theorem dX4_tryEase_26 : dc mX4_tryEase 26 (.bipush 10) 2 := by decide +kernel
theorem dX4_tryEase_28 : dc mX4_tryEase 28 (.invokevirtual 114) 3 := by decide +kernel
theorem dX4_tryEase_31 : dc mX4_tryEase 31 (.invokevirtual 138) 3 := by decide +kernel
theorem dX4_tryEase_34 : dc mX4_tryEase 34 (.aload_n 0) 1 := by decide +kernel
theorem dX4_tryEase_35 : dc mX4_tryEase 35 (.iconst 0) 1 := by decide +kernel
theorem dX4_tryEase_36 : dc mX4_tryEase 36 (.putfield 56) 3 := by decide +kernel
theorem dX4_tryEase_39 : dc mX4_tryEase 39 (.iconst 1) 1 := by decide +kernel
theorem dX4_tryEase_40 : dc mX4_tryEase 40 .ireturn 1 := by decide +kernel
theorem dX4_mendAt_0 : dc mX4_mendAt 0 (.aload_n 0) 1 := by decide +kernel
theorem dX4_mendAt_1 : dc mX4_mendAt 1 (.getfield 12) 3 := by decide +kernel
theorem dX4_mendAt_4 : dc mX4_mendAt 4 (.iload_n 1) 1 := by decide +kernel
theorem dX4_mendAt_5 : dc mX4_mendAt 5 (.invokevirtual 82) 3 := by decide +kernel
theorem dX4_mendAt_8 : dc mX4_mendAt 8 (.istore_n 2) 1 := by decide +kernel
theorem dX4_mendAt_9 : dc mX4_mendAt 9 (.aload_n 0) 1 := by decide +kernel
theorem dX4_mendAt_10 : dc mX4_mendAt 10 (.getfield 21) 3 := by decide +kernel
theorem dX4_mendAt_13 : dc mX4_mendAt 13 (.iload_n 2) 1 := by decide +kernel
theorem dX4_mendAt_14 : dc mX4_mendAt 14 (.aload_n 0) 1 := by decide +kernel
theorem dX4_mendAt_15 : dc mX4_mendAt 15 (.getfield 35) 3 := by decide +kernel
theorem dX4_mendAt_18 : dc mX4_mendAt 18 (.invokestatic 75) 3 := by decide +kernel
theorem dX4_mendAt_21 : dc mX4_mendAt 21 (.invokevirtual 114) 3 := by decide +kernel
theorem dX4_mendAt_24 : dc mX4_mendAt 24 .pop 1 := by decide +kernel
theorem dX4_mendAt_25 : dc mX4_mendAt 25 (.aload_n 0) 1 := by decide +kernel
theorem dX4_mendAt_26 : dc mX4_mendAt 26 (.getfield 12) 3 := by decide +kernel
theorem dX4_mendAt_29 : dc mX4_mendAt 29 (.iload_n 1) 1 := by decide +kernel
theorem dX4_mendAt_30 : dc mX4_mendAt 30 (.iload_n 2) 1 := by decide +kernel
theorem dX4_mendAt_31 : dc mX4_mendAt 31 (.aload_n 0) 1 := by decide +kernel
theorem dX4_mendAt_32 : dc mX4_mendAt 32 (.getfield 35) 3 := by decide +kernel
theorem dX4_mendAt_35 : dc mX4_mendAt 35 (.invokevirtual 110) 3 := by decide +kernel
theorem dX4_mendAt_38 : dc mX4_mendAt 38 .return_ 1 := by decide +kernel
theorem dX4_tryUnpick_0 : dc mX4_tryUnpick 0 (.aload_n 0) 1 := by decide +kernel
theorem dX4_tryUnpick_1 : dc mX4_tryUnpick 1 (.getfield 12) 3 := by decide +kernel
theorem dX4_tryUnpick_4 : dc mX4_tryUnpick 4 (.iload_n 1) 1 := by decide +kernel
theorem dX4_tryUnpick_5 : dc mX4_tryUnpick 5 (.invokevirtual 68) 3 := by decide +kernel
theorem dX4_tryUnpick_8 : dc mX4_tryUnpick 8 (.istore_n 2) 1 := by decide +kernel
theorem dX4_tryUnpick_9 : dc mX4_tryUnpick 9 (.iload_n 2) 1 := by decide +kernel
theorem dX4_tryUnpick_10 : dc mX4_tryUnpick 10 (.iconst (-1)) 1 := by decide +kernel
theorem dX4_tryUnpick_11 : dc mX4_tryUnpick 11 (.if_icmp .eq 30) 3 := by decide +kernel
theorem dX4_tryUnpick_14 : dc mX4_tryUnpick 14 (.aload_n 0) 1 := by decide +kernel
theorem dX4_tryUnpick_15 : dc mX4_tryUnpick 15 (.getfield 21) 3 := by decide +kernel
theorem dX4_tryUnpick_18 : dc mX4_tryUnpick 18 (.iload_n 2) 1 := by decide +kernel
theorem dX4_tryUnpick_19 : dc mX4_tryUnpick 19 (.aload_n 0) 1 := by decide +kernel
theorem dX4_tryUnpick_20 : dc mX4_tryUnpick 20 (.getfield 12) 3 := by decide +kernel
theorem dX4_tryUnpick_23 : dc mX4_tryUnpick 23 (.iload_n 1) 1 := by decide +kernel
theorem dX4_tryUnpick_24 : dc mX4_tryUnpick 24 (.invokevirtual 141) 3 := by decide +kernel
theorem dX4_tryUnpick_27 : dc mX4_tryUnpick 27 (.invokestatic 75) 3 := by decide +kernel
theorem dX4_tryUnpick_30 : dc mX4_tryUnpick 30 (.invokevirtual 138) 3 := by decide +kernel
theorem dX4_tryUnpick_33 : dc mX4_tryUnpick 33 (.aload_n 0) 1 := by decide +kernel
theorem dX4_tryUnpick_34 : dc mX4_tryUnpick 34 (.getfield 12) 3 := by decide +kernel
theorem dX4_tryUnpick_37 : dc mX4_tryUnpick 37 (.iload_n 1) 1 := by decide +kernel
theorem dX4_tryUnpick_38 : dc mX4_tryUnpick 38 (.invokevirtual 144) 3 := by decide +kernel
theorem dX4_tryUnpick_41 : dc mX4_tryUnpick 41 .return_ 1 := by decide +kernel
theorem dX4_shearTo_0 : dc mX4_shearTo 0 (.iconst 0) 1 := by decide +kernel
theorem dX4_shearTo_1 : dc mX4_shearTo 1 (.istore_n 2) 1 := by decide +kernel
theorem dX4_shearTo_2 : dc mX4_shearTo 2 (.iconst 0) 1 := by decide +kernel
theorem dX4_shearTo_3 : dc mX4_shearTo 3 (.istore_n 3) 1 := by decide +kernel
theorem dX4_shearTo_4 : dc mX4_shearTo 4 (.iload_n 3) 1 := by decide +kernel
theorem dX4_shearTo_5 : dc mX4_shearTo 5 (.sipush 144) 3 := by decide +kernel
theorem dX4_shearTo_8 : dc mX4_shearTo 8 (.if_icmp .ge 63) 3 := by decide +kernel
theorem dX4_shearTo_11 : dc mX4_shearTo 11 (.aload_n 0) 1 := by decide +kernel
theorem dX4_shearTo_12 : dc mX4_shearTo 12 (.getfield 12) 3 := by decide +kernel
theorem dX4_shearTo_15 : dc mX4_shearTo 15 (.iload_n 3) 1 := by decide +kernel
theorem dX4_shearTo_16 : dc mX4_shearTo 16 (.invokevirtual 141) 3 := by decide +kernel
theorem dX4_shearTo_19 : dc mX4_shearTo 19 (.iload_n 1) 1 := by decide +kernel
theorem dX4_shearTo_20 : dc mX4_shearTo 20 .isub 1 := by decide +kernel
theorem dX4_shearTo_21 : dc mX4_shearTo 21 (.istore 4) 2 := by decide +kernel
theorem dX4_shearTo_23 : dc mX4_shearTo 23 (.iload 4) 2 := by decide +kernel
theorem dX4_shearTo_25 : dc mX4_shearTo 25 (.ifCond .le 40) 3 := by decide +kernel
theorem dX4_shearTo_28 : dc mX4_shearTo 28 (.aload_n 0) 1 := by decide +kernel
theorem dX4_shearTo_29 : dc mX4_shearTo 29 (.getfield 12) 3 := by decide +kernel
theorem dX4_shearTo_32 : dc mX4_shearTo 32 (.iload_n 3) 1 := by decide +kernel
theorem dX4_shearTo_33 : dc mX4_shearTo 33 (.invokevirtual 68) 3 := by decide +kernel
theorem dX4_shearTo_36 : dc mX4_shearTo 36 (.istore 5) 2 := by decide +kernel
theorem dX4_shearTo_38 : dc mX4_shearTo 38 (.aload_n 0) 1 := by decide +kernel
theorem dX4_shearTo_39 : dc mX4_shearTo 39 (.getfield 12) 3 := by decide +kernel
theorem dX4_shearTo_42 : dc mX4_shearTo 42 (.iload_n 3) 1 := by decide +kernel
theorem dX4_shearTo_43 : dc mX4_shearTo 43 (.iload 5) 2 := by decide +kernel
theorem dX4_shearTo_45 : dc mX4_shearTo 45 (.iload_n 1) 1 := by decide +kernel
theorem dX4_shearTo_46 : dc mX4_shearTo 46 (.invokevirtual 110) 3 := by decide +kernel
theorem dX4_shearTo_49 : dc mX4_shearTo 49 (.aload_n 0) 1 := by decide +kernel
theorem dX4_shearTo_50 : dc mX4_shearTo 50 (.getfield 21) 3 := by decide +kernel
theorem dX4_shearTo_53 : dc mX4_shearTo 53 (.iload 5) 2 := by decide +kernel
theorem dX4_shearTo_55 : dc mX4_shearTo 55 (.iconst 2) 1 := by decide +kernel
theorem dX4_shearTo_56 : dc mX4_shearTo 56 (.iload 4) 2 := by decide +kernel
theorem dX4_shearTo_58 : dc mX4_shearTo 58 .imul 1 := by decide +kernel
theorem dX4_shearTo_59 : dc mX4_shearTo 59 (.invokevirtual 138) 3 := by decide +kernel
theorem dX4_shearTo_62 : dc mX4_shearTo 62 (.iinc 2 1) 3 := by decide +kernel
theorem dX4_shearTo_65 : dc mX4_shearTo 65 (.iinc 3 1) 3 := by decide +kernel
theorem dX4_shearTo_68 : dc mX4_shearTo 68 (.goto (-64)) 3 := by decide +kernel
theorem dX4_shearTo_71 : dc mX4_shearTo 71 (.iload_n 2) 1 := by decide +kernel
theorem dX4_shearTo_72 : dc mX4_shearTo 72 .ireturn 1 := by decide +kernel
theorem dX5_init_0 : dc mX5_init 0 (.aload_n 0) 1 := by decide +kernel
theorem dX5_init_1 : dc mX5_init 1 (.invokespecial 3) 3 := by decide +kernel
theorem dX5_init_4 : dc mX5_init 4 (.aload_n 0) 1 := by decide +kernel
theorem dX5_init_5 : dc mX5_init 5 (.bipush 120) 2 := by decide +kernel
theorem dX5_init_7 : dc mX5_init 7 (.newarray .char) 2 := by decide +kernel
theorem dX5_init_9 : dc mX5_init 9 (.putfield 9) 3 := by decide +kernel
theorem dX5_init_12 : dc mX5_init 12 .return_ 1 := by decide +kernel
theorem dX5_add_0 : dc mX5_add 0 (.aload_n 0) 1 := by decide +kernel
theorem dX5_add_1 : dc mX5_add 1 (.getfield 15) 3 := by decide +kernel
theorem dX5_add_4 : dc mX5_add 4 (.ifCond .lt 32) 3 := by decide +kernel
theorem dX5_add_7 : dc mX5_add 7 (.aload_n 0) 1 := by decide +kernel
theorem dX5_add_8 : dc mX5_add 8 (.getfield 15) 3 := by decide +kernel
theorem dX5_add_11 : dc mX5_add 11 (.bipush 120) 2 := by decide +kernel
theorem dX5_add_13 : dc mX5_add 13 (.if_icmp .ge 23) 3 := by decide +kernel
theorem dX5_add_16 : dc mX5_add 16 (.aload_n 0) 1 := by decide +kernel
theorem dX5_add_17 : dc mX5_add 17 (.getfield 9) 3 := by decide +kernel
theorem dX5_add_20 : dc mX5_add 20 (.aload_n 0) 1 := by decide +kernel
theorem dX5_add_21 : dc mX5_add 21 (.getfield 15) 3 := by decide +kernel
theorem dX5_add_24 : dc mX5_add 24 (.iload_n 1) 1 := by decide +kernel
theorem dX5_add_25 : dc mX5_add 25 .castore 1 := by decide +kernel
theorem dX5_add_26 : dc mX5_add 26 (.aload_n 0) 1 := by decide +kernel
theorem dX5_add_27 : dc mX5_add 27 .dup 1 := by decide +kernel
theorem dX5_add_28 : dc mX5_add 28 (.getfield 15) 3 := by decide +kernel
theorem dX5_add_31 : dc mX5_add 31 (.iconst 1) 1 := by decide +kernel
theorem dX5_add_32 : dc mX5_add 32 .iadd 1 := by decide +kernel
theorem dX5_add_33 : dc mX5_add 33 (.putfield 15) 3 := by decide +kernel
theorem dX5_add_36 : dc mX5_add 36 .return_ 1 := by decide +kernel
theorem dX5_copyFrom_0 : dc mX5_copyFrom 0 (.aload_n 1) 1 := by decide +kernel
theorem dX5_copyFrom_1 : dc mX5_copyFrom 1 (.getfield 9) 3 := by decide +kernel
theorem dX5_copyFrom_4 : dc mX5_copyFrom 4 (.iconst 0) 1 := by decide +kernel
theorem dX5_copyFrom_5 : dc mX5_copyFrom 5 (.aload_n 0) 1 := by decide +kernel
theorem dX5_copyFrom_6 : dc mX5_copyFrom 6 (.getfield 9) 3 := by decide +kernel
theorem dX5_copyFrom_9 : dc mX5_copyFrom 9 (.iconst 0) 1 := by decide +kernel
theorem dX5_copyFrom_10 : dc mX5_copyFrom 10 (.bipush 120) 2 := by decide +kernel
theorem dX5_copyFrom_12 : dc mX5_copyFrom 12 (.invokestatic 19) 3 := by decide +kernel
theorem dX5_copyFrom_15 : dc mX5_copyFrom 15 (.aload_n 0) 1 := by decide +kernel
theorem dX5_copyFrom_16 : dc mX5_copyFrom 16 (.aload_n 1) 1 := by decide +kernel
theorem dX5_copyFrom_17 : dc mX5_copyFrom 17 (.getfield 15) 3 := by decide +kernel
theorem dX5_copyFrom_20 : dc mX5_copyFrom 20 (.putfield 15) 3 := by decide +kernel
theorem dX5_copyFrom_23 : dc mX5_copyFrom 23 .return_ 1 := by decide +kernel
theorem dX5_signAt_0 : dc mX5_signAt 0 (.iload_n 1) 1 := by decide +kernel
theorem dX5_signAt_1 : dc mX5_signAt 1 (.ifCond .lt 26) 3 := by decide +kernel
theorem dX5_signAt_4 : dc mX5_signAt 4 (.iload_n 1) 1 := by decide +kernel
theorem dX5_signAt_5 : dc mX5_signAt 5 (.aload_n 0) 1 := by decide +kernel
theorem dX5_signAt_6 : dc mX5_signAt 6 (.getfield 15) 3 := by decide +kernel
theorem dX5_signAt_9 : dc mX5_signAt 9 (.if_icmp .ge 18) 3 := by decide +kernel
theorem dX5_signAt_12 : dc mX5_signAt 12 (.iload_n 1) 1 := by decide +kernel
theorem dX5_signAt_13 : dc mX5_signAt 13 (.bipush 120) 2 := by decide +kernel
theorem dX5_signAt_15 : dc mX5_signAt 15 (.if_icmp .ge 12) 3 := by decide +kernel
theorem dX5_signAt_18 : dc mX5_signAt 18 (.aload_n 0) 1 := by decide +kernel
theorem dX5_signAt_19 : dc mX5_signAt 19 (.getfield 9) 3 := by decide +kernel
theorem dX5_signAt_22 : dc mX5_signAt 22 (.iload_n 1) 1 := by decide +kernel
theorem dX5_signAt_23 : dc mX5_signAt 23 .caload 1 := by decide +kernel
theorem dX5_signAt_24 : dc mX5_signAt 24 (.goto 4) 3 := by decide +kernel
theorem dX5_signAt_27 : dc mX5_signAt 27 (.iconst 0) 1 := by decide +kernel
theorem dX5_signAt_28 : dc mX5_signAt 28 .ireturn 1 := by decide +kernel
theorem dX5_digitAt_0 : dc mX5_digitAt 0 (.aload_n 0) 1 := by decide +kernel
theorem dX5_digitAt_1 : dc mX5_digitAt 1 (.iload_n 1) 1 := by decide +kernel
theorem dX5_digitAt_2 : dc mX5_digitAt 2 (.invokevirtual 25) 3 := by decide +kernel
theorem dX5_digitAt_5 : dc mX5_digitAt 5 (.bipush 48) 2 := by decide +kernel
theorem dX5_digitAt_7 : dc mX5_digitAt 7 .isub 1 := by decide +kernel
theorem dX5_digitAt_8 : dc mX5_digitAt 8 .ireturn 1 := by decide +kernel
theorem dX5_firstError_0 : dc mX5_firstError 0 (.iconst 0) 1 := by decide +kernel
theorem dX5_firstError_1 : dc mX5_firstError 1 (.istore_n 1) 1 := by decide +kernel
theorem dX5_firstError_2 : dc mX5_firstError 2 (.iconst 0) 1 := by decide +kernel
theorem dX5_firstError_3 : dc mX5_firstError 3 (.istore_n 2) 1 := by decide +kernel
theorem dX5_firstError_4 : dc mX5_firstError 4 (.iconst 0) 1 := by decide +kernel
theorem dX5_firstError_5 : dc mX5_firstError 5 (.istore_n 3) 1 := by decide +kernel
theorem dX5_firstError_6 : dc mX5_firstError 6 (.iload_n 3) 1 := by decide +kernel
theorem dX5_firstError_7 : dc mX5_firstError 7 (.aload_n 0) 1 := by decide +kernel
theorem dX5_firstError_8 : dc mX5_firstError 8 (.getfield 15) 3 := by decide +kernel
theorem dX5_firstError_11 : dc mX5_firstError 11 (.if_icmp .ge 60) 3 := by decide +kernel
theorem dX5_firstError_14 : dc mX5_firstError 14 (.iload_n 3) 1 := by decide +kernel
theorem dX5_firstError_15 : dc mX5_firstError 15 (.bipush 120) 2 := by decide +kernel
theorem dX5_firstError_17 : dc mX5_firstError 17 (.if_icmp .ge 54) 3 := by decide +kernel
theorem dX5_firstError_20 : dc mX5_firstError 20 (.aload_n 0) 1 := by decide +kernel
theorem dX5_firstError_21 : dc mX5_firstError 21 (.getfield 9) 3 := by decide +kernel
theorem dX5_firstError_24 : dc mX5_firstError 24 (.iload_n 3) 1 := by decide +kernel
theorem dX5_firstError_25 : dc mX5_firstError 25 .caload 1 := by decide +kernel
theorem dX5_firstError_26 : dc mX5_firstError 26 (.istore 4) 2 := by decide +kernel
theorem dX5_firstError_28 : dc mX5_firstError 28 (.iload_n 1) 1 := by decide +kernel
theorem dX5_firstError_29 : dc mX5_firstError 29 (.iload 4) 2 := by decide +kernel
theorem dX5_firstError_31 : dc mX5_firstError 31 (.iload_n 2) 1 := by decide +kernel
theorem dX5_firstError_32 : dc mX5_firstError 32 (.invokestatic 29) 3 := by decide +kernel
theorem dX5_firstError_35 : dc mX5_firstError 35 (.istore_n 1) 1 := by decide +kernel
theorem dX5_firstError_36 : dc mX5_firstError 36 (.iload_n 1) 1 := by decide +kernel
theorem dX5_firstError_37 : dc mX5_firstError 37 (.bipush 9) 2 := by decide +kernel
theorem dX5_firstError_39 : dc mX5_firstError 39 (.if_icmp .ne 5) 3 := by decide +kernel
theorem dX5_firstError_42 : dc mX5_firstError 42 (.iload_n 3) 1 := by decide +kernel
theorem dX5_firstError_43 : dc mX5_firstError 43 .ireturn 1 := by decide +kernel
theorem dX5_firstError_44 : dc mX5_firstError 44 (.iload 4) 2 := by decide +kernel
theorem dX5_firstError_46 : dc mX5_firstError 46 (.bipush 40) 2 := by decide +kernel
theorem dX5_firstError_48 : dc mX5_firstError 48 (.if_icmp .ne 8) 3 := by decide +kernel
theorem dX5_firstError_51 : dc mX5_firstError 51 (.iconst 1) 1 := by decide +kernel
theorem dX5_firstError_52 : dc mX5_firstError 52 (.istore_n 2) 1 := by decide +kernel
theorem dX5_firstError_53 : dc mX5_firstError 53 (.goto 12) 3 := by decide +kernel
theorem dX5_firstError_56 : dc mX5_firstError 56 (.iload 4) 2 := by decide +kernel
theorem dX5_firstError_58 : dc mX5_firstError 58 (.bipush 41) 2 := by decide +kernel
theorem dX5_firstError_60 : dc mX5_firstError 60 (.if_icmp .ne 5) 3 := by decide +kernel
theorem dX5_firstError_63 : dc mX5_firstError 63 (.iconst 0) 1 := by decide +kernel
theorem dX5_firstError_64 : dc mX5_firstError 64 (.istore_n 2) 1 := by decide +kernel
theorem dX5_firstError_65 : dc mX5_firstError 65 (.iinc 3 1) 3 := by decide +kernel
theorem dX5_firstError_68 : dc mX5_firstError 68 (.goto (-62)) 3 := by decide +kernel
theorem dX5_firstError_71 : dc mX5_firstError 71 (.iload_n 1) 1 := by decide +kernel
theorem dX5_firstError_72 : dc mX5_firstError 72 (.iconst 1) 1 := by decide +kernel
theorem dX5_firstError_73 : dc mX5_firstError 73 (.if_icmp .ne 11) 3 := by decide +kernel
theorem dX5_firstError_76 : dc mX5_firstError 76 (.iload_n 2) 1 := by decide +kernel
theorem dX5_firstError_77 : dc mX5_firstError 77 (.ifCond .ne 7) 3 := by decide +kernel
theorem dX5_firstError_80 : dc mX5_firstError 80 (.iconst (-1)) 1 := by decide +kernel
theorem dX5_firstError_81 : dc mX5_firstError 81 (.goto 7) 3 := by decide +kernel
theorem dX5_firstError_84 : dc mX5_firstError 84 (.aload_n 0) 1 := by decide +kernel
theorem dX5_firstError_85 : dc mX5_firstError 85 (.getfield 15) 3 := by decide +kernel
theorem dX5_firstError_88 : dc mX5_firstError 88 .ireturn 1 := by decide +kernel
theorem dX5_awaitedAfter_0 : dc mX5_awaitedAfter 0 (.iload_n 0) 1 := by decide +kernel
theorem dX5_awaitedAfter_1 : dc mX5_awaitedAfter 1 (.tableswitch 158 0 8 #[51, 57, 77, 100, 109, 118, 127, 136, 145]) 51 := by decide +kernel
theorem dX5_awaitedAfter_52 : dc mX5_awaitedAfter 52 (.iload_n 1) 1 := by decide +kernel
theorem dX5_awaitedAfter_53 : dc mX5_awaitedAfter 53 (.iload_n 2) 1 := by decide +kernel
theorem dX5_awaitedAfter_54 : dc mX5_awaitedAfter 54 (.invokestatic 33) 3 := by decide +kernel
theorem dX5_awaitedAfter_57 : dc mX5_awaitedAfter 57 .ireturn 1 := by decide +kernel
theorem dX5_awaitedAfter_58 : dc mX5_awaitedAfter 58 (.iload_n 1) 1 := by decide +kernel
theorem dX5_awaitedAfter_59 : dc mX5_awaitedAfter 59 (.bipush 41) 2 := by decide +kernel
theorem dX5_awaitedAfter_61 : dc mX5_awaitedAfter 61 (.if_icmp .ne 11) 3 := by decide +kernel
theorem dX5_awaitedAfter_64 : dc mX5_awaitedAfter 64 (.iload_n 2) 1 := by decide +kernel
theorem dX5_awaitedAfter_65 : dc mX5_awaitedAfter 65 (.ifCond .eq 7) 3 := by decide +kernel
theorem dX5_awaitedAfter_68 : dc mX5_awaitedAfter 68 (.iconst 1) 1 := by decide +kernel
theorem dX5_awaitedAfter_69 : dc mX5_awaitedAfter 69 (.goto 8) 3 := by decide +kernel
theorem dX5_awaitedAfter_72 : dc mX5_awaitedAfter 72 (.iload_n 1) 1 := by decide +kernel
theorem dX5_awaitedAfter_73 : dc mX5_awaitedAfter 73 (.iload_n 2) 1 := by decide +kernel
theorem dX5_awaitedAfter_74 : dc mX5_awaitedAfter 74 (.invokestatic 33) 3 := by decide +kernel
theorem dX5_awaitedAfter_77 : dc mX5_awaitedAfter 77 .ireturn 1 := by decide +kernel
theorem dX5_awaitedAfter_78 : dc mX5_awaitedAfter 78 (.iload_n 1) 1 := by decide +kernel
theorem dX5_awaitedAfter_79 : dc mX5_awaitedAfter 79 (.bipush 48) 2 := by decide +kernel
theorem dX5_awaitedAfter_81 : dc mX5_awaitedAfter 81 (.if_icmp .ne 7) 3 := by decide +kernel
theorem dX5_awaitedAfter_84 : dc mX5_awaitedAfter 84 (.iconst 3) 1 := by decide +kernel
theorem dX5_awaitedAfter_85 : dc mX5_awaitedAfter 85 (.goto 15) 3 := by decide +kernel
theorem dX5_awaitedAfter_88 : dc mX5_awaitedAfter 88 (.iload_n 1) 1 := by decide +kernel
theorem dX5_awaitedAfter_89 : dc mX5_awaitedAfter 89 (.bipush 49) 2 := by decide +kernel
theorem dX5_awaitedAfter_91 : dc mX5_awaitedAfter 91 (.if_icmp .ne 7) 3 := by decide +kernel
theorem dX5_awaitedAfter_94 : dc mX5_awaitedAfter 94 (.iconst 4) 1 := by decide +kernel
theorem dX5_awaitedAfter_95 : dc mX5_awaitedAfter 95 (.goto 5) 3 := by decide +kernel
theorem dX5_awaitedAfter_98 : dc mX5_awaitedAfter 98 (.bipush 9) 2 := by decide +kernel
theorem dX5_awaitedAfter_100 : dc mX5_awaitedAfter 100 .ireturn 1 := by decide +kernel
theorem dX5_awaitedAfter_101 : dc mX5_awaitedAfter 101 (.iload_n 1) 1 := by decide +kernel
theorem dX5_awaitedAfter_102 : dc mX5_awaitedAfter 102 (.bipush 49) 2 := by decide +kernel
theorem dX5_awaitedAfter_104 : dc mX5_awaitedAfter 104 (.bipush 57) 2 := by decide +kernel
theorem dX5_awaitedAfter_106 : dc mX5_awaitedAfter 106 (.invokestatic 37) 3 := by decide +kernel
theorem dX5_awaitedAfter_109 : dc mX5_awaitedAfter 109 .ireturn 1 := by decide +kernel
theorem dX5_awaitedAfter_110 : dc mX5_awaitedAfter 110 (.iload_n 1) 1 := by decide +kernel
theorem dX5_awaitedAfter_111 : dc mX5_awaitedAfter 111 (.bipush 48) 2 := by decide +kernel
theorem dX5_awaitedAfter_113 : dc mX5_awaitedAfter 113 (.bipush 50) 2 := by decide +kernel
theorem dX5_awaitedAfter_115 : dc mX5_awaitedAfter 115 (.invokestatic 37) 3 := by decide +kernel
theorem dX5_awaitedAfter_118 : dc mX5_awaitedAfter 118 .ireturn 1 := by decide +kernel
theorem dX5_awaitedAfter_119 : dc mX5_awaitedAfter 119 (.iload_n 1) 1 := by decide +kernel
theorem dX5_awaitedAfter_120 : dc mX5_awaitedAfter 120 (.bipush 48) 2 := by decide +kernel
theorem dX5_awaitedAfter_122 : dc mX5_awaitedAfter 122 (.bipush 52) 2 := by decide +kernel
theorem dX5_awaitedAfter_124 : dc mX5_awaitedAfter 124 (.invokestatic 37) 3 := by decide +kernel
theorem dX5_awaitedAfter_127 : dc mX5_awaitedAfter 127 .ireturn 1 := by decide +kernel
theorem dX5_awaitedAfter_128 : dc mX5_awaitedAfter 128 (.iload_n 1) 1 := by decide +kernel
theorem dX5_awaitedAfter_129 : dc mX5_awaitedAfter 129 (.bipush 49) 2 := by decide +kernel
theorem dX5_awaitedAfter_131 : dc mX5_awaitedAfter 131 (.bipush 57) 2 := by decide +kernel
theorem dX5_awaitedAfter_133 : dc mX5_awaitedAfter 133 (.invokestatic 37) 3 := by decide +kernel
theorem dX5_awaitedAfter_136 : dc mX5_awaitedAfter 136 .ireturn 1 := by decide +kernel
theorem dX5_awaitedAfter_137 : dc mX5_awaitedAfter 137 (.iload_n 1) 1 := by decide +kernel
theorem dX5_awaitedAfter_138 : dc mX5_awaitedAfter 138 (.bipush 48) 2 := by decide +kernel
theorem dX5_awaitedAfter_140 : dc mX5_awaitedAfter 140 (.bipush 51) 2 := by decide +kernel
theorem dX5_awaitedAfter_142 : dc mX5_awaitedAfter 142 (.invokestatic 37) 3 := by decide +kernel
theorem dX5_awaitedAfter_145 : dc mX5_awaitedAfter 145 .ireturn 1 := by decide +kernel
theorem dX5_awaitedAfter_146 : dc mX5_awaitedAfter 146 (.iload_n 1) 1 := by decide +kernel
theorem dX5_awaitedAfter_147 : dc mX5_awaitedAfter 147 (.bipush 40) 2 := by decide +kernel
theorem dX5_awaitedAfter_149 : dc mX5_awaitedAfter 149 (.if_icmp .ne 7) 3 := by decide +kernel
theorem dX5_awaitedAfter_152 : dc mX5_awaitedAfter 152 (.iconst 0) 1 := by decide +kernel
theorem dX5_awaitedAfter_153 : dc mX5_awaitedAfter 153 (.goto 5) 3 := by decide +kernel
theorem dX5_awaitedAfter_156 : dc mX5_awaitedAfter 156 (.bipush 9) 2 := by decide +kernel
theorem dX5_awaitedAfter_158 : dc mX5_awaitedAfter 158 .ireturn 1 := by decide +kernel
theorem dX5_awaitedAfter_159 : dc mX5_awaitedAfter 159 (.bipush 9) 2 := by decide +kernel
theorem dX5_awaitedAfter_161 : dc mX5_awaitedAfter 161 .ireturn 1 := by decide +kernel
theorem dX5_startOfOrder_0 : dc mX5_startOfOrder 0 (.iload_n 0) 1 := by decide +kernel
theorem dX5_startOfOrder_1 : dc mX5_startOfOrder 1 (.tableswitch 115 99 120 #[107, 115, 105, 115, 115, 109, 115, 103, 115, 105, 112, 115, 115, 115, 115, 105, 103, 115, 115, 115, 115, 105]) 103 := by decide +kernel
theorem dX5_startOfOrder_104 : dc mX5_startOfOrder 104 (.iconst 2) 1 := by decide +kernel
theorem dX5_startOfOrder_105 : dc mX5_startOfOrder 105 .ireturn 1 := by decide +kernel
theorem dX5_startOfOrder_106 : dc mX5_startOfOrder 106 (.iconst 1) 1 := by decide +kernel
theorem dX5_startOfOrder_107 : dc mX5_startOfOrder 107 .ireturn 1 := by decide +kernel
theorem dX5_startOfOrder_108 : dc mX5_startOfOrder 108 (.iconst 5) 1 := by decide +kernel
theorem dX5_startOfOrder_109 : dc mX5_startOfOrder 109 .ireturn 1 := by decide +kernel
theorem dX5_startOfOrder_110 : dc mX5_startOfOrder 110 (.bipush 6) 2 := by decide +kernel
theorem dX5_startOfOrder_112 : dc mX5_startOfOrder 112 .ireturn 1 := by decide +kernel
theorem dX5_startOfOrder_113 : dc mX5_startOfOrder 113 (.bipush 7) 2 := by decide +kernel
theorem dX5_startOfOrder_115 : dc mX5_startOfOrder 115 .ireturn 1 := by decide +kernel
theorem dX5_startOfOrder_116 : dc mX5_startOfOrder 116 (.iload_n 0) 1 := by decide +kernel
theorem dX5_startOfOrder_117 : dc mX5_startOfOrder 117 (.bipush 50) 2 := by decide +kernel
theorem dX5_startOfOrder_119 : dc mX5_startOfOrder 119 (.if_icmp .lt 18) 3 := by decide +kernel
theorem dX5_startOfOrder_122 : dc mX5_startOfOrder 122 (.iload_n 0) 1 := by decide +kernel
theorem dX5_startOfOrder_123 : dc mX5_startOfOrder 123 (.bipush 57) 2 := by decide +kernel
theorem dX5_startOfOrder_125 : dc mX5_startOfOrder 125 (.if_icmp .gt 12) 3 := by decide +kernel
theorem dX5_startOfOrder_128 : dc mX5_startOfOrder 128 (.iload_n 1) 1 := by decide +kernel
theorem dX5_startOfOrder_129 : dc mX5_startOfOrder 129 (.ifCond .ne 8) 3 := by decide +kernel
theorem dX5_startOfOrder_132 : dc mX5_startOfOrder 132 (.bipush 8) 2 := by decide +kernel
theorem dX5_startOfOrder_134 : dc mX5_startOfOrder 134 (.goto 5) 3 := by decide +kernel
theorem dX5_startOfOrder_137 : dc mX5_startOfOrder 137 (.bipush 9) 2 := by decide +kernel
theorem dX5_startOfOrder_139 : dc mX5_startOfOrder 139 .ireturn 1 := by decide +kernel
theorem dX5_endOfOrder_0 : dc mX5_endOfOrder 0 (.iload_n 0) 1 := by decide +kernel
theorem dX5_endOfOrder_1 : dc mX5_endOfOrder 1 (.iload_n 1) 1 := by decide +kernel
theorem dX5_endOfOrder_2 : dc mX5_endOfOrder 2 (.if_icmp .lt 12) 3 := by decide +kernel
theorem dX5_endOfOrder_5 : dc mX5_endOfOrder 5 (.iload_n 0) 1 := by decide +kernel
theorem dX5_endOfOrder_6 : dc mX5_endOfOrder 6 (.iload_n 2) 1 := by decide +kernel
theorem dX5_endOfOrder_7 : dc mX5_endOfOrder 7 (.if_icmp .gt 7) 3 := by decide +kernel
theorem dX5_endOfOrder_10 : dc mX5_endOfOrder 10 (.iconst 1) 1 := by decide +kernel
theorem dX5_endOfOrder_11 : dc mX5_endOfOrder 11 (.goto 5) 3 := by decide +kernel
theorem dX5_endOfOrder_14 : dc mX5_endOfOrder 14 (.bipush 9) 2 := by decide +kernel
theorem dX5_endOfOrder_16 : dc mX5_endOfOrder 16 .ireturn 1 := by decide +kernel
theorem dX5_hasMotifFrom_0 : dc mX5_hasMotifFrom 0 (.iconst 0) 1 := by decide +kernel
theorem dX5_hasMotifFrom_1 : dc mX5_hasMotifFrom 1 (.istore_n 2) 1 := by decide +kernel
theorem dX5_hasMotifFrom_2 : dc mX5_hasMotifFrom 2 (.iload_n 2) 1 := by decide +kernel
theorem dX5_hasMotifFrom_3 : dc mX5_hasMotifFrom 3 (.aload_n 0) 1 := by decide +kernel
theorem dX5_hasMotifFrom_4 : dc mX5_hasMotifFrom 4 (.getfield 15) 3 := by decide +kernel
theorem dX5_hasMotifFrom_7 : dc mX5_hasMotifFrom 7 (.if_icmp .ge 39) 3 := by decide +kernel
theorem dX5_hasMotifFrom_10 : dc mX5_hasMotifFrom 10 (.iload_n 2) 1 := by decide +kernel
theorem dX5_hasMotifFrom_11 : dc mX5_hasMotifFrom 11 (.bipush 120) 2 := by decide +kernel
theorem dX5_hasMotifFrom_13 : dc mX5_hasMotifFrom 13 (.if_icmp .ge 33) 3 := by decide +kernel
theorem dX5_hasMotifFrom_16 : dc mX5_hasMotifFrom 16 (.aload_n 0) 1 := by decide +kernel
theorem dX5_hasMotifFrom_17 : dc mX5_hasMotifFrom 17 (.getfield 9) 3 := by decide +kernel
theorem dX5_hasMotifFrom_20 : dc mX5_hasMotifFrom 20 (.iload_n 2) 1 := by decide +kernel
theorem dX5_hasMotifFrom_21 : dc mX5_hasMotifFrom 21 .caload 1 := by decide +kernel
theorem dX5_hasMotifFrom_22 : dc mX5_hasMotifFrom 22 (.bipush 109) 2 := by decide +kernel
theorem dX5_hasMotifFrom_24 : dc mX5_hasMotifFrom 24 (.if_icmp .ne 16) 3 := by decide +kernel
theorem dX5_hasMotifFrom_27 : dc mX5_hasMotifFrom 27 (.aload_n 0) 1 := by decide +kernel
theorem dX5_hasMotifFrom_28 : dc mX5_hasMotifFrom 28 (.iload_n 2) 1 := by decide +kernel
theorem dX5_hasMotifFrom_29 : dc mX5_hasMotifFrom 29 (.iconst 1) 1 := by decide +kernel
theorem dX5_hasMotifFrom_30 : dc mX5_hasMotifFrom 30 .iadd 1 := by decide +kernel
theorem dX5_hasMotifFrom_31 : dc mX5_hasMotifFrom 31 (.invokevirtual 41) 3 := by decide +kernel
theorem dX5_hasMotifFrom_34 : dc mX5_hasMotifFrom 34 (.iload_n 1) 1 := by decide +kernel
theorem dX5_hasMotifFrom_35 : dc mX5_hasMotifFrom 35 (.if_icmp .lt 5) 3 := by decide +kernel
theorem dX5_hasMotifFrom_38 : dc mX5_hasMotifFrom 38 (.iconst 1) 1 := by decide +kernel
theorem dX5_hasMotifFrom_39 : dc mX5_hasMotifFrom 39 .ireturn 1 := by decide +kernel
theorem dX5_hasMotifFrom_40 : dc mX5_hasMotifFrom 40 (.iinc 2 1) 3 := by decide +kernel
theorem dX5_hasMotifFrom_43 : dc mX5_hasMotifFrom 43 (.goto (-41)) 3 := by decide +kernel
theorem dX5_hasMotifFrom_46 : dc mX5_hasMotifFrom 46 (.iconst 0) 1 := by decide +kernel
theorem dX5_hasMotifFrom_47 : dc mX5_hasMotifFrom 47 .ireturn 1 := by decide +kernel
theorem dX6_init_0 : dc mX6_init 0 (.aload_n 0) 1 := by decide +kernel
theorem dX6_init_1 : dc mX6_init 1 (.invokespecial 3) 3 := by decide +kernel
theorem dX6_init_4 : dc mX6_init 4 (.aload_n 0) 1 := by decide +kernel
theorem dX6_init_5 : dc mX6_init 5 (.iconst 5) 1 := by decide +kernel
theorem dX6_init_6 : dc mX6_init 6 (.newarray .int) 2 := by decide +kernel
theorem dX6_init_8 : dc mX6_init 8 (.putfield 9) 3 := by decide +kernel
theorem dX6_init_11 : dc mX6_init 11 (.aload_n 0) 1 := by decide +kernel
theorem dX6_init_12 : dc mX6_init 12 (.iconst 5) 1 := by decide +kernel
theorem dX6_init_13 : dc mX6_init 13 (.newarray .int) 2 := by decide +kernel
theorem dX6_init_15 : dc mX6_init 15 (.putfield 15) 3 := by decide +kernel
theorem dX6_init_18 : dc mX6_init 18 (.aload_n 0) 1 := by decide +kernel
theorem dX6_init_19 : dc mX6_init 19 (.iconst 5) 1 := by decide +kernel
theorem dX6_init_20 : dc mX6_init 20 (.newarray .int) 2 := by decide +kernel
theorem dX6_init_22 : dc mX6_init 22 (.putfield 18) 3 := by decide +kernel
theorem dX6_init_25 : dc mX6_init 25 (.aload_n 0) 1 := by decide +kernel
theorem dX6_init_26 : dc mX6_init 26 (.iconst 5) 1 := by decide +kernel
theorem dX6_init_27 : dc mX6_init 27 (.newarray .int) 2 := by decide +kernel
theorem dX6_init_29 : dc mX6_init 29 (.putfield 21) 3 := by decide +kernel
theorem dX6_init_32 : dc mX6_init 32 (.aload_n 0) 1 := by decide +kernel
theorem dX6_init_33 : dc mX6_init 33 (.iconst 5) 1 := by decide +kernel
theorem dX6_init_34 : dc mX6_init 34 (.newarray .int) 2 := by decide +kernel
theorem dX6_init_36 : dc mX6_init 36 (.putfield 24) 3 := by decide +kernel
theorem dX6_init_39 : dc mX6_init 39 (.iconst 0) 1 := by decide +kernel
theorem dX6_init_40 : dc mX6_init 40 (.istore_n 1) 1 := by decide +kernel
theorem dX6_init_41 : dc mX6_init 41 (.iload_n 1) 1 := by decide +kernel
theorem dX6_init_42 : dc mX6_init 42 (.iconst 5) 1 := by decide +kernel
theorem dX6_init_43 : dc mX6_init 43 (.if_icmp .ge 27) 3 := by decide +kernel
theorem dX6_init_46 : dc mX6_init 46 (.aload_n 0) 1 := by decide +kernel
theorem dX6_init_47 : dc mX6_init 47 (.getfield 9) 3 := by decide +kernel
theorem dX6_init_50 : dc mX6_init 50 (.iload_n 1) 1 := by decide +kernel
theorem dX6_init_51 : dc mX6_init 51 (.sipush 8000) 3 := by decide +kernel
theorem dX6_init_54 : dc mX6_init 54 .iastore 1 := by decide +kernel
theorem dX6_init_55 : dc mX6_init 55 (.aload_n 0) 1 := by decide +kernel
theorem dX6_init_56 : dc mX6_init 56 (.getfield 15) 3 := by decide +kernel
theorem dX6_init_59 : dc mX6_init 59 (.iload_n 1) 1 := by decide +kernel
theorem dX6_init_60 : dc mX6_init 60 (.sipush 8000) 3 := by decide +kernel
theorem dX6_init_63 : dc mX6_init 63 .iastore 1 := by decide +kernel
theorem dX6_init_64 : dc mX6_init 64 (.iinc 1 1) 3 := by decide +kernel
theorem dX6_init_67 : dc mX6_init 67 (.goto (-26)) 3 := by decide +kernel
theorem dX6_init_70 : dc mX6_init 70 .return_ 1 := by decide +kernel
theorem dX6_copyFrom_0 : dc mX6_copyFrom 0 (.aload_n 1) 1 := by decide +kernel
theorem dX6_copyFrom_1 : dc mX6_copyFrom 1 (.getfield 9) 3 := by decide +kernel
theorem dX6_copyFrom_4 : dc mX6_copyFrom 4 (.iconst 0) 1 := by decide +kernel
theorem dX6_copyFrom_5 : dc mX6_copyFrom 5 (.aload_n 0) 1 := by decide +kernel
theorem dX6_copyFrom_6 : dc mX6_copyFrom 6 (.getfield 9) 3 := by decide +kernel
theorem dX6_copyFrom_9 : dc mX6_copyFrom 9 (.iconst 0) 1 := by decide +kernel
theorem dX6_copyFrom_10 : dc mX6_copyFrom 10 (.iconst 5) 1 := by decide +kernel
theorem dX6_copyFrom_11 : dc mX6_copyFrom 11 (.invokestatic 27) 3 := by decide +kernel
theorem dX6_copyFrom_14 : dc mX6_copyFrom 14 (.aload_n 1) 1 := by decide +kernel
theorem dX6_copyFrom_15 : dc mX6_copyFrom 15 (.getfield 15) 3 := by decide +kernel
theorem dX6_copyFrom_18 : dc mX6_copyFrom 18 (.iconst 0) 1 := by decide +kernel
theorem dX6_copyFrom_19 : dc mX6_copyFrom 19 (.aload_n 0) 1 := by decide +kernel
theorem dX6_copyFrom_20 : dc mX6_copyFrom 20 (.getfield 15) 3 := by decide +kernel
theorem dX6_copyFrom_23 : dc mX6_copyFrom 23 (.iconst 0) 1 := by decide +kernel
theorem dX6_copyFrom_24 : dc mX6_copyFrom 24 (.iconst 5) 1 := by decide +kernel
theorem dX6_copyFrom_25 : dc mX6_copyFrom 25 (.invokestatic 27) 3 := by decide +kernel
theorem dX6_copyFrom_28 : dc mX6_copyFrom 28 (.aload_n 1) 1 := by decide +kernel
theorem dX6_copyFrom_29 : dc mX6_copyFrom 29 (.getfield 18) 3 := by decide +kernel
theorem dX6_copyFrom_32 : dc mX6_copyFrom 32 (.iconst 0) 1 := by decide +kernel
theorem dX6_copyFrom_33 : dc mX6_copyFrom 33 (.aload_n 0) 1 := by decide +kernel
theorem dX6_copyFrom_34 : dc mX6_copyFrom 34 (.getfield 18) 3 := by decide +kernel
theorem dX6_copyFrom_37 : dc mX6_copyFrom 37 (.iconst 0) 1 := by decide +kernel
theorem dX6_copyFrom_38 : dc mX6_copyFrom 38 (.iconst 5) 1 := by decide +kernel
theorem dX6_copyFrom_39 : dc mX6_copyFrom 39 (.invokestatic 27) 3 := by decide +kernel
theorem dX6_copyFrom_42 : dc mX6_copyFrom 42 (.aload_n 1) 1 := by decide +kernel
theorem dX6_copyFrom_43 : dc mX6_copyFrom 43 (.getfield 21) 3 := by decide +kernel
theorem dX6_copyFrom_46 : dc mX6_copyFrom 46 (.iconst 0) 1 := by decide +kernel
theorem dX6_copyFrom_47 : dc mX6_copyFrom 47 (.aload_n 0) 1 := by decide +kernel
theorem dX6_copyFrom_48 : dc mX6_copyFrom 48 (.getfield 21) 3 := by decide +kernel
theorem dX6_copyFrom_51 : dc mX6_copyFrom 51 (.iconst 0) 1 := by decide +kernel
theorem dX6_copyFrom_52 : dc mX6_copyFrom 52 (.iconst 5) 1 := by decide +kernel
theorem dX6_copyFrom_53 : dc mX6_copyFrom 53 (.invokestatic 27) 3 := by decide +kernel
theorem dX6_copyFrom_56 : dc mX6_copyFrom 56 (.aload_n 1) 1 := by decide +kernel
theorem dX6_copyFrom_57 : dc mX6_copyFrom 57 (.getfield 24) 3 := by decide +kernel
theorem dX6_copyFrom_60 : dc mX6_copyFrom 60 (.iconst 0) 1 := by decide +kernel
theorem dX6_copyFrom_61 : dc mX6_copyFrom 61 (.aload_n 0) 1 := by decide +kernel
theorem dX6_copyFrom_62 : dc mX6_copyFrom 62 (.getfield 24) 3 := by decide +kernel
theorem dX6_copyFrom_65 : dc mX6_copyFrom 65 (.iconst 0) 1 := by decide +kernel
theorem dX6_copyFrom_66 : dc mX6_copyFrom 66 (.iconst 5) 1 := by decide +kernel
theorem dX6_copyFrom_67 : dc mX6_copyFrom 67 (.invokestatic 27) 3 := by decide +kernel
theorem dX6_copyFrom_70 : dc mX6_copyFrom 70 .return_ 1 := by decide +kernel
theorem dX6_onCone_0 : dc mX6_onCone 0 (.iload_n 1) 1 := by decide +kernel
theorem dX6_onCone_1 : dc mX6_onCone 1 (.ifCond .lt 17) 3 := by decide +kernel
theorem dX6_onCone_4 : dc mX6_onCone 4 (.iload_n 1) 1 := by decide +kernel
theorem dX6_onCone_5 : dc mX6_onCone 5 (.iconst 5) 1 := by decide +kernel
theorem dX6_onCone_6 : dc mX6_onCone 6 (.if_icmp .ge 12) 3 := by decide +kernel
theorem dX6_onCone_9 : dc mX6_onCone 9 (.aload_n 0) 1 := by decide +kernel
theorem dX6_onCone_10 : dc mX6_onCone 10 (.getfield 9) 3 := by decide +kernel
theorem dX6_onCone_13 : dc mX6_onCone 13 (.iload_n 1) 1 := by decide +kernel
theorem dX6_onCone_14 : dc mX6_onCone 14 .iaload 1 := by decide +kernel
theorem dX6_onCone_15 : dc mX6_onCone 15 (.goto 4) 3 := by decide +kernel
theorem dX6_onCone_18 : dc mX6_onCone 18 (.iconst 0) 1 := by decide +kernel
theorem dX6_onCone_19 : dc mX6_onCone 19 .ireturn 1 := by decide +kernel
theorem dX6_hasEnd_0 : dc mX6_hasEnd 0 (.aload_n 0) 1 := by decide +kernel
theorem dX6_hasEnd_1 : dc mX6_hasEnd 1 (.iload_n 1) 1 := by decide +kernel
theorem dX6_hasEnd_2 : dc mX6_hasEnd 2 (.invokevirtual 33) 3 := by decide +kernel
theorem dX6_hasEnd_5 : dc mX6_hasEnd 5 (.bipush 20) 2 := by decide +kernel
theorem dX6_hasEnd_7 : dc mX6_hasEnd 7 (.if_icmp .lt 7) 3 := by decide +kernel
theorem dX6_hasEnd_10 : dc mX6_hasEnd 10 (.iconst 1) 1 := by decide +kernel
theorem dX6_hasEnd_11 : dc mX6_hasEnd 11 (.goto 4) 3 := by decide +kernel
theorem dX6_hasEnd_14 : dc mX6_hasEnd 14 (.iconst 0) 1 := by decide +kernel
theorem dX6_hasEnd_15 : dc mX6_hasEnd 15 .ireturn 1 := by decide +kernel
theorem dX6_drawn_0 : dc mX6_drawn 0 (.iload_n 1) 1 := by decide +kernel
theorem dX6_drawn_1 : dc mX6_drawn 1 (.ifCond .lt 24) 3 := by decide +kernel
theorem dX6_drawn_4 : dc mX6_drawn 4 (.iload_n 1) 1 := by decide +kernel
theorem dX6_drawn_5 : dc mX6_drawn 5 (.iconst 5) 1 := by decide +kernel
theorem dX6_drawn_6 : dc mX6_drawn 6 (.if_icmp .ge 19) 3 := by decide +kernel
theorem dX6_drawn_9 : dc mX6_drawn 9 (.aload_n 0) 1 := by decide +kernel
theorem dX6_drawn_10 : dc mX6_drawn 10 (.getfield 15) 3 := by decide +kernel
theorem dX6_drawn_13 : dc mX6_drawn 13 (.iload_n 1) 1 := by decide +kernel
theorem dX6_drawn_14 : dc mX6_drawn 14 .iaload 1 := by decide +kernel
theorem dX6_drawn_15 : dc mX6_drawn 15 (.aload_n 0) 1 := by decide +kernel
theorem dX6_drawn_16 : dc mX6_drawn 16 (.getfield 9) 3 := by decide +kernel
theorem dX6_drawn_19 : dc mX6_drawn 19 (.iload_n 1) 1 := by decide +kernel
theorem dX6_drawn_20 : dc mX6_drawn 20 .iaload 1 := by decide +kernel
theorem dX6_drawn_21 : dc mX6_drawn 21 .isub 1 := by decide +kernel
theorem dX6_drawn_22 : dc mX6_drawn 22 (.goto 4) 3 := by decide +kernel
theorem dX6_drawn_25 : dc mX6_drawn 25 (.iconst 0) 1 := by decide +kernel
theorem dX6_drawn_26 : dc mX6_drawn 26 .ireturn 1 := by decide +kernel
theorem dX6_wasted_0 : dc mX6_wasted 0 (.iload_n 1) 1 := by decide +kernel
theorem dX6_wasted_1 : dc mX6_wasted 1 (.ifCond .lt 17) 3 := by decide +kernel
theorem dX6_wasted_4 : dc mX6_wasted 4 (.iload_n 1) 1 := by decide +kernel
theorem dX6_wasted_5 : dc mX6_wasted 5 (.iconst 5) 1 := by decide +kernel
theorem dX6_wasted_6 : dc mX6_wasted 6 (.if_icmp .ge 12) 3 := by decide +kernel
theorem dX6_wasted_9 : dc mX6_wasted 9 (.aload_n 0) 1 := by decide +kernel
theorem dX6_wasted_10 : dc mX6_wasted 10 (.getfield 24) 3 := by decide +kernel
theorem dX6_wasted_13 : dc mX6_wasted 13 (.iload_n 1) 1 := by decide +kernel
theorem dX6_wasted_14 : dc mX6_wasted 14 .iaload 1 := by decide +kernel
theorem dX6_wasted_15 : dc mX6_wasted 15 (.goto 4) 3 := by decide +kernel
theorem dX6_wasted_18 : dc mX6_wasted 18 (.iconst 0) 1 := by decide +kernel
theorem dX6_wasted_19 : dc mX6_wasted 19 .ireturn 1 := by decide +kernel
theorem dX6_outsideLoops_0 : dc mX6_outsideLoops 0 (.iload_n 1) 1 := by decide +kernel
theorem dX6_outsideLoops_1 : dc mX6_outsideLoops 1 (.ifCond .lt 31) 3 := by decide +kernel
theorem dX6_outsideLoops_4 : dc mX6_outsideLoops 4 (.iload_n 1) 1 := by decide +kernel
theorem dX6_outsideLoops_5 : dc mX6_outsideLoops 5 (.iconst 5) 1 := by decide +kernel
theorem dX6_outsideLoops_6 : dc mX6_outsideLoops 6 (.if_icmp .ge 26) 3 := by decide +kernel
theorem dX6_outsideLoops_9 : dc mX6_outsideLoops 9 (.aload_n 0) 1 := by decide +kernel
theorem dX6_outsideLoops_10 : dc mX6_outsideLoops 10 (.getfield 18) 3 := by decide +kernel
theorem dX6_outsideLoops_13 : dc mX6_outsideLoops 13 (.iload_n 1) 1 := by decide +kernel
theorem dX6_outsideLoops_14 : dc mX6_outsideLoops 14 .iaload 1 := by decide +kernel
theorem dX6_outsideLoops_15 : dc mX6_outsideLoops 15 (.aload_n 0) 1 := by decide +kernel
theorem dX6_outsideLoops_16 : dc mX6_outsideLoops 16 (.getfield 21) 3 := by decide +kernel
theorem dX6_outsideLoops_19 : dc mX6_outsideLoops 19 (.iload_n 1) 1 := by decide +kernel
theorem dX6_outsideLoops_20 : dc mX6_outsideLoops 20 .iaload 1 := by decide +kernel
theorem dX6_outsideLoops_21 : dc mX6_outsideLoops 21 .iadd 1 := by decide +kernel
theorem dX6_outsideLoops_22 : dc mX6_outsideLoops 22 (.aload_n 0) 1 := by decide +kernel
theorem dX6_outsideLoops_23 : dc mX6_outsideLoops 23 (.getfield 24) 3 := by decide +kernel
theorem dX6_outsideLoops_26 : dc mX6_outsideLoops 26 (.iload_n 1) 1 := by decide +kernel
theorem dX6_outsideLoops_27 : dc mX6_outsideLoops 27 .iaload 1 := by decide +kernel
theorem dX6_outsideLoops_28 : dc mX6_outsideLoops 28 .iadd 1 := by decide +kernel
theorem dX6_outsideLoops_29 : dc mX6_outsideLoops 29 (.goto 4) 3 := by decide +kernel
theorem dX6_outsideLoops_32 : dc mX6_outsideLoops 32 (.iconst 0) 1 := by decide +kernel
theorem dX6_outsideLoops_33 : dc mX6_outsideLoops 33 .ireturn 1 := by decide +kernel
theorem dX6_putOn_0 : dc mX6_putOn 0 (.iload_n 1) 1 := by decide +kernel
theorem dX6_putOn_1 : dc mX6_putOn 1 (.ifCond .lt 28) 3 := by decide +kernel
theorem dX6_putOn_4 : dc mX6_putOn 4 (.iload_n 1) 1 := by decide +kernel
theorem dX6_putOn_5 : dc mX6_putOn 5 (.iconst 5) 1 := by decide +kernel
theorem dX6_putOn_6 : dc mX6_putOn 6 (.if_icmp .ge 23) 3 := by decide +kernel
theorem dX6_putOn_9 : dc mX6_putOn 9 (.aload_n 0) 1 := by decide +kernel
theorem dX6_putOn_10 : dc mX6_putOn 10 (.getfield 9) 3 := by decide +kernel
theorem dX6_putOn_13 : dc mX6_putOn 13 (.iload_n 1) 1 := by decide +kernel
theorem dX6_putOn_14 : dc mX6_putOn 14 .dup2 1 := by decide +kernel
theorem dX6_putOn_15 : dc mX6_putOn 15 .iaload 1 := by decide +kernel
theorem dX6_putOn_16 : dc mX6_putOn 16 (.iload_n 2) 1 := by decide +kernel
theorem dX6_putOn_17 : dc mX6_putOn 17 .iadd 1 := by decide +kernel
theorem dX6_putOn_18 : dc mX6_putOn 18 .iastore 1 := by decide +kernel
theorem dX6_putOn_19 : dc mX6_putOn 19 (.aload_n 0) 1 := by decide +kernel
theorem dX6_putOn_20 : dc mX6_putOn 20 (.getfield 15) 3 := by decide +kernel
theorem dX6_putOn_23 : dc mX6_putOn 23 (.iload_n 1) 1 := by decide +kernel
theorem dX6_putOn_24 : dc mX6_putOn 24 .dup2 1 := by decide +kernel
theorem dX6_putOn_25 : dc mX6_putOn 25 .iaload 1 := by decide +kernel
theorem dX6_putOn_26 : dc mX6_putOn 26 (.iload_n 2) 1 := by decide +kernel
theorem dX6_putOn_27 : dc mX6_putOn 27 .iadd 1 := by decide +kernel
theorem dX6_putOn_28 : dc mX6_putOn 28 .iastore 1 := by decide +kernel
theorem dX6_putOn_29 : dc mX6_putOn 29 .return_ 1 := by decide +kernel
theorem dX6_draw_0 : dc mX6_draw 0 (.iload_n 1) 1 := by decide +kernel
theorem dX6_draw_1 : dc mX6_draw 1 (.ifCond .lt 8) 3 := by decide +kernel
theorem dX6_draw_4 : dc mX6_draw 4 (.iload_n 1) 1 := by decide +kernel
theorem dX6_draw_5 : dc mX6_draw 5 (.iconst 5) 1 := by decide +kernel
theorem dX6_draw_6 : dc mX6_draw 6 (.if_icmp .lt 5) 3 := by decide +kernel
theorem dX6_draw_9 : dc mX6_draw 9 (.iconst 0) 1 := by decide +kernel
theorem dX6_draw_10 : dc mX6_draw 10 .ireturn 1 := by decide +kernel
theorem dX6_draw_11 : dc mX6_draw 11 (.aload_n 0) 1 := by decide +kernel
theorem dX6_draw_12 : dc mX6_draw 12 (.getfield 9) 3 := by decide +kernel
theorem dX6_draw_15 : dc mX6_draw 15 (.iload_n 1) 1 := by decide +kernel
theorem dX6_draw_16 : dc mX6_draw 16 .iaload 1 := by decide +kernel
theorem dX6_draw_17 : dc mX6_draw 17 (.iload_n 2) 1 := by decide +kernel
theorem dX6_draw_18 : dc mX6_draw 18 (.if_icmp .ge 12) 3 := by decide +kernel
theorem dX6_draw_21 : dc mX6_draw 21 (.aload_n 0) 1 := by decide +kernel
theorem dX6_draw_22 : dc mX6_draw 22 (.getfield 9) 3 := by decide +kernel
theorem dX6_draw_25 : dc mX6_draw 25 (.iload_n 1) 1 := by decide +kernel
theorem dX6_draw_26 : dc mX6_draw 26 .iaload 1 := by decide +kernel
theorem dX6_draw_27 : dc mX6_draw 27 (.goto 4) 3 := by decide +kernel
theorem dX6_draw_30 : dc mX6_draw 30 (.iload_n 2) 1 := by decide +kernel
theorem dX6_draw_31 : dc mX6_draw 31 (.istore_n 3) 1 := by decide +kernel
theorem dX6_draw_32 : dc mX6_draw 32 (.aload_n 0) 1 := by decide +kernel
theorem dX6_draw_33 : dc mX6_draw 33 (.getfield 9) 3 := by decide +kernel
theorem dX6_draw_36 : dc mX6_draw 36 (.iload_n 1) 1 := by decide +kernel
theorem dX6_draw_37 : dc mX6_draw 37 .dup2 1 := by decide +kernel
theorem dX6_draw_38 : dc mX6_draw 38 .iaload 1 := by decide +kernel
theorem dX6_draw_39 : dc mX6_draw 39 (.iload_n 3) 1 := by decide +kernel
theorem dX6_draw_40 : dc mX6_draw 40 .isub 1 := by decide +kernel
theorem dX6_draw_41 : dc mX6_draw 41 .iastore 1 := by decide +kernel
theorem dX6_draw_42 : dc mX6_draw 42 (.iload_n 3) 1 := by decide +kernel
theorem dX6_draw_43 : dc mX6_draw 43 .ireturn 1 := by decide +kernel
theorem dX6_drawFloat_0 : dc mX6_drawFloat 0 (.aload_n 0) 1 := by decide +kernel
theorem dX6_drawFloat_1 : dc mX6_drawFloat 1 (.iload_n 1) 1 := by decide +kernel
theorem dX6_drawFloat_2 : dc mX6_drawFloat 2 (.iload_n 2) 1 := by decide +kernel
theorem dX6_drawFloat_3 : dc mX6_drawFloat 3 (.invokevirtual 37) 3 := by decide +kernel
theorem dX6_drawFloat_6 : dc mX6_drawFloat 6 (.istore_n 3) 1 := by decide +kernel
theorem dX6_drawFloat_7 : dc mX6_drawFloat 7 (.iload_n 1) 1 := by decide +kernel
theorem dX6_drawFloat_8 : dc mX6_drawFloat 8 (.ifCond .lt 18) 3 := by decide +kernel
theorem dX6_drawFloat_11 : dc mX6_drawFloat 11 (.iload_n 1) 1 := by decide +kernel
theorem dX6_drawFloat_12 : dc mX6_drawFloat 12 (.iconst 5) 1 := by decide +kernel
theorem dX6_drawFloat_13 : dc mX6_drawFloat 13 (.if_icmp .ge 13) 3 := by decide +kernel
theorem dX6_drawFloat_16 : dc mX6_drawFloat 16 (.aload_n 0) 1 := by decide +kernel
theorem dX6_drawFloat_17 : dc mX6_drawFloat 17 (.getfield 18) 3 := by decide +kernel
theorem dX6_drawFloat_20 : dc mX6_drawFloat 20 (.iload_n 1) 1 := by decide +kernel
theorem dX6_drawFloat_21 : dc mX6_drawFloat 21 .dup2 1 := by decide +kernel
theorem dX6_drawFloat_22 : dc mX6_drawFloat 22 .iaload 1 := by decide +kernel
theorem dX6_drawFloat_23 : dc mX6_drawFloat 23 (.iload_n 3) 1 := by decide +kernel
theorem dX6_drawFloat_24 : dc mX6_drawFloat 24 .iadd 1 := by decide +kernel
theorem dX6_drawFloat_25 : dc mX6_drawFloat 25 .iastore 1 := by decide +kernel
theorem dX6_drawFloat_26 : dc mX6_drawFloat 26 .return_ 1 := by decide +kernel
theorem dX6_drawEnd_0 : dc mX6_drawEnd 0 (.aload_n 0) 1 := by decide +kernel
theorem dX6_drawEnd_1 : dc mX6_drawEnd 1 (.iload_n 1) 1 := by decide +kernel
theorem dX6_drawEnd_2 : dc mX6_drawEnd 2 (.bipush 20) 2 := by decide +kernel
theorem dX6_drawEnd_4 : dc mX6_drawEnd 4 (.invokevirtual 37) 3 := by decide +kernel
theorem dX6_drawEnd_7 : dc mX6_drawEnd 7 (.istore_n 2) 1 := by decide +kernel
theorem dX6_drawEnd_8 : dc mX6_drawEnd 8 (.iload_n 1) 1 := by decide +kernel
theorem dX6_drawEnd_9 : dc mX6_drawEnd 9 (.ifCond .lt 18) 3 := by decide +kernel
theorem dX6_drawEnd_12 : dc mX6_drawEnd 12 (.iload_n 1) 1 := by decide +kernel
theorem dX6_drawEnd_13 : dc mX6_drawEnd 13 (.iconst 5) 1 := by decide +kernel
theorem dX6_drawEnd_14 : dc mX6_drawEnd 14 (.if_icmp .ge 13) 3 := by decide +kernel
theorem dX6_drawEnd_17 : dc mX6_drawEnd 17 (.aload_n 0) 1 := by decide +kernel
theorem dX6_drawEnd_18 : dc mX6_drawEnd 18 (.getfield 21) 3 := by decide +kernel
theorem dX6_drawEnd_21 : dc mX6_drawEnd 21 (.iload_n 1) 1 := by decide +kernel
theorem dX6_drawEnd_22 : dc mX6_drawEnd 22 .dup2 1 := by decide +kernel
theorem dX6_drawEnd_23 : dc mX6_drawEnd 23 .iaload 1 := by decide +kernel
theorem dX6_drawEnd_24 : dc mX6_drawEnd 24 (.iload_n 2) 1 := by decide +kernel
theorem dX6_drawEnd_25 : dc mX6_drawEnd 25 .iadd 1 := by decide +kernel
theorem dX6_drawEnd_26 : dc mX6_drawEnd 26 .iastore 1 := by decide +kernel
theorem dX6_drawEnd_27 : dc mX6_drawEnd 27 .return_ 1 := by decide +kernel
theorem dX6_addWaste_0 : dc mX6_addWaste 0 (.iload_n 1) 1 := by decide +kernel
theorem dX6_addWaste_1 : dc mX6_addWaste 1 (.ifCond .lt 18) 3 := by decide +kernel
theorem dX6_addWaste_4 : dc mX6_addWaste 4 (.iload_n 1) 1 := by decide +kernel
theorem dX6_addWaste_5 : dc mX6_addWaste 5 (.iconst 5) 1 := by decide +kernel
theorem dX6_addWaste_6 : dc mX6_addWaste 6 (.if_icmp .ge 13) 3 := by decide +kernel
theorem dX6_addWaste_9 : dc mX6_addWaste 9 (.aload_n 0) 1 := by decide +kernel
theorem dX6_addWaste_10 : dc mX6_addWaste 10 (.getfield 24) 3 := by decide +kernel
theorem dX6_addWaste_13 : dc mX6_addWaste 13 (.iload_n 1) 1 := by decide +kernel
theorem dX6_addWaste_14 : dc mX6_addWaste 14 .dup2 1 := by decide +kernel
theorem dX6_addWaste_15 : dc mX6_addWaste 15 .iaload 1 := by decide +kernel
theorem dX6_addWaste_16 : dc mX6_addWaste 16 (.iload_n 2) 1 := by decide +kernel
theorem dX6_addWaste_17 : dc mX6_addWaste 17 .iadd 1 := by decide +kernel
theorem dX6_addWaste_18 : dc mX6_addWaste 18 .iastore 1 := by decide +kernel
theorem dX6_addWaste_19 : dc mX6_addWaste 19 .return_ 1 := by decide +kernel
theorem dX7_init_0 : dc mX7_init 0 (.aload_n 0) 1 := by decide +kernel
theorem dX7_init_1 : dc mX7_init 1 (.invokespecial 3) 3 := by decide +kernel
theorem dX7_init_4 : dc mX7_init 4 (.aload_n 0) 1 := by decide +kernel
theorem dX7_init_5 : dc mX7_init 5 (.new 9) 3 := by decide +kernel
theorem dX7_init_8 : dc mX7_init 8 .dup 1 := by decide +kernel
theorem dX7_init_9 : dc mX7_init 9 (.invokespecial 11) 3 := by decide +kernel
theorem dX7_init_12 : dc mX7_init 12 (.putfield 12) 3 := by decide +kernel
theorem dX7_init_15 : dc mX7_init 15 (.aload_n 0) 1 := by decide +kernel
theorem dX7_init_16 : dc mX7_init 16 (.new 9) 3 := by decide +kernel
theorem dX7_init_19 : dc mX7_init 19 .dup 1 := by decide +kernel
theorem dX7_init_20 : dc mX7_init 20 (.invokespecial 11) 3 := by decide +kernel
theorem dX7_init_23 : dc mX7_init 23 (.putfield 16) 3 := by decide +kernel
theorem dX7_init_26 : dc mX7_init 26 (.aload_n 0) 1 := by decide +kernel
theorem dX7_init_27 : dc mX7_init 27 (.iconst 2) 1 := by decide +kernel
theorem dX7_init_28 : dc mX7_init 28 (.anewarray 9) 3 := by decide +kernel
theorem dX7_init_31 : dc mX7_init 31 (.putfield 19) 3 := by decide +kernel
theorem dX7_init_34 : dc mX7_init 34 (.aload_n 0) 1 := by decide +kernel
theorem dX7_init_35 : dc mX7_init 35 (.new 23) 3 := by decide +kernel
theorem dX7_init_38 : dc mX7_init 38 .dup 1 := by decide +kernel
theorem dX7_init_39 : dc mX7_init 39 (.invokespecial 25) 3 := by decide +kernel
theorem dX7_init_42 : dc mX7_init 42 (.putfield 26) 3 := by decide +kernel
theorem dX7_init_45 : dc mX7_init 45 (.aload_n 0) 1 := by decide +kernel
theorem dX7_init_46 : dc mX7_init 46 (.new 30) 3 := by decide +kernel
theorem dX7_init_49 : dc mX7_init 49 .dup 1 := by decide +kernel
theorem dX7_init_50 : dc mX7_init 50 (.invokespecial 32) 3 := by decide +kernel
theorem dX7_init_53 : dc mX7_init 53 (.putfield 33) 3 := by decide +kernel
theorem dX7_init_56 : dc mX7_init 56 (.aload_n 0) 1 := by decide +kernel
theorem dX7_init_57 : dc mX7_init 57 (.new 37) 3 := by decide +kernel
theorem dX7_init_60 : dc mX7_init 60 .dup 1 := by decide +kernel
theorem dX7_init_61 : dc mX7_init 61 (.invokespecial 39) 3 := by decide +kernel
theorem dX7_init_64 : dc mX7_init 64 (.putfield 40) 3 := by decide +kernel
theorem dX7_init_67 : dc mX7_init 67 (.aload_n 0) 1 := by decide +kernel
theorem dX7_init_68 : dc mX7_init 68 (.new 44) 3 := by decide +kernel
theorem dX7_init_71 : dc mX7_init 71 .dup 1 := by decide +kernel
theorem dX7_init_72 : dc mX7_init 72 (.invokespecial 46) 3 := by decide +kernel
theorem dX7_init_75 : dc mX7_init 75 (.putfield 47) 3 := by decide +kernel
theorem dX7_init_78 : dc mX7_init 78 .return_ 1 := by decide +kernel
theorem dX7_append_0 : dc mX7_append 0 (.iload_n 1) 1 := by decide +kernel
theorem dX7_append_1 : dc mX7_append 1 (.iconst 0) 1 := by decide +kernel
theorem dX7_append_2 : dc mX7_append 2 (.sipush 255) 3 := by decide +kernel
theorem dX7_append_5 : dc mX7_append 5 (.invokestatic 51) 3 := by decide +kernel
theorem dX7_append_8 : dc mX7_append 8 (.aload_n 0) 1 := by decide +kernel
theorem dX7_append_9 : dc mX7_append 9 (.getfield 33) 3 := by decide +kernel
theorem dX7_append_12 : dc mX7_append 12 (.getfield 55) 3 := by decide +kernel
theorem dX7_append_15 : dc mX7_append 15 (.bipush 120) 2 := by decide +kernel
theorem dX7_append_17 : dc mX7_append 17 (.if_icmp .lt 13) 3 := by decide +kernel
theorem dX7_append_20 : dc mX7_append 20 (.new 59) 3 := by decide +kernel
theorem dX7_append_23 : dc mX7_append 23 .dup 1 := by decide +kernel
theorem dX7_append_24 : dc mX7_append 24 (.ldc 61) 2 := by decide +kernel
theorem dX7_append_26 : dc mX7_append 26 (.invokespecial 63) 3 := by decide +kernel
theorem dX7_append_29 : dc mX7_append 29 .athrow 1 := by decide +kernel
theorem dX7_append_30 : dc mX7_append 30 (.aload_n 0) 1 := by decide +kernel
theorem dX7_append_31 : dc mX7_append 31 (.getfield 33) 3 := by decide +kernel
theorem dX7_append_34 : dc mX7_append 34 (.iload_n 1) 1 := by decide +kernel
theorem dX7_append_35 : dc mX7_append 35 .i2c 1 := by decide +kernel
theorem dX7_append_36 : dc mX7_append 36 (.invokevirtual 66) 3 := by decide +kernel
theorem dX7_append_39 : dc mX7_append 39 (.aload_n 0) 1 := by decide +kernel
theorem dX7_append_40 : dc mX7_append 40 (.getfield 33) 3 := by decide +kernel
theorem dX7_append_43 : dc mX7_append 43 (.getfield 55) 3 := by decide +kernel
theorem dX7_append_46 : dc mX7_append 46 .ireturn 1 := by decide +kernel
theorem dX7_clearText_0 : dc mX7_clearText 0 (.aload_n 0) 1 := by decide +kernel
theorem dX7_clearText_1 : dc mX7_clearText 1 (.getfield 33) 3 := by decide +kernel
theorem dX7_clearText_4 : dc mX7_clearText 4 (.getfield 55) 3 := by decide +kernel
theorem dX7_clearText_7 : dc mX7_clearText 7 (.istore_n 1) 1 := by decide +kernel
theorem dX7_clearText_8 : dc mX7_clearText 8 (.aload_n 0) 1 := by decide +kernel
theorem dX7_clearText_9 : dc mX7_clearText 9 (.getfield 33) 3 := by decide +kernel
theorem dX7_clearText_12 : dc mX7_clearText 12 (.iconst 0) 1 := by decide +kernel
theorem dX7_clearText_13 : dc mX7_clearText 13 (.putfield 55) 3 := by decide +kernel
theorem dX7_clearText_16 : dc mX7_clearText 16 (.iload_n 1) 1 := by decide +kernel
theorem dX7_clearText_17 : dc mX7_clearText 17 .ireturn 1 := by decide +kernel
theorem dX7_errorPosition_0 : dc mX7_errorPosition 0 (.aload_n 0) 1 := by decide +kernel
theorem dX7_errorPosition_1 : dc mX7_errorPosition 1 (.getfield 33) 3 := by decide +kernel
theorem dX7_errorPosition_4 : dc mX7_errorPosition 4 (.invokevirtual 70) 3 := by decide +kernel
theorem dX7_errorPosition_7 : dc mX7_errorPosition 7 .ireturn 1 := by decide +kernel
theorem dX7_planOf_0 : dc mX7_planOf 0 (.iload_n 1) 1 := by decide +kernel
theorem dX7_planOf_1 : dc mX7_planOf 1 (.invokestatic 74) 3 := by decide +kernel
theorem dX7_planOf_4 : dc mX7_planOf 4 (.aload_n 0) 1 := by decide +kernel
theorem dX7_planOf_5 : dc mX7_planOf 5 (.getfield 12) 3 := by decide +kernel
theorem dX7_planOf_8 : dc mX7_planOf 8 (.getfield 78) 3 := by decide +kernel
theorem dX7_planOf_11 : dc mX7_planOf 11 (.iload_n 1) 1 := by decide +kernel
theorem dX7_planOf_12 : dc mX7_planOf 12 (.invokevirtual 82) 3 := by decide +kernel
theorem dX7_planOf_15 : dc mX7_planOf 15 .ireturn 1 := by decide +kernel
theorem dX7_loopOf_0 : dc mX7_loopOf 0 (.iload_n 1) 1 := by decide +kernel
theorem dX7_loopOf_1 : dc mX7_loopOf 1 (.invokestatic 74) 3 := by decide +kernel
theorem dX7_loopOf_4 : dc mX7_loopOf 4 (.aload_n 0) 1 := by decide +kernel
theorem dX7_loopOf_5 : dc mX7_loopOf 5 (.getfield 12) 3 := by decide +kernel
theorem dX7_loopOf_8 : dc mX7_loopOf 8 (.getfield 78) 3 := by decide +kernel
theorem dX7_loopOf_11 : dc mX7_loopOf 11 (.iload_n 1) 1 := by decide +kernel
theorem dX7_loopOf_12 : dc mX7_loopOf 12 (.invokevirtual 88) 3 := by decide +kernel
theorem dX7_loopOf_15 : dc mX7_loopOf 15 .ireturn 1 := by decide +kernel
theorem dX7_heightOf_0 : dc mX7_heightOf 0 (.iload_n 1) 1 := by decide +kernel
theorem dX7_heightOf_1 : dc mX7_heightOf 1 (.invokestatic 74) 3 := by decide +kernel
theorem dX7_heightOf_4 : dc mX7_heightOf 4 (.aload_n 0) 1 := by decide +kernel
theorem dX7_heightOf_5 : dc mX7_heightOf 5 (.getfield 12) 3 := by decide +kernel
theorem dX7_heightOf_8 : dc mX7_heightOf 8 (.getfield 78) 3 := by decide +kernel
theorem dX7_heightOf_11 : dc mX7_heightOf 11 (.iload_n 1) 1 := by decide +kernel
theorem dX7_heightOf_12 : dc mX7_heightOf 12 (.invokevirtual 91) 3 := by decide +kernel
theorem dX7_heightOf_15 : dc mX7_heightOf 15 .ireturn 1 := by decide +kernel
theorem dX7_isSkipped_0 : dc mX7_isSkipped 0 (.iload_n 1) 1 := by decide +kernel
theorem dX7_isSkipped_1 : dc mX7_isSkipped 1 (.invokestatic 74) 3 := by decide +kernel
theorem dX7_isSkipped_4 : dc mX7_isSkipped 4 (.aload_n 0) 1 := by decide +kernel
theorem dX7_isSkipped_5 : dc mX7_isSkipped 5 (.getfield 12) 3 := by decide +kernel
theorem dX7_isSkipped_8 : dc mX7_isSkipped 8 (.getfield 78) 3 := by decide +kernel
theorem dX7_isSkipped_11 : dc mX7_isSkipped 11 (.iload_n 1) 1 := by decide +kernel
theorem dX7_isSkipped_12 : dc mX7_isSkipped 12 (.invokevirtual 94) 3 := by decide +kernel
theorem dX7_isSkipped_15 : dc mX7_isSkipped 15 .ireturn 1 := by decide +kernel
theorem dX7_right_0 : dc mX7_right 0 (.aload_n 0) 1 := by decide +kernel
theorem dX7_right_1 : dc mX7_right 1 (.getfield 12) 3 := by decide +kernel
theorem dX7_right_4 : dc mX7_right 4 (.getfield 78) 3 := by decide +kernel
theorem dX7_right_7 : dc mX7_right 7 (.invokevirtual 98) 3 := by decide +kernel
theorem dX7_right_10 : dc mX7_right 10 .ireturn 1 := by decide +kernel
theorem dX7_missing_0 : dc mX7_missing 0 (.aload_n 0) 1 := by decide +kernel
theorem dX7_missing_1 : dc mX7_missing 1 (.getfield 12) 3 := by decide +kernel
theorem dX7_missing_4 : dc mX7_missing 4 (.getfield 78) 3 := by decide +kernel
theorem dX7_missing_7 : dc mX7_missing 7 (.invokevirtual 101) 3 := by decide +kernel
theorem dX7_missing_10 : dc mX7_missing 10 .ireturn 1 := by decide +kernel
theorem dX7_wrong_0 : dc mX7_wrong 0 (.aload_n 0) 1 := by decide +kernel
theorem dX7_wrong_1 : dc mX7_wrong 1 (.getfield 12) 3 := by decide +kernel
theorem dX7_wrong_4 : dc mX7_wrong 4 (.getfield 78) 3 := by decide +kernel
theorem dX7_wrong_7 : dc mX7_wrong 7 (.invokevirtual 104) 3 := by decide +kernel
theorem dX7_wrong_10 : dc mX7_wrong 10 (.aload_n 0) 1 := by decide +kernel
theorem dX7_wrong_11 : dc mX7_wrong 11 (.getfield 12) 3 := by decide +kernel
theorem dX7_wrong_14 : dc mX7_wrong 14 (.getfield 78) 3 := by decide +kernel
theorem dX7_wrong_17 : dc mX7_wrong 17 (.invokevirtual 98) 3 := by decide +kernel
theorem dX7_wrong_20 : dc mX7_wrong 20 .isub 1 := by decide +kernel
theorem dX7_wrong_21 : dc mX7_wrong 21 .ireturn 1 := by decide +kernel
theorem dX7_skipped_0 : dc mX7_skipped 0 (.aload_n 0) 1 := by decide +kernel
theorem dX7_skipped_1 : dc mX7_skipped 1 (.getfield 12) 3 := by decide +kernel
theorem dX7_skipped_4 : dc mX7_skipped 4 (.getfield 78) 3 := by decide +kernel
theorem dX7_skipped_7 : dc mX7_skipped 7 (.invokevirtual 107) 3 := by decide +kernel
theorem dX7_skipped_10 : dc mX7_skipped 10 .ireturn 1 := by decide +kernel
theorem dX7_areasBySpreading_0 : dc mX7_areasBySpreading 0 (.iload_n 1) 1 := by decide +kernel
theorem dX7_areasBySpreading_1 : dc mX7_areasBySpreading 1 (.invokestatic 110) 3 := by decide +kernel
theorem dX7_areasBySpreading_4 : dc mX7_areasBySpreading 4 (.aload_n 0) 1 := by decide +kernel
theorem dX7_areasBySpreading_5 : dc mX7_areasBySpreading 5 (.getfield 47) 3 := by decide +kernel
theorem dX7_areasBySpreading_8 : dc mX7_areasBySpreading 8 (.aload_n 0) 1 := by decide +kernel
theorem dX7_areasBySpreading_9 : dc mX7_areasBySpreading 9 (.getfield 12) 3 := by decide +kernel
theorem dX7_areasBySpreading_12 : dc mX7_areasBySpreading 12 (.getfield 78) 3 := by decide +kernel
theorem dX7_areasBySpreading_15 : dc mX7_areasBySpreading 15 (.iload_n 1) 1 := by decide +kernel
theorem dX7_areasBySpreading_16 : dc mX7_areasBySpreading 16 (.invokevirtual 113) 3 := by decide +kernel
theorem dX7_areasBySpreading_19 : dc mX7_areasBySpreading 19 .ireturn 1 := by decide +kernel
theorem dX7_areasByJoining_0 : dc mX7_areasByJoining 0 (.iload_n 1) 1 := by decide +kernel
theorem dX7_areasByJoining_1 : dc mX7_areasByJoining 1 (.invokestatic 110) 3 := by decide +kernel
theorem dX7_areasByJoining_4 : dc mX7_areasByJoining 4 (.aload_n 0) 1 := by decide +kernel
theorem dX7_areasByJoining_5 : dc mX7_areasByJoining 5 (.getfield 47) 3 := by decide +kernel
theorem dX7_areasByJoining_8 : dc mX7_areasByJoining 8 (.aload_n 0) 1 := by decide +kernel
theorem dX7_areasByJoining_9 : dc mX7_areasByJoining 9 (.getfield 12) 3 := by decide +kernel
theorem dX7_areasByJoining_12 : dc mX7_areasByJoining 12 (.getfield 78) 3 := by decide +kernel
theorem dX7_areasByJoining_15 : dc mX7_areasByJoining 15 (.iload_n 1) 1 := by decide +kernel
theorem dX7_areasByJoining_16 : dc mX7_areasByJoining 16 (.invokevirtual 117) 3 := by decide +kernel
theorem dX7_areasByJoining_19 : dc mX7_areasByJoining 19 .ireturn 1 := by decide +kernel
theorem dX7_density_0 : dc mX7_density 0 (.aload_n 0) 1 := by decide +kernel
theorem dX7_density_1 : dc mX7_density 1 (.getfield 12) 3 := by decide +kernel
theorem dX7_density_4 : dc mX7_density 4 (.getfield 78) 3 := by decide +kernel
theorem dX7_density_7 : dc mX7_density 7 (.invokevirtual 104) 3 := by decide +kernel
theorem dX7_density_10 : dc mX7_density 10 .i2f 1 := by decide +kernel
theorem dX7_density_11 : dc mX7_density 11 (.ldc 120) 2 := by decide +kernel
theorem dX7_density_13 : dc mX7_density 13 .fdiv 1 := by decide +kernel
theorem dX7_density_14 : dc mX7_density 14 .freturn 1 := by decide +kernel
theorem dX7_meanHeight_0 : dc mX7_meanHeight 0 (.aload_n 0) 1 := by decide +kernel
theorem dX7_meanHeight_1 : dc mX7_meanHeight 1 (.getfield 12) 3 := by decide +kernel
theorem dX7_meanHeight_4 : dc mX7_meanHeight 4 (.getfield 78) 3 := by decide +kernel
theorem dX7_meanHeight_7 : dc mX7_meanHeight 7 (.invokevirtual 104) 3 := by decide +kernel
theorem dX7_meanHeight_10 : dc mX7_meanHeight 10 (.istore_n 1) 1 := by decide +kernel
theorem dX7_meanHeight_11 : dc mX7_meanHeight 11 (.iload_n 1) 1 := by decide +kernel
theorem dX7_meanHeight_12 : dc mX7_meanHeight 12 (.ifCond .ne 7) 3 := by decide +kernel
theorem dX7_meanHeight_15 : dc mX7_meanHeight 15 (.dconst 0) 1 := by decide +kernel
theorem dX7_meanHeight_16 : dc mX7_meanHeight 16 (.goto 17) 3 := by decide +kernel
theorem dX7_meanHeight_19 : dc mX7_meanHeight 19 (.aload_n 0) 1 := by decide +kernel
theorem dX7_meanHeight_20 : dc mX7_meanHeight 20 (.getfield 12) 3 := by decide +kernel
theorem dX7_meanHeight_23 : dc mX7_meanHeight 23 (.getfield 78) 3 := by decide +kernel
theorem dX7_meanHeight_26 : dc mX7_meanHeight 26 (.invokevirtual 121) 3 := by decide +kernel
theorem dX7_meanHeight_29 : dc mX7_meanHeight 29 .i2d 1 := by decide +kernel
theorem dX7_meanHeight_30 : dc mX7_meanHeight 30 (.iload_n 1) 1 := by decide +kernel
theorem dX7_meanHeight_31 : dc mX7_meanHeight 31 .i2d 1 := by decide +kernel
theorem dX7_meanHeight_32 : dc mX7_meanHeight 32 .ddiv 1 := by decide +kernel
theorem dX7_meanHeight_33 : dc mX7_meanHeight 33 .dreturn 1 := by decide +kernel
theorem dX7_needle_0 : dc mX7_needle 0 (.aload_n 0) 1 := by decide +kernel
theorem dX7_needle_1 : dc mX7_needle 1 (.getfield 12) 3 := by decide +kernel
theorem dX7_needle_4 : dc mX7_needle 4 (.getfield 124) 3 := by decide +kernel
theorem dX7_needle_7 : dc mX7_needle 7 .ireturn 1 := by decide +kernel
theorem dX7_heading_0 : dc mX7_heading 0 (.aload_n 0) 1 := by decide +kernel
theorem dX7_heading_1 : dc mX7_heading 1 (.getfield 12) 3 := by decide +kernel
theorem dX7_heading_4 : dc mX7_heading 4 (.getfield 127) 3 := by decide +kernel
theorem dX7_heading_7 : dc mX7_heading 7 .ireturn 1 := by decide +kernel
theorem dX7_threaded_0 : dc mX7_threaded 0 (.aload_n 0) 1 := by decide +kernel
theorem dX7_threaded_1 : dc mX7_threaded 1 (.getfield 12) 3 := by decide +kernel
theorem dX7_threaded_4 : dc mX7_threaded 4 (.getfield 130) 3 := by decide +kernel
theorem dX7_threaded_7 : dc mX7_threaded 7 .ireturn 1 := by decide +kernel
theorem dX7_height_0 : dc mX7_height 0 (.aload_n 0) 1 := by decide +kernel
theorem dX7_height_1 : dc mX7_height 1 (.getfield 12) 3 := by decide +kernel
theorem dX7_height_4 : dc mX7_height 4 (.getfield 133) 3 := by decide +kernel
theorem dX7_height_7 : dc mX7_height 7 .ireturn 1 := by decide +kernel
theorem dX7_tension_0 : dc mX7_tension 0 (.aload_n 0) 1 := by decide +kernel
theorem dX7_tension_1 : dc mX7_tension 1 (.getfield 12) 3 := by decide +kernel
theorem dX7_tension_4 : dc mX7_tension 4 (.getfield 136) 3 := by decide +kernel
theorem dX7_tension_7 : dc mX7_tension 7 .ireturn 1 := by decide +kernel
theorem dX7_canGo_0 : dc mX7_canGo 0 (.aload_n 0) 1 := by decide +kernel
theorem dX7_canGo_1 : dc mX7_canGo 1 (.getfield 12) 3 := by decide +kernel
theorem dX7_canGo_4 : dc mX7_canGo 4 (.getfield 124) 3 := by decide +kernel
theorem dX7_canGo_7 : dc mX7_canGo 7 (.aload_n 0) 1 := by decide +kernel
theorem dX7_canGo_8 : dc mX7_canGo 8 (.getfield 12) 3 := by decide +kernel
theorem dX7_canGo_11 : dc mX7_canGo 11 (.getfield 127) 3 := by decide +kernel
theorem dX7_canGo_14 : dc mX7_canGo 14 (.invokestatic 139) 3 := by decide +kernel
theorem dX7_canGo_17 : dc mX7_canGo 17 (.iconst (-1)) 1 := by decide +kernel
theorem dX7_canGo_18 : dc mX7_canGo 18 (.if_icmp .eq 7) 3 := by decide +kernel
theorem dX7_canGo_21 : dc mX7_canGo 21 (.iconst 1) 1 := by decide +kernel
theorem dX7_canGo_22 : dc mX7_canGo 22 (.goto 4) 3 := by decide +kernel
theorem dX7_canGo_25 : dc mX7_canGo 25 (.iconst 0) 1 := by decide +kernel
theorem dX7_canGo_26 : dc mX7_canGo 26 .ireturn 1 := by decide +kernel
theorem dX7_wouldSkip_0 : dc mX7_wouldSkip 0 (.aload_n 0) 1 := by decide +kernel
theorem dX7_wouldSkip_1 : dc mX7_wouldSkip 1 (.getfield 12) 3 := by decide +kernel
theorem dX7_wouldSkip_4 : dc mX7_wouldSkip 4 (.invokevirtual 143) 3 := by decide +kernel
theorem dX7_wouldSkip_7 : dc mX7_wouldSkip 7 .ireturn 1 := by decide +kernel
theorem dX7_coneOf_0 : dc mX7_coneOf 0 (.iload_n 1) 1 := by decide +kernel
theorem dX7_coneOf_1 : dc mX7_coneOf 1 (.invokestatic 110) 3 := by decide +kernel
theorem dX7_coneOf_4 : dc mX7_coneOf 4 (.aload_n 0) 1 := by decide +kernel
theorem dX7_coneOf_5 : dc mX7_coneOf 5 (.getfield 12) 3 := by decide +kernel
theorem dX7_coneOf_8 : dc mX7_coneOf 8 (.getfield 147) 3 := by decide +kernel
theorem dX7_coneOf_11 : dc mX7_coneOf 11 (.iload_n 1) 1 := by decide +kernel
theorem dX7_coneOf_12 : dc mX7_coneOf 12 (.invokevirtual 151) 3 := by decide +kernel
theorem dX7_coneOf_15 : dc mX7_coneOf 15 .ireturn 1 := by decide +kernel
theorem dX7_drawnByCone_0 : dc mX7_drawnByCone 0 (.iload_n 1) 1 := by decide +kernel
theorem dX7_drawnByCone_1 : dc mX7_drawnByCone 1 (.invokestatic 110) 3 := by decide +kernel
theorem dX7_drawnByCone_4 : dc mX7_drawnByCone 4 (.aload_n 0) 1 := by decide +kernel
theorem dX7_drawnByCone_5 : dc mX7_drawnByCone 5 (.getfield 12) 3 := by decide +kernel
theorem dX7_drawnByCone_8 : dc mX7_drawnByCone 8 (.getfield 147) 3 := by decide +kernel
theorem dX7_drawnByCone_11 : dc mX7_drawnByCone 11 (.iload_n 1) 1 := by decide +kernel
theorem dX7_drawnByCone_12 : dc mX7_drawnByCone 12 (.invokevirtual 156) 3 := by decide +kernel
theorem dX7_drawnByCone_15 : dc mX7_drawnByCone 15 .ireturn 1 := by decide +kernel
theorem dX7_drawnByRug_0 : dc mX7_drawnByRug 0 (.iload_n 1) 1 := by decide +kernel
theorem dX7_drawnByRug_1 : dc mX7_drawnByRug 1 (.invokestatic 110) 3 := by decide +kernel
theorem dX7_drawnByRug_4 : dc mX7_drawnByRug 4 (.aload_n 0) 1 := by decide +kernel
theorem dX7_drawnByRug_5 : dc mX7_drawnByRug 5 (.getfield 12) 3 := by decide +kernel
theorem dX7_drawnByRug_8 : dc mX7_drawnByRug 8 (.getfield 78) 3 := by decide +kernel
theorem dX7_drawnByRug_11 : dc mX7_drawnByRug 11 (.iload_n 1) 1 := by decide +kernel
theorem dX7_drawnByRug_12 : dc mX7_drawnByRug 12 (.invokevirtual 159) 3 := by decide +kernel
theorem dX7_drawnByRug_15 : dc mX7_drawnByRug 15 (.aload_n 0) 1 := by decide +kernel
theorem dX7_drawnByRug_16 : dc mX7_drawnByRug 16 (.getfield 12) 3 := by decide +kernel
theorem dX7_drawnByRug_19 : dc mX7_drawnByRug 19 (.getfield 147) 3 := by decide +kernel
theorem dX7_drawnByRug_22 : dc mX7_drawnByRug 22 (.iload_n 1) 1 := by decide +kernel
theorem dX7_drawnByRug_23 : dc mX7_drawnByRug 23 (.invokevirtual 162) 3 := by decide +kernel
theorem dX7_drawnByRug_26 : dc mX7_drawnByRug 26 .iadd 1 := by decide +kernel
theorem dX7_drawnByRug_27 : dc mX7_drawnByRug 27 .ireturn 1 := by decide +kernel
theorem dX7_wasteOf_0 : dc mX7_wasteOf 0 (.iload_n 1) 1 := by decide +kernel
theorem dX7_wasteOf_1 : dc mX7_wasteOf 1 (.invokestatic 110) 3 := by decide +kernel
theorem dX7_wasteOf_4 : dc mX7_wasteOf 4 (.aload_n 0) 1 := by decide +kernel
theorem dX7_wasteOf_5 : dc mX7_wasteOf 5 (.getfield 12) 3 := by decide +kernel
theorem dX7_wasteOf_8 : dc mX7_wasteOf 8 (.getfield 147) 3 := by decide +kernel
theorem dX7_wasteOf_11 : dc mX7_wasteOf 11 (.iload_n 1) 1 := by decide +kernel
theorem dX7_wasteOf_12 : dc mX7_wasteOf 12 (.invokevirtual 165) 3 := by decide +kernel
theorem dX7_wasteOf_15 : dc mX7_wasteOf 15 .ireturn 1 := by decide +kernel
theorem dX7_neededFor_0 : dc mX7_neededFor 0 (.iload_n 1) 1 := by decide +kernel
theorem dX7_neededFor_1 : dc mX7_neededFor 1 (.invokestatic 110) 3 := by decide +kernel
theorem dX7_neededFor_4 : dc mX7_neededFor 4 (.aload_n 0) 1 := by decide +kernel
theorem dX7_neededFor_5 : dc mX7_neededFor 5 (.getfield 12) 3 := by decide +kernel
theorem dX7_neededFor_8 : dc mX7_neededFor 8 (.getfield 78) 3 := by decide +kernel
theorem dX7_neededFor_11 : dc mX7_neededFor 11 (.iload_n 1) 1 := by decide +kernel
theorem dX7_neededFor_12 : dc mX7_neededFor 12 (.invokevirtual 168) 3 := by decide +kernel
theorem dX7_neededFor_15 : dc mX7_neededFor 15 (.aload_n 0) 1 := by decide +kernel
theorem dX7_neededFor_16 : dc mX7_neededFor 16 (.getfield 12) 3 := by decide +kernel
theorem dX7_neededFor_19 : dc mX7_neededFor 19 (.getfield 133) 3 := by decide +kernel
theorem dX7_neededFor_22 : dc mX7_neededFor 22 (.invokestatic 171) 3 := by decide +kernel
theorem dX7_neededFor_25 : dc mX7_neededFor 25 .imul 1 := by decide +kernel
theorem dX7_neededFor_26 : dc mX7_neededFor 26 .ireturn 1 := by decide +kernel
theorem dX7_untilKnot_0 : dc mX7_untilKnot 0 (.iload_n 1) 1 := by decide +kernel
theorem dX7_untilKnot_1 : dc mX7_untilKnot 1 (.invokestatic 110) 3 := by decide +kernel
theorem dX7_untilKnot_4 : dc mX7_untilKnot 4 (.sipush 1000) 3 := by decide +kernel
theorem dX7_untilKnot_7 : dc mX7_untilKnot 7 (.aload_n 0) 1 := by decide +kernel
theorem dX7_untilKnot_8 : dc mX7_untilKnot 8 (.getfield 12) 3 := by decide +kernel
theorem dX7_untilKnot_11 : dc mX7_untilKnot 11 (.getfield 147) 3 := by decide +kernel
theorem dX7_untilKnot_14 : dc mX7_untilKnot 14 (.iload_n 1) 1 := by decide +kernel
theorem dX7_untilKnot_15 : dc mX7_untilKnot 15 (.invokevirtual 156) 3 := by decide +kernel
theorem dX7_untilKnot_18 : dc mX7_untilKnot 18 (.sipush 1000) 3 := by decide +kernel
theorem dX7_untilKnot_21 : dc mX7_untilKnot 21 .irem 1 := by decide +kernel
theorem dX7_untilKnot_22 : dc mX7_untilKnot 22 .isub 1 := by decide +kernel
theorem dX7_untilKnot_23 : dc mX7_untilKnot 23 .ireturn 1 := by decide +kernel
theorem dX7_knots_0 : dc mX7_knots 0 (.aload_n 0) 1 := by decide +kernel
theorem dX7_knots_1 : dc mX7_knots 1 (.getfield 12) 3 := by decide +kernel
theorem dX7_knots_4 : dc mX7_knots 4 (.getfield 174) 3 := by decide +kernel
theorem dX7_knots_7 : dc mX7_knots 7 .ireturn 1 := by decide +kernel
theorem dX7_motifLength_0 : dc mX7_motifLength 0 (.iload_n 1) 1 := by decide +kernel
theorem dX7_motifLength_1 : dc mX7_motifLength 1 (.invokestatic 177) 3 := by decide +kernel
theorem dX7_motifLength_4 : dc mX7_motifLength 4 (.aload_n 0) 1 := by decide +kernel
theorem dX7_motifLength_5 : dc mX7_motifLength 5 (.getfield 12) 3 := by decide +kernel
theorem dX7_motifLength_8 : dc mX7_motifLength 8 (.iload_n 1) 1 := by decide +kernel
theorem dX7_motifLength_9 : dc mX7_motifLength 9 (.invokevirtual 180) 3 := by decide +kernel
theorem dX7_motifLength_12 : dc mX7_motifLength 12 (.astore_n 2) 1 := by decide +kernel
theorem dX7_motifLength_13 : dc mX7_motifLength 13 (.aload_n 2) 1 := by decide +kernel
theorem dX7_motifLength_14 : dc mX7_motifLength 14 (.ifnonnull 7) 3 := by decide +kernel
theorem dX7_motifLength_17 : dc mX7_motifLength 17 (.iconst 0) 1 := by decide +kernel
theorem dX7_motifLength_18 : dc mX7_motifLength 18 (.goto 7) 3 := by decide +kernel
theorem dX7_motifLength_21 : dc mX7_motifLength 21 (.aload_n 2) 1 := by decide +kernel
theorem dX7_motifLength_22 : dc mX7_motifLength 22 (.getfield 55) 3 := by decide +kernel
theorem dX7_motifLength_25 : dc mX7_motifLength 25 .ireturn 1 := by decide +kernel
theorem dX7_motifSign_0 : dc mX7_motifSign 0 (.iload_n 1) 1 := by decide +kernel
theorem dX7_motifSign_1 : dc mX7_motifSign 1 (.invokestatic 177) 3 := by decide +kernel
theorem dX7_motifSign_4 : dc mX7_motifSign 4 (.aload_n 0) 1 := by decide +kernel
theorem dX7_motifSign_5 : dc mX7_motifSign 5 (.getfield 12) 3 := by decide +kernel
theorem dX7_motifSign_8 : dc mX7_motifSign 8 (.iload_n 1) 1 := by decide +kernel
theorem dX7_motifSign_9 : dc mX7_motifSign 9 (.invokevirtual 180) 3 := by decide +kernel
theorem dX7_motifSign_12 : dc mX7_motifSign 12 (.astore_n 3) 1 := by decide +kernel
theorem dX7_motifSign_13 : dc mX7_motifSign 13 (.aload_n 3) 1 := by decide +kernel
theorem dX7_motifSign_14 : dc mX7_motifSign 14 (.ifnull 15) 3 := by decide +kernel
theorem dX7_motifSign_17 : dc mX7_motifSign 17 (.iload_n 2) 1 := by decide +kernel
theorem dX7_motifSign_18 : dc mX7_motifSign 18 (.ifCond .lt 11) 3 := by decide +kernel
theorem dX7_motifSign_21 : dc mX7_motifSign 21 (.iload_n 2) 1 := by decide +kernel
theorem dX7_motifSign_22 : dc mX7_motifSign 22 (.aload_n 3) 1 := by decide +kernel
theorem dX7_motifSign_23 : dc mX7_motifSign 23 (.getfield 55) 3 := by decide +kernel
theorem dX7_motifSign_26 : dc mX7_motifSign 26 (.if_icmp .lt 13) 3 := by decide +kernel
theorem dX7_motifSign_29 : dc mX7_motifSign 29 (.new 184) 3 := by decide +kernel
theorem dX7_motifSign_32 : dc mX7_motifSign 32 .dup 1 := by decide +kernel
theorem dX7_motifSign_33 : dc mX7_motifSign 33 (.ldc 186) 2 := by decide +kernel
theorem dX7_motifSign_35 : dc mX7_motifSign 35 (.invokespecial 188) 3 := by decide +kernel
theorem dX7_motifSign_38 : dc mX7_motifSign 38 .athrow 1 := by decide +kernel
theorem dX7_motifSign_39 : dc mX7_motifSign 39 (.aload_n 3) 1 := by decide +kernel
theorem dX7_motifSign_40 : dc mX7_motifSign 40 (.iload_n 2) 1 := by decide +kernel
theorem dX7_motifSign_41 : dc mX7_motifSign 41 (.invokevirtual 189) 3 := by decide +kernel
theorem dX7_motifSign_44 : dc mX7_motifSign 44 .ireturn 1 := by decide +kernel
theorem dX7_setPlan_0 : dc mX7_setPlan 0 (.iload_n 1) 1 := by decide +kernel
theorem dX7_setPlan_1 : dc mX7_setPlan 1 (.invokestatic 74) 3 := by decide +kernel
theorem dX7_setPlan_4 : dc mX7_setPlan 4 (.iload_n 2) 1 := by decide +kernel
theorem dX7_setPlan_5 : dc mX7_setPlan 5 (.iconst (-1)) 1 := by decide +kernel
theorem dX7_setPlan_6 : dc mX7_setPlan 6 (.iconst 4) 1 := by decide +kernel
theorem dX7_setPlan_7 : dc mX7_setPlan 7 (.invokestatic 51) 3 := by decide +kernel
theorem dX7_setPlan_10 : dc mX7_setPlan 10 (.aload_n 0) 1 := by decide +kernel
theorem dX7_setPlan_11 : dc mX7_setPlan 11 (.getfield 26) 3 := by decide +kernel
theorem dX7_setPlan_14 : dc mX7_setPlan 14 (.aload_n 0) 1 := by decide +kernel
theorem dX7_setPlan_15 : dc mX7_setPlan 15 (.getfield 12) 3 := by decide +kernel
theorem dX7_setPlan_18 : dc mX7_setPlan 18 (.invokevirtual 193) 3 := by decide +kernel
theorem dX7_setPlan_21 : dc mX7_setPlan 21 (.aload_n 0) 1 := by decide +kernel
theorem dX7_setPlan_22 : dc mX7_setPlan 22 (.getfield 12) 3 := by decide +kernel
theorem dX7_setPlan_25 : dc mX7_setPlan 25 (.getfield 78) 3 := by decide +kernel
theorem dX7_setPlan_28 : dc mX7_setPlan 28 (.iload_n 1) 1 := by decide +kernel
theorem dX7_setPlan_29 : dc mX7_setPlan 29 (.invokevirtual 82) 3 := by decide +kernel
theorem dX7_setPlan_32 : dc mX7_setPlan 32 (.istore_n 3) 1 := by decide +kernel
theorem dX7_setPlan_33 : dc mX7_setPlan 33 (.aload_n 0) 1 := by decide +kernel
theorem dX7_setPlan_34 : dc mX7_setPlan 34 (.getfield 12) 3 := by decide +kernel
theorem dX7_setPlan_37 : dc mX7_setPlan 37 (.getfield 78) 3 := by decide +kernel
theorem dX7_setPlan_40 : dc mX7_setPlan 40 (.iload_n 1) 1 := by decide +kernel
theorem dX7_setPlan_41 : dc mX7_setPlan 41 (.iload_n 2) 1 := by decide +kernel
theorem dX7_setPlan_42 : dc mX7_setPlan 42 (.invokevirtual 197) 3 := by decide +kernel
theorem dX7_setPlan_45 : dc mX7_setPlan 45 (.iload_n 3) 1 := by decide +kernel
theorem dX7_setPlan_46 : dc mX7_setPlan 46 .ireturn 1 := by decide +kernel
theorem dX7_fillPlan_0 : dc mX7_fillPlan 0 (.iload_n 1) 1 := by decide +kernel
theorem dX7_fillPlan_1 : dc mX7_fillPlan 1 (.invokestatic 74) 3 := by decide +kernel
theorem dX7_fillPlan_4 : dc mX7_fillPlan 4 (.iload_n 2) 1 := by decide +kernel
theorem dX7_fillPlan_5 : dc mX7_fillPlan 5 (.invokestatic 74) 3 := by decide +kernel
theorem dX7_fillPlan_8 : dc mX7_fillPlan 8 (.iload_n 3) 1 := by decide +kernel
theorem dX7_fillPlan_9 : dc mX7_fillPlan 9 (.iconst (-1)) 1 := by decide +kernel
theorem dX7_fillPlan_10 : dc mX7_fillPlan 10 (.iconst 4) 1 := by decide +kernel
theorem dX7_fillPlan_11 : dc mX7_fillPlan 11 (.invokestatic 51) 3 := by decide +kernel
theorem dX7_fillPlan_14 : dc mX7_fillPlan 14 (.aload_n 0) 1 := by decide +kernel
theorem dX7_fillPlan_15 : dc mX7_fillPlan 15 (.getfield 26) 3 := by decide +kernel
theorem dX7_fillPlan_18 : dc mX7_fillPlan 18 (.aload_n 0) 1 := by decide +kernel
theorem dX7_fillPlan_19 : dc mX7_fillPlan 19 (.getfield 12) 3 := by decide +kernel
theorem dX7_fillPlan_22 : dc mX7_fillPlan 22 (.invokevirtual 193) 3 := by decide +kernel
theorem dX7_fillPlan_25 : dc mX7_fillPlan 25 (.aload_n 0) 1 := by decide +kernel
theorem dX7_fillPlan_26 : dc mX7_fillPlan 26 (.getfield 12) 3 := by decide +kernel
theorem dX7_fillPlan_29 : dc mX7_fillPlan 29 (.getfield 78) 3 := by decide +kernel
theorem dX7_fillPlan_32 : dc mX7_fillPlan 32 (.iload_n 1) 1 := by decide +kernel
theorem dX7_fillPlan_33 : dc mX7_fillPlan 33 (.iload_n 2) 1 := by decide +kernel
theorem dX7_fillPlan_34 : dc mX7_fillPlan 34 (.iload_n 3) 1 := by decide +kernel
theorem dX7_fillPlan_35 : dc mX7_fillPlan 35 (.invokevirtual 201) 3 := by decide +kernel
theorem dX7_fillPlan_38 : dc mX7_fillPlan 38 .ireturn 1 := by decide +kernel
theorem dX7_thread_0 : dc mX7_thread 0 (.iload_n 1) 1 := by decide +kernel
theorem dX7_thread_1 : dc mX7_thread 1 (.invokestatic 110) 3 := by decide +kernel
theorem dX7_thread_4 : dc mX7_thread 4 (.aload_n 0) 1 := by decide +kernel
theorem dX7_thread_5 : dc mX7_thread 5 (.getfield 12) 3 := by decide +kernel
theorem dX7_thread_8 : dc mX7_thread 8 (.getfield 147) 3 := by decide +kernel
theorem dX7_thread_11 : dc mX7_thread 11 (.iload_n 1) 1 := by decide +kernel
theorem dX7_thread_12 : dc mX7_thread 12 (.invokevirtual 205) 3 := by decide +kernel
theorem dX7_thread_15 : dc mX7_thread 15 (.ifCond .ne 13) 3 := by decide +kernel
theorem dX7_thread_18 : dc mX7_thread 18 (.new 59) 3 := by decide +kernel
theorem dX7_thread_21 : dc mX7_thread 21 .dup 1 := by decide +kernel
theorem dX7_thread_22 : dc mX7_thread 22 (.ldc 208) 2 := by decide +kernel
theorem dX7_thread_24 : dc mX7_thread 24 (.invokespecial 63) 3 := by decide +kernel
theorem dX7_thread_27 : dc mX7_thread 27 .athrow 1 := by decide +kernel
theorem dX7_thread_28 : dc mX7_thread 28 (.aload_n 0) 1 := by decide +kernel
theorem dX7_thread_29 : dc mX7_thread 29 (.getfield 26) 3 := by decide +kernel
theorem dX7_thread_32 : dc mX7_thread 32 (.aload_n 0) 1 := by decide +kernel
theorem dX7_thread_33 : dc mX7_thread 33 (.getfield 12) 3 := by decide +kernel
theorem dX7_thread_36 : dc mX7_thread 36 (.invokevirtual 193) 3 := by decide +kernel
theorem dX7_thread_39 : dc mX7_thread 39 (.aload_n 0) 1 := by decide +kernel
theorem dX7_thread_40 : dc mX7_thread 40 (.getfield 12) 3 := by decide +kernel
theorem dX7_thread_43 : dc mX7_thread 43 (.iload_n 1) 1 := by decide +kernel
theorem dX7_thread_44 : dc mX7_thread 44 (.invokevirtual 210) 3 := by decide +kernel
theorem dX7_thread_47 : dc mX7_thread 47 .pop 1 := by decide +kernel
theorem dX7_thread_48 : dc mX7_thread 48 (.aload_n 0) 1 := by decide +kernel
theorem dX7_thread_49 : dc mX7_thread 49 (.getfield 12) 3 := by decide +kernel
theorem dX7_thread_52 : dc mX7_thread 52 (.getfield 147) 3 := by decide +kernel
theorem dX7_thread_55 : dc mX7_thread 55 (.iload_n 1) 1 := by decide +kernel
theorem dX7_thread_56 : dc mX7_thread 56 (.invokevirtual 151) 3 := by decide +kernel
theorem dX7_thread_59 : dc mX7_thread 59 .ireturn 1 := by decide +kernel
theorem dX7_cut_0 : dc mX7_cut 0 (.aload_n 0) 1 := by decide +kernel
theorem dX7_cut_1 : dc mX7_cut 1 (.invokevirtual 213) 3 := by decide +kernel
theorem dX7_cut_4 : dc mX7_cut 4 (.aload_n 0) 1 := by decide +kernel
theorem dX7_cut_5 : dc mX7_cut 5 (.getfield 26) 3 := by decide +kernel
theorem dX7_cut_8 : dc mX7_cut 8 (.aload_n 0) 1 := by decide +kernel
theorem dX7_cut_9 : dc mX7_cut 9 (.getfield 12) 3 := by decide +kernel
theorem dX7_cut_12 : dc mX7_cut 12 (.invokevirtual 193) 3 := by decide +kernel
theorem dX7_cut_15 : dc mX7_cut 15 (.aload_n 0) 1 := by decide +kernel
theorem dX7_cut_16 : dc mX7_cut 16 (.getfield 12) 3 := by decide +kernel
theorem dX7_cut_19 : dc mX7_cut 19 (.getfield 130) 3 := by decide +kernel
theorem dX7_cut_22 : dc mX7_cut 22 (.istore_n 1) 1 := by decide +kernel
theorem dX7_cut_23 : dc mX7_cut 23 (.aload_n 0) 1 := by decide +kernel
theorem dX7_cut_24 : dc mX7_cut 24 (.getfield 12) 3 := by decide +kernel
theorem dX7_cut_27 : dc mX7_cut 27 (.invokevirtual 216) 3 := by decide +kernel
theorem dX7_cut_30 : dc mX7_cut 30 .pop 1 := by decide +kernel
theorem dX7_cut_31 : dc mX7_cut 31 (.iload_n 1) 1 := by decide +kernel
theorem dX7_cut_32 : dc mX7_cut 32 .ireturn 1 := by decide +kernel
theorem dX7_sew_0 : dc mX7_sew 0 (.iload_n 1) 1 := by decide +kernel
theorem dX7_sew_1 : dc mX7_sew 1 (.iconst 1) 1 := by decide +kernel
theorem dX7_sew_2 : dc mX7_sew 2 (.bipush 12) 2 := by decide +kernel
theorem dX7_sew_4 : dc mX7_sew 4 (.invokestatic 51) 3 := by decide +kernel
theorem dX7_sew_7 : dc mX7_sew 7 (.aload_n 0) 1 := by decide +kernel
theorem dX7_sew_8 : dc mX7_sew 8 (.getfield 12) 3 := by decide +kernel
theorem dX7_sew_11 : dc mX7_sew 11 (.invokevirtual 219) 3 := by decide +kernel
theorem dX7_sew_14 : dc mX7_sew 14 (.ifCond .eq 13) 3 := by decide +kernel
theorem dX7_sew_17 : dc mX7_sew 17 (.new 59) 3 := by decide +kernel
theorem dX7_sew_20 : dc mX7_sew 20 .dup 1 := by decide +kernel
theorem dX7_sew_21 : dc mX7_sew 21 (.ldc 222) 2 := by decide +kernel
theorem dX7_sew_23 : dc mX7_sew 23 (.invokespecial 63) 3 := by decide +kernel
theorem dX7_sew_26 : dc mX7_sew 26 .athrow 1 := by decide +kernel
theorem dX7_sew_27 : dc mX7_sew 27 (.aload_n 0) 1 := by decide +kernel
theorem dX7_sew_28 : dc mX7_sew 28 (.getfield 26) 3 := by decide +kernel
theorem dX7_sew_31 : dc mX7_sew 31 (.aload_n 0) 1 := by decide +kernel
theorem dX7_sew_32 : dc mX7_sew 32 (.getfield 12) 3 := by decide +kernel
theorem dX7_sew_35 : dc mX7_sew 35 (.invokevirtual 193) 3 := by decide +kernel
theorem dX7_sew_38 : dc mX7_sew 38 (.aload_n 0) 1 := by decide +kernel
theorem dX7_sew_39 : dc mX7_sew 39 (.getfield 12) 3 := by decide +kernel
theorem dX7_sew_42 : dc mX7_sew 42 (.iload_n 1) 1 := by decide +kernel
theorem dX7_sew_43 : dc mX7_sew 43 (.invokevirtual 224) 3 := by decide +kernel
theorem dX7_sew_46 : dc mX7_sew 46 .ireturn 1 := by decide +kernel
theorem dX7_jump_0 : dc mX7_jump 0 (.iload_n 1) 1 := by decide +kernel
theorem dX7_jump_1 : dc mX7_jump 1 (.iconst 1) 1 := by decide +kernel
theorem dX7_jump_2 : dc mX7_jump 2 (.bipush 12) 2 := by decide +kernel
theorem dX7_jump_4 : dc mX7_jump 4 (.invokestatic 51) 3 := by decide +kernel
theorem dX7_jump_7 : dc mX7_jump 7 (.aload_n 0) 1 := by decide +kernel
theorem dX7_jump_8 : dc mX7_jump 8 (.getfield 26) 3 := by decide +kernel
theorem dX7_jump_11 : dc mX7_jump 11 (.aload_n 0) 1 := by decide +kernel
theorem dX7_jump_12 : dc mX7_jump 12 (.getfield 12) 3 := by decide +kernel
theorem dX7_jump_15 : dc mX7_jump 15 (.invokevirtual 193) 3 := by decide +kernel
theorem dX7_jump_18 : dc mX7_jump 18 (.aload_n 0) 1 := by decide +kernel
theorem dX7_jump_19 : dc mX7_jump 19 (.getfield 12) 3 := by decide +kernel
theorem dX7_jump_22 : dc mX7_jump 22 (.iload_n 1) 1 := by decide +kernel
theorem dX7_jump_23 : dc mX7_jump 23 (.invokevirtual 227) 3 := by decide +kernel
theorem dX7_jump_26 : dc mX7_jump 26 .ireturn 1 := by decide +kernel
theorem dX7_turnLeft_0 : dc mX7_turnLeft 0 (.aload_n 0) 1 := by decide +kernel
theorem dX7_turnLeft_1 : dc mX7_turnLeft 1 (.getfield 26) 3 := by decide +kernel
theorem dX7_turnLeft_4 : dc mX7_turnLeft 4 (.aload_n 0) 1 := by decide +kernel
theorem dX7_turnLeft_5 : dc mX7_turnLeft 5 (.getfield 12) 3 := by decide +kernel
theorem dX7_turnLeft_8 : dc mX7_turnLeft 8 (.invokevirtual 193) 3 := by decide +kernel
theorem dX7_turnLeft_11 : dc mX7_turnLeft 11 (.aload_n 0) 1 := by decide +kernel
theorem dX7_turnLeft_12 : dc mX7_turnLeft 12 (.getfield 12) 3 := by decide +kernel
theorem dX7_turnLeft_15 : dc mX7_turnLeft 15 (.iconst (-1)) 1 := by decide +kernel
theorem dX7_turnLeft_16 : dc mX7_turnLeft 16 (.invokevirtual 230) 3 := by decide +kernel
theorem dX7_turnLeft_19 : dc mX7_turnLeft 19 (.aload_n 0) 1 := by decide +kernel
theorem dX7_turnLeft_20 : dc mX7_turnLeft 20 (.getfield 12) 3 := by decide +kernel
theorem dX7_turnLeft_23 : dc mX7_turnLeft 23 (.getfield 127) 3 := by decide +kernel
theorem dX7_turnLeft_26 : dc mX7_turnLeft 26 .ireturn 1 := by decide +kernel
theorem dX7_turnRight_0 : dc mX7_turnRight 0 (.aload_n 0) 1 := by decide +kernel
theorem dX7_turnRight_1 : dc mX7_turnRight 1 (.getfield 26) 3 := by decide +kernel
theorem dX7_turnRight_4 : dc mX7_turnRight 4 (.aload_n 0) 1 := by decide +kernel
theorem dX7_turnRight_5 : dc mX7_turnRight 5 (.getfield 12) 3 := by decide +kernel
theorem dX7_turnRight_8 : dc mX7_turnRight 8 (.invokevirtual 193) 3 := by decide +kernel
theorem dX7_turnRight_11 : dc mX7_turnRight 11 (.aload_n 0) 1 := by decide +kernel
theorem dX7_turnRight_12 : dc mX7_turnRight 12 (.getfield 12) 3 := by decide +kernel
theorem dX7_turnRight_15 : dc mX7_turnRight 15 (.iconst 1) 1 := by decide +kernel
theorem dX7_turnRight_16 : dc mX7_turnRight 16 (.invokevirtual 230) 3 := by decide +kernel
theorem dX7_turnRight_19 : dc mX7_turnRight 19 (.aload_n 0) 1 := by decide +kernel
theorem dX7_turnRight_20 : dc mX7_turnRight 20 (.getfield 12) 3 := by decide +kernel
theorem dX7_turnRight_23 : dc mX7_turnRight 23 (.getfield 127) 3 := by decide +kernel
theorem dX7_turnRight_26 : dc mX7_turnRight 26 .ireturn 1 := by decide +kernel
theorem dX7_ease_0 : dc mX7_ease 0 (.aload_n 0) 1 := by decide +kernel
theorem dX7_ease_1 : dc mX7_ease 1 (.invokevirtual 213) 3 := by decide +kernel
theorem dX7_ease_4 : dc mX7_ease 4 (.aload_n 0) 1 := by decide +kernel
theorem dX7_ease_5 : dc mX7_ease 5 (.getfield 26) 3 := by decide +kernel
theorem dX7_ease_8 : dc mX7_ease 8 (.aload_n 0) 1 := by decide +kernel
theorem dX7_ease_9 : dc mX7_ease 9 (.getfield 12) 3 := by decide +kernel
theorem dX7_ease_12 : dc mX7_ease 12 (.invokevirtual 193) 3 := by decide +kernel
theorem dX7_ease_15 : dc mX7_ease 15 (.aload_n 0) 1 := by decide +kernel
theorem dX7_ease_16 : dc mX7_ease 16 (.getfield 12) 3 := by decide +kernel
theorem dX7_ease_19 : dc mX7_ease 19 (.getfield 136) 3 := by decide +kernel
theorem dX7_ease_22 : dc mX7_ease 22 (.istore_n 1) 1 := by decide +kernel
theorem dX7_ease_23 : dc mX7_ease 23 (.aload_n 0) 1 := by decide +kernel
theorem dX7_ease_24 : dc mX7_ease 24 (.getfield 12) 3 := by decide +kernel
theorem dX7_ease_27 : dc mX7_ease 27 (.invokevirtual 233) 3 := by decide +kernel
theorem dX7_ease_30 : dc mX7_ease 30 .pop 1 := by decide +kernel
theorem dX7_ease_31 : dc mX7_ease 31 (.iload_n 1) 1 := by decide +kernel
theorem dX7_ease_32 : dc mX7_ease 32 .ireturn 1 := by decide +kernel
theorem dX7_setHeight_0 : dc mX7_setHeight 0 (.iload_n 1) 1 := by decide +kernel
theorem dX7_setHeight_1 : dc mX7_setHeight 1 (.iconst 1) 1 := by decide +kernel
theorem dX7_setHeight_2 : dc mX7_setHeight 2 (.bipush 9) 2 := by decide +kernel
theorem dX7_setHeight_4 : dc mX7_setHeight 4 (.invokestatic 51) 3 := by decide +kernel
theorem dX7_setHeight_7 : dc mX7_setHeight 7 (.aload_n 0) 1 := by decide +kernel
theorem dX7_setHeight_8 : dc mX7_setHeight 8 (.getfield 26) 3 := by decide +kernel
theorem dX7_setHeight_11 : dc mX7_setHeight 11 (.aload_n 0) 1 := by decide +kernel
theorem dX7_setHeight_12 : dc mX7_setHeight 12 (.getfield 12) 3 := by decide +kernel
theorem dX7_setHeight_15 : dc mX7_setHeight 15 (.invokevirtual 193) 3 := by decide +kernel
theorem dX7_setHeight_18 : dc mX7_setHeight 18 (.aload_n 0) 1 := by decide +kernel
theorem dX7_setHeight_19 : dc mX7_setHeight 19 (.getfield 12) 3 := by decide +kernel
theorem dX7_setHeight_22 : dc mX7_setHeight 22 (.getfield 133) 3 := by decide +kernel
theorem dX7_setHeight_25 : dc mX7_setHeight 25 (.istore_n 2) 1 := by decide +kernel
theorem dX7_setHeight_26 : dc mX7_setHeight 26 (.aload_n 0) 1 := by decide +kernel
theorem dX7_setHeight_27 : dc mX7_setHeight 27 (.getfield 12) 3 := by decide +kernel
theorem dX7_setHeight_30 : dc mX7_setHeight 30 (.iload_n 1) 1 := by decide +kernel
theorem dX7_setHeight_31 : dc mX7_setHeight 31 (.putfield 133) 3 := by decide +kernel
theorem dX7_setHeight_34 : dc mX7_setHeight 34 (.iload_n 2) 1 := by decide +kernel
theorem dX7_setHeight_35 : dc mX7_setHeight 35 .ireturn 1 := by decide +kernel
theorem dX7_place_0 : dc mX7_place 0 (.iload_n 1) 1 := by decide +kernel
theorem dX7_place_1 : dc mX7_place 1 (.invokestatic 74) 3 := by decide +kernel
theorem dX7_place_4 : dc mX7_place 4 (.iload_n 2) 1 := by decide +kernel
theorem dX7_place_5 : dc mX7_place 5 (.iconst 0) 1 := by decide +kernel
theorem dX7_place_6 : dc mX7_place 6 (.iconst 3) 1 := by decide +kernel
theorem dX7_place_7 : dc mX7_place 7 (.invokestatic 51) 3 := by decide +kernel
theorem dX7_place_10 : dc mX7_place 10 (.aload_n 0) 1 := by decide +kernel
theorem dX7_place_11 : dc mX7_place 11 (.getfield 12) 3 := by decide +kernel
theorem dX7_place_14 : dc mX7_place 14 (.getfield 130) 3 := by decide +kernel
theorem dX7_place_17 : dc mX7_place 17 (.iconst (-1)) 1 := by decide +kernel
theorem dX7_place_18 : dc mX7_place 18 (.if_icmp .eq 13) 3 := by decide +kernel
theorem dX7_place_21 : dc mX7_place 21 (.new 59) 3 := by decide +kernel
theorem dX7_place_24 : dc mX7_place 24 .dup 1 := by decide +kernel
theorem dX7_place_25 : dc mX7_place 25 (.ldc 236) 2 := by decide +kernel
theorem dX7_place_27 : dc mX7_place 27 (.invokespecial 63) 3 := by decide +kernel
theorem dX7_place_30 : dc mX7_place 30 .athrow 1 := by decide +kernel
theorem dX7_place_31 : dc mX7_place 31 (.aload_n 0) 1 := by decide +kernel
theorem dX7_place_32 : dc mX7_place 32 (.getfield 26) 3 := by decide +kernel
theorem dX7_place_35 : dc mX7_place 35 (.aload_n 0) 1 := by decide +kernel
theorem dX7_place_36 : dc mX7_place 36 (.getfield 12) 3 := by decide +kernel
theorem dX7_place_39 : dc mX7_place 39 (.invokevirtual 193) 3 := by decide +kernel
theorem dX7_place_42 : dc mX7_place 42 (.aload_n 0) 1 := by decide +kernel
theorem dX7_place_43 : dc mX7_place 43 (.getfield 12) 3 := by decide +kernel
theorem dX7_place_46 : dc mX7_place 46 (.getfield 124) 3 := by decide +kernel
theorem dX7_place_49 : dc mX7_place 49 (.istore_n 3) 1 := by decide +kernel
theorem dX7_place_50 : dc mX7_place 50 (.aload_n 0) 1 := by decide +kernel
theorem dX7_place_51 : dc mX7_place 51 (.getfield 12) 3 := by decide +kernel
theorem dX7_place_54 : dc mX7_place 54 (.iload_n 1) 1 := by decide +kernel
theorem dX7_place_55 : dc mX7_place 55 (.putfield 124) 3 := by decide +kernel
theorem dX7_place_58 : dc mX7_place 58 (.aload_n 0) 1 := by decide +kernel
theorem dX7_place_59 : dc mX7_place 59 (.getfield 12) 3 := by decide +kernel
theorem dX7_place_62 : dc mX7_place 62 (.iload_n 2) 1 := by decide +kernel
theorem dX7_place_63 : dc mX7_place 63 (.putfield 127) 3 := by decide +kernel
theorem dX7_place_66 : dc mX7_place 66 (.iload_n 3) 1 := by decide +kernel
theorem dX7_place_67 : dc mX7_place 67 .ireturn 1 := by decide +kernel
theorem dX7_wind_0 : dc mX7_wind 0 (.iload_n 1) 1 := by decide +kernel
theorem dX7_wind_1 : dc mX7_wind 1 (.invokestatic 110) 3 := by decide +kernel
theorem dX7_wind_4 : dc mX7_wind 4 (.iload_n 2) 1 := by decide +kernel
theorem dX7_wind_5 : dc mX7_wind 5 (.iconst 1) 1 := by decide +kernel
theorem dX7_wind_6 : dc mX7_wind 6 (.sipush 9999) 3 := by decide +kernel
theorem dX7_wind_9 : dc mX7_wind 9 (.invokestatic 51) 3 := by decide +kernel
theorem dX7_wind_12 : dc mX7_wind 12 (.aload_n 0) 1 := by decide +kernel
theorem dX7_wind_13 : dc mX7_wind 13 (.getfield 12) 3 := by decide +kernel
theorem dX7_wind_16 : dc mX7_wind 16 (.getfield 147) 3 := by decide +kernel
theorem dX7_wind_19 : dc mX7_wind 19 (.iload_n 1) 1 := by decide +kernel
theorem dX7_wind_20 : dc mX7_wind 20 (.invokevirtual 151) 3 := by decide +kernel
theorem dX7_wind_23 : dc mX7_wind 23 (.iload_n 2) 1 := by decide +kernel
theorem dX7_wind_24 : dc mX7_wind 24 .iadd 1 := by decide +kernel
theorem dX7_wind_25 : dc mX7_wind 25 (.sipush 20000) 3 := by decide +kernel
theorem dX7_wind_28 : dc mX7_wind 28 (.if_icmp .le 13) 3 := by decide +kernel
theorem dX7_wind_31 : dc mX7_wind 31 (.new 59) 3 := by decide +kernel
theorem dX7_wind_34 : dc mX7_wind 34 .dup 1 := by decide +kernel
theorem dX7_wind_35 : dc mX7_wind 35 (.ldc 238) 2 := by decide +kernel
theorem dX7_wind_37 : dc mX7_wind 37 (.invokespecial 63) 3 := by decide +kernel
theorem dX7_wind_40 : dc mX7_wind 40 .athrow 1 := by decide +kernel
theorem dX7_wind_41 : dc mX7_wind 41 (.aload_n 0) 1 := by decide +kernel
theorem dX7_wind_42 : dc mX7_wind 42 (.getfield 26) 3 := by decide +kernel
theorem dX7_wind_45 : dc mX7_wind 45 (.aload_n 0) 1 := by decide +kernel
theorem dX7_wind_46 : dc mX7_wind 46 (.getfield 12) 3 := by decide +kernel
theorem dX7_wind_49 : dc mX7_wind 49 (.invokevirtual 193) 3 := by decide +kernel
theorem dX7_wind_52 : dc mX7_wind 52 (.aload_n 0) 1 := by decide +kernel
theorem dX7_wind_53 : dc mX7_wind 53 (.getfield 12) 3 := by decide +kernel
theorem dX7_wind_56 : dc mX7_wind 56 (.getfield 147) 3 := by decide +kernel
theorem dX7_wind_59 : dc mX7_wind 59 (.iload_n 1) 1 := by decide +kernel
theorem dX7_wind_60 : dc mX7_wind 60 (.iload_n 2) 1 := by decide +kernel
theorem dX7_wind_61 : dc mX7_wind 61 (.invokevirtual 240) 3 := by decide +kernel
theorem dX7_wind_64 : dc mX7_wind 64 (.aload_n 0) 1 := by decide +kernel
theorem dX7_wind_65 : dc mX7_wind 65 (.getfield 12) 3 := by decide +kernel
theorem dX7_wind_68 : dc mX7_wind 68 (.getfield 147) 3 := by decide +kernel
theorem dX7_wind_71 : dc mX7_wind 71 (.iload_n 1) 1 := by decide +kernel
theorem dX7_wind_72 : dc mX7_wind 72 (.invokevirtual 151) 3 := by decide +kernel
theorem dX7_wind_75 : dc mX7_wind 75 .ireturn 1 := by decide +kernel
theorem dX7_mend_0 : dc mX7_mend 0 (.iload_n 1) 1 := by decide +kernel
theorem dX7_mend_1 : dc mX7_mend 1 (.invokestatic 74) 3 := by decide +kernel
theorem dX7_mend_4 : dc mX7_mend 4 (.aload_n 0) 1 := by decide +kernel
theorem dX7_mend_5 : dc mX7_mend 5 (.getfield 12) 3 := by decide +kernel
theorem dX7_mend_8 : dc mX7_mend 8 (.iload_n 1) 1 := by decide +kernel
theorem dX7_mend_9 : dc mX7_mend 9 (.invokevirtual 243) 3 := by decide +kernel
theorem dX7_mend_12 : dc mX7_mend 12 (.ifCond .eq 13) 3 := by decide +kernel
theorem dX7_mend_15 : dc mX7_mend 15 (.new 59) 3 := by decide +kernel
theorem dX7_mend_18 : dc mX7_mend 18 .dup 1 := by decide +kernel
theorem dX7_mend_19 : dc mX7_mend 19 (.ldc 246) 2 := by decide +kernel
theorem dX7_mend_21 : dc mX7_mend 21 (.invokespecial 63) 3 := by decide +kernel
theorem dX7_mend_24 : dc mX7_mend 24 .athrow 1 := by decide +kernel
theorem dX7_mend_25 : dc mX7_mend 25 (.aload_n 0) 1 := by decide +kernel
theorem dX7_mend_26 : dc mX7_mend 26 (.getfield 26) 3 := by decide +kernel
theorem dX7_mend_29 : dc mX7_mend 29 (.aload_n 0) 1 := by decide +kernel
theorem dX7_mend_30 : dc mX7_mend 30 (.getfield 12) 3 := by decide +kernel
theorem dX7_mend_33 : dc mX7_mend 33 (.invokevirtual 193) 3 := by decide +kernel
theorem dX7_mend_36 : dc mX7_mend 36 (.aload_n 0) 1 := by decide +kernel
theorem dX7_mend_37 : dc mX7_mend 37 (.getfield 12) 3 := by decide +kernel
theorem dX7_mend_40 : dc mX7_mend 40 (.iload_n 1) 1 := by decide +kernel
theorem dX7_mend_41 : dc mX7_mend 41 (.invokevirtual 248) 3 := by decide +kernel
theorem dX7_mend_44 : dc mX7_mend 44 (.aload_n 0) 1 := by decide +kernel
theorem dX7_mend_45 : dc mX7_mend 45 (.getfield 12) 3 := by decide +kernel
theorem dX7_mend_48 : dc mX7_mend 48 (.getfield 78) 3 := by decide +kernel
theorem dX7_mend_51 : dc mX7_mend 51 (.iload_n 1) 1 := by decide +kernel
theorem dX7_mend_52 : dc mX7_mend 52 (.invokevirtual 88) 3 := by decide +kernel
theorem dX7_mend_55 : dc mX7_mend 55 .ireturn 1 := by decide +kernel
theorem dX7_unpick_0 : dc mX7_unpick 0 (.iload_n 1) 1 := by decide +kernel
theorem dX7_unpick_1 : dc mX7_unpick 1 (.invokestatic 74) 3 := by decide +kernel
theorem dX7_unpick_4 : dc mX7_unpick 4 (.aload_n 0) 1 := by decide +kernel
theorem dX7_unpick_5 : dc mX7_unpick 5 (.getfield 12) 3 := by decide +kernel
theorem dX7_unpick_8 : dc mX7_unpick 8 (.getfield 78) 3 := by decide +kernel
theorem dX7_unpick_11 : dc mX7_unpick 11 (.iload_n 1) 1 := by decide +kernel
theorem dX7_unpick_12 : dc mX7_unpick 12 (.invokevirtual 88) 3 := by decide +kernel
theorem dX7_unpick_15 : dc mX7_unpick 15 (.istore_n 2) 1 := by decide +kernel
theorem dX7_unpick_16 : dc mX7_unpick 16 (.iload_n 2) 1 := by decide +kernel
theorem dX7_unpick_17 : dc mX7_unpick 17 (.iconst (-1)) 1 := by decide +kernel
theorem dX7_unpick_18 : dc mX7_unpick 18 (.if_icmp .ne 13) 3 := by decide +kernel
theorem dX7_unpick_21 : dc mX7_unpick 21 (.new 59) 3 := by decide +kernel
theorem dX7_unpick_24 : dc mX7_unpick 24 .dup 1 := by decide +kernel
theorem dX7_unpick_25 : dc mX7_unpick 25 (.ldc 251) 2 := by decide +kernel
theorem dX7_unpick_27 : dc mX7_unpick 27 (.invokespecial 63) 3 := by decide +kernel
theorem dX7_unpick_30 : dc mX7_unpick 30 .athrow 1 := by decide +kernel
theorem dX7_unpick_31 : dc mX7_unpick 31 (.aload_n 0) 1 := by decide +kernel
theorem dX7_unpick_32 : dc mX7_unpick 32 (.getfield 26) 3 := by decide +kernel
theorem dX7_unpick_35 : dc mX7_unpick 35 (.aload_n 0) 1 := by decide +kernel
theorem dX7_unpick_36 : dc mX7_unpick 36 (.getfield 12) 3 := by decide +kernel
theorem dX7_unpick_39 : dc mX7_unpick 39 (.invokevirtual 193) 3 := by decide +kernel
theorem dX7_unpick_42 : dc mX7_unpick 42 (.aload_n 0) 1 := by decide +kernel
theorem dX7_unpick_43 : dc mX7_unpick 43 (.getfield 12) 3 := by decide +kernel
theorem dX7_unpick_46 : dc mX7_unpick 46 (.iload_n 1) 1 := by decide +kernel
theorem dX7_unpick_47 : dc mX7_unpick 47 (.invokevirtual 253) 3 := by decide +kernel
theorem dX7_unpick_50 : dc mX7_unpick 50 (.iload_n 2) 1 := by decide +kernel
theorem dX7_unpick_51 : dc mX7_unpick 51 .ireturn 1 := by decide +kernel
theorem dX7_shear_0 : dc mX7_shear 0 (.iload_n 1) 1 := by decide +kernel
theorem dX7_shear_1 : dc mX7_shear 1 (.iconst 1) 1 := by decide +kernel
theorem dX7_shear_2 : dc mX7_shear 2 (.bipush 9) 2 := by decide +kernel
theorem dX7_shear_4 : dc mX7_shear 4 (.invokestatic 51) 3 := by decide +kernel
theorem dX7_shear_7 : dc mX7_shear 7 (.aload_n 0) 1 := by decide +kernel
theorem dX7_shear_8 : dc mX7_shear 8 (.getfield 26) 3 := by decide +kernel
theorem dX7_shear_11 : dc mX7_shear 11 (.aload_n 0) 1 := by decide +kernel
theorem dX7_shear_12 : dc mX7_shear 12 (.getfield 12) 3 := by decide +kernel
theorem dX7_shear_15 : dc mX7_shear 15 (.invokevirtual 193) 3 := by decide +kernel
theorem dX7_shear_18 : dc mX7_shear 18 (.aload_n 0) 1 := by decide +kernel
theorem dX7_shear_19 : dc mX7_shear 19 (.getfield 12) 3 := by decide +kernel
theorem dX7_shear_22 : dc mX7_shear 22 (.iload_n 1) 1 := by decide +kernel
theorem dX7_shear_23 : dc mX7_shear 23 (.invokevirtual 256) 3 := by decide +kernel
theorem dX7_shear_26 : dc mX7_shear 26 .ireturn 1 := by decide +kernel
theorem dX7_store_0 : dc mX7_store 0 (.iload_n 1) 1 := by decide +kernel
theorem dX7_store_1 : dc mX7_store 1 (.invokestatic 177) 3 := by decide +kernel
theorem dX7_store_4 : dc mX7_store 4 (.aload_n 0) 1 := by decide +kernel
theorem dX7_store_5 : dc mX7_store 5 (.invokevirtual 259) 3 := by decide +kernel
theorem dX7_store_8 : dc mX7_store 8 (.aload_n 0) 1 := by decide +kernel
theorem dX7_store_9 : dc mX7_store 9 (.getfield 33) 3 := by decide +kernel
theorem dX7_store_12 : dc mX7_store 12 (.iload_n 1) 1 := by decide +kernel
theorem dX7_store_13 : dc mX7_store 13 (.invokevirtual 262) 3 := by decide +kernel
theorem dX7_store_16 : dc mX7_store 16 (.ifCond .eq 14) 3 := by decide +kernel
theorem dX7_store_19 : dc mX7_store 19 (.new 59) 3 := by decide +kernel
theorem dX7_store_22 : dc mX7_store 22 .dup 1 := by decide +kernel
theorem dX7_store_23 : dc mX7_store 23 (.ldc_w 265) 3 := by decide +kernel
theorem dX7_store_26 : dc mX7_store 26 (.invokespecial 63) 3 := by decide +kernel
theorem dX7_store_29 : dc mX7_store 29 .athrow 1 := by decide +kernel
theorem dX7_store_30 : dc mX7_store 30 (.aload_n 0) 1 := by decide +kernel
theorem dX7_store_31 : dc mX7_store 31 (.getfield 26) 3 := by decide +kernel
theorem dX7_store_34 : dc mX7_store 34 (.aload_n 0) 1 := by decide +kernel
theorem dX7_store_35 : dc mX7_store 35 (.getfield 12) 3 := by decide +kernel
theorem dX7_store_38 : dc mX7_store 38 (.invokevirtual 193) 3 := by decide +kernel
theorem dX7_store_41 : dc mX7_store 41 (.aload_n 0) 1 := by decide +kernel
theorem dX7_store_42 : dc mX7_store 42 (.getfield 12) 3 := by decide +kernel
theorem dX7_store_45 : dc mX7_store 45 (.iload_n 1) 1 := by decide +kernel
theorem dX7_store_46 : dc mX7_store 46 (.aload_n 0) 1 := by decide +kernel
theorem dX7_store_47 : dc mX7_store 47 (.getfield 33) 3 := by decide +kernel
theorem dX7_store_50 : dc mX7_store 50 (.invokevirtual 267) 3 := by decide +kernel
theorem dX7_store_53 : dc mX7_store 53 (.aload_n 0) 1 := by decide +kernel
theorem dX7_store_54 : dc mX7_store 54 (.getfield 33) 3 := by decide +kernel
theorem dX7_store_57 : dc mX7_store 57 (.getfield 55) 3 := by decide +kernel
theorem dX7_store_60 : dc mX7_store 60 .ireturn 1 := by decide +kernel
theorem dX7_run_0 : dc mX7_run 0 (.iload_n 1) 1 := by decide +kernel
theorem dX7_run_1 : dc mX7_run 1 (.invokestatic 177) 3 := by decide +kernel
theorem dX7_run_4 : dc mX7_run 4 (.aload_n 0) 1 := by decide +kernel
theorem dX7_run_5 : dc mX7_run 5 (.getfield 12) 3 := by decide +kernel
theorem dX7_run_8 : dc mX7_run 8 (.iload_n 1) 1 := by decide +kernel
theorem dX7_run_9 : dc mX7_run 9 (.invokevirtual 180) 3 := by decide +kernel
theorem dX7_run_12 : dc mX7_run 12 (.astore_n 2) 1 := by decide +kernel
theorem dX7_run_13 : dc mX7_run 13 (.aload_n 2) 1 := by decide +kernel
theorem dX7_run_14 : dc mX7_run 14 (.ifnonnull 14) 3 := by decide +kernel
theorem dX7_run_17 : dc mX7_run 17 (.new 59) 3 := by decide +kernel
theorem dX7_run_20 : dc mX7_run 20 .dup 1 := by decide +kernel
theorem dX7_run_21 : dc mX7_run 21 (.ldc_w 271) 3 := by decide +kernel
theorem dX7_run_24 : dc mX7_run 24 (.invokespecial 63) 3 := by decide +kernel
theorem dX7_run_27 : dc mX7_run 27 .athrow 1 := by decide +kernel
theorem dX7_run_28 : dc mX7_run 28 (.aload_n 0) 1 := by decide +kernel
theorem dX7_run_29 : dc mX7_run 29 (.getfield 26) 3 := by decide +kernel
theorem dX7_run_32 : dc mX7_run 32 (.aload_n 0) 1 := by decide +kernel
theorem dX7_run_33 : dc mX7_run 33 (.getfield 12) 3 := by decide +kernel
theorem dX7_run_36 : dc mX7_run 36 (.invokevirtual 193) 3 := by decide +kernel
theorem dX7_run_39 : dc mX7_run 39 (.aload_n 0) 1 := by decide +kernel
theorem dX7_run_40 : dc mX7_run 40 (.getfield 40) 3 := by decide +kernel
theorem dX7_run_43 : dc mX7_run 43 (.aload_n 0) 1 := by decide +kernel
theorem dX7_run_44 : dc mX7_run 44 (.getfield 12) 3 := by decide +kernel
theorem dX7_run_47 : dc mX7_run 47 (.aload_n 2) 1 := by decide +kernel
theorem dX7_run_48 : dc mX7_run 48 (.invokevirtual 273) 3 := by decide +kernel
theorem dX7_run_51 : dc mX7_run 51 .ireturn 1 := by decide +kernel
theorem dX7_runText_0 : dc mX7_runText 0 (.aload_n 0) 1 := by decide +kernel
theorem dX7_runText_1 : dc mX7_runText 1 (.invokevirtual 259) 3 := by decide +kernel
theorem dX7_runText_4 : dc mX7_runText 4 (.aload_n 0) 1 := by decide +kernel
theorem dX7_runText_5 : dc mX7_runText 5 (.getfield 26) 3 := by decide +kernel
theorem dX7_runText_8 : dc mX7_runText 8 (.aload_n 0) 1 := by decide +kernel
theorem dX7_runText_9 : dc mX7_runText 9 (.getfield 12) 3 := by decide +kernel
theorem dX7_runText_12 : dc mX7_runText 12 (.invokevirtual 193) 3 := by decide +kernel
theorem dX7_runText_15 : dc mX7_runText 15 (.aload_n 0) 1 := by decide +kernel
theorem dX7_runText_16 : dc mX7_runText 16 (.getfield 40) 3 := by decide +kernel
theorem dX7_runText_19 : dc mX7_runText 19 (.aload_n 0) 1 := by decide +kernel
theorem dX7_runText_20 : dc mX7_runText 20 (.getfield 12) 3 := by decide +kernel
theorem dX7_runText_23 : dc mX7_runText 23 (.aload_n 0) 1 := by decide +kernel
theorem dX7_runText_24 : dc mX7_runText 24 (.getfield 33) 3 := by decide +kernel
theorem dX7_runText_27 : dc mX7_runText 27 (.invokevirtual 273) 3 := by decide +kernel
theorem dX7_runText_30 : dc mX7_runText 30 .ireturn 1 := by decide +kernel
theorem dX7_undo_0 : dc mX7_undo 0 (.aload_n 0) 1 := by decide +kernel
theorem dX7_undo_1 : dc mX7_undo 1 (.getfield 26) 3 := by decide +kernel
theorem dX7_undo_4 : dc mX7_undo 4 (.getfield 277) 3 := by decide +kernel
theorem dX7_undo_7 : dc mX7_undo 7 (.ifCond .ne 14) 3 := by decide +kernel
theorem dX7_undo_10 : dc mX7_undo 10 (.new 59) 3 := by decide +kernel
theorem dX7_undo_13 : dc mX7_undo 13 .dup 1 := by decide +kernel
theorem dX7_undo_14 : dc mX7_undo 14 (.ldc_w 280) 3 := by decide +kernel
theorem dX7_undo_17 : dc mX7_undo 17 (.invokespecial 63) 3 := by decide +kernel
theorem dX7_undo_20 : dc mX7_undo 20 .athrow 1 := by decide +kernel
theorem dX7_undo_21 : dc mX7_undo 21 (.aload_n 0) 1 := by decide +kernel
theorem dX7_undo_22 : dc mX7_undo 22 (.getfield 26) 3 := by decide +kernel
theorem dX7_undo_25 : dc mX7_undo 25 (.aload_n 0) 1 := by decide +kernel
theorem dX7_undo_26 : dc mX7_undo 26 (.getfield 12) 3 := by decide +kernel
theorem dX7_undo_29 : dc mX7_undo 29 (.invokevirtual 282) 3 := by decide +kernel
theorem dX7_undo_32 : dc mX7_undo 32 (.aload_n 0) 1 := by decide +kernel
theorem dX7_undo_33 : dc mX7_undo 33 (.getfield 26) 3 := by decide +kernel
theorem dX7_undo_36 : dc mX7_undo 36 (.getfield 277) 3 := by decide +kernel
theorem dX7_undo_39 : dc mX7_undo 39 .ireturn 1 := by decide +kernel
theorem dX7_whyNoStitch_0 : dc mX7_whyNoStitch 0 (.aload_n 0) 1 := by decide +kernel
theorem dX7_whyNoStitch_1 : dc mX7_whyNoStitch 1 (.getfield 12) 3 := by decide +kernel
theorem dX7_whyNoStitch_4 : dc mX7_whyNoStitch 4 (.invokevirtual 219) 3 := by decide +kernel
theorem dX7_whyNoStitch_7 : dc mX7_whyNoStitch 7 .ireturn 1 := by decide +kernel
theorem dX7_whyNoMending_0 : dc mX7_whyNoMending 0 (.iload_n 1) 1 := by decide +kernel
theorem dX7_whyNoMending_1 : dc mX7_whyNoMending 1 (.invokestatic 74) 3 := by decide +kernel
theorem dX7_whyNoMending_4 : dc mX7_whyNoMending 4 (.aload_n 0) 1 := by decide +kernel
theorem dX7_whyNoMending_5 : dc mX7_whyNoMending 5 (.getfield 12) 3 := by decide +kernel
theorem dX7_whyNoMending_8 : dc mX7_whyNoMending 8 (.iload_n 1) 1 := by decide +kernel
theorem dX7_whyNoMending_9 : dc mX7_whyNoMending 9 (.invokevirtual 243) 3 := by decide +kernel
theorem dX7_whyNoMending_12 : dc mX7_whyNoMending 12 .ireturn 1 := by decide +kernel
theorem dX7_couldSew_0 : dc mX7_couldSew 0 (.aload_n 0) 1 := by decide +kernel
theorem dX7_couldSew_1 : dc mX7_couldSew 1 (.getfield 16) 3 := by decide +kernel
theorem dX7_couldSew_4 : dc mX7_couldSew 4 (.aload_n 0) 1 := by decide +kernel
theorem dX7_couldSew_5 : dc mX7_couldSew 5 (.getfield 12) 3 := by decide +kernel
theorem dX7_couldSew_8 : dc mX7_couldSew 8 (.invokevirtual 285) 3 := by decide +kernel
theorem dX7_couldSew_11 : dc mX7_couldSew 11 (.aload_n 0) 1 := by decide +kernel
theorem dX7_couldSew_12 : dc mX7_couldSew 12 (.getfield 16) 3 := by decide +kernel
theorem dX7_couldSew_15 : dc mX7_couldSew 15 (.bipush 12) 2 := by decide +kernel
theorem dX7_couldSew_17 : dc mX7_couldSew 17 (.invokevirtual 224) 3 := by decide +kernel
theorem dX7_couldSew_20 : dc mX7_couldSew 20 .ireturn 1 := by decide +kernel
theorem dX7_nearestByRings_0 : dc mX7_nearestByRings 0 (.iload_n 1) 1 := by decide +kernel
theorem dX7_nearestByRings_1 : dc mX7_nearestByRings 1 (.invokestatic 110) 3 := by decide +kernel
theorem dX7_nearestByRings_4 : dc mX7_nearestByRings 4 (.aload_n 0) 1 := by decide +kernel
theorem dX7_nearestByRings_5 : dc mX7_nearestByRings 5 (.getfield 12) 3 := by decide +kernel
theorem dX7_nearestByRings_8 : dc mX7_nearestByRings 8 (.getfield 78) 3 := by decide +kernel
theorem dX7_nearestByRings_11 : dc mX7_nearestByRings 11 (.aload_n 0) 1 := by decide +kernel
theorem dX7_nearestByRings_12 : dc mX7_nearestByRings 12 (.getfield 12) 3 := by decide +kernel
theorem dX7_nearestByRings_15 : dc mX7_nearestByRings 15 (.getfield 124) 3 := by decide +kernel
theorem dX7_nearestByRings_18 : dc mX7_nearestByRings 18 (.iload_n 1) 1 := by decide +kernel
theorem dX7_nearestByRings_19 : dc mX7_nearestByRings 19 (.invokevirtual 288) 3 := by decide +kernel
theorem dX7_nearestByRings_22 : dc mX7_nearestByRings 22 .ireturn 1 := by decide +kernel
theorem dX7_nearestByCells_0 : dc mX7_nearestByCells 0 (.iload_n 1) 1 := by decide +kernel
theorem dX7_nearestByCells_1 : dc mX7_nearestByCells 1 (.invokestatic 110) 3 := by decide +kernel
theorem dX7_nearestByCells_4 : dc mX7_nearestByCells 4 (.aload_n 0) 1 := by decide +kernel
theorem dX7_nearestByCells_5 : dc mX7_nearestByCells 5 (.getfield 12) 3 := by decide +kernel
theorem dX7_nearestByCells_8 : dc mX7_nearestByCells 8 (.getfield 78) 3 := by decide +kernel
theorem dX7_nearestByCells_11 : dc mX7_nearestByCells 11 (.aload_n 0) 1 := by decide +kernel
theorem dX7_nearestByCells_12 : dc mX7_nearestByCells 12 (.getfield 12) 3 := by decide +kernel
theorem dX7_nearestByCells_15 : dc mX7_nearestByCells 15 (.getfield 124) 3 := by decide +kernel
theorem dX7_nearestByCells_18 : dc mX7_nearestByCells 18 (.iload_n 1) 1 := by decide +kernel
theorem dX7_nearestByCells_19 : dc mX7_nearestByCells 19 (.invokevirtual 291) 3 := by decide +kernel
theorem dX7_nearestByCells_22 : dc mX7_nearestByCells 22 .ireturn 1 := by decide +kernel
theorem dX7_loopsBy_0 : dc mX7_loopsBy 0 (.aload_n 0) 1 := by decide +kernel
theorem dX7_loopsBy_1 : dc mX7_loopsBy 1 (.invokevirtual 259) 3 := by decide +kernel
theorem dX7_loopsBy_4 : dc mX7_loopsBy 4 (.aload_n 0) 1 := by decide +kernel
theorem dX7_loopsBy_5 : dc mX7_loopsBy 5 (.invokevirtual 294) 3 := by decide +kernel
theorem dX7_loopsBy_8 : dc mX7_loopsBy 8 (.aload_n 0) 1 := by decide +kernel
theorem dX7_loopsBy_9 : dc mX7_loopsBy 9 (.getfield 16) 3 := by decide +kernel
theorem dX7_loopsBy_12 : dc mX7_loopsBy 12 (.getfield 78) 3 := by decide +kernel
theorem dX7_loopsBy_15 : dc mX7_loopsBy 15 (.invokevirtual 104) 3 := by decide +kernel
theorem dX7_loopsBy_18 : dc mX7_loopsBy 18 (.aload_n 0) 1 := by decide +kernel
theorem dX7_loopsBy_19 : dc mX7_loopsBy 19 (.getfield 12) 3 := by decide +kernel
theorem dX7_loopsBy_22 : dc mX7_loopsBy 22 (.getfield 78) 3 := by decide +kernel
theorem dX7_loopsBy_25 : dc mX7_loopsBy 25 (.invokevirtual 104) 3 := by decide +kernel
theorem dX7_loopsBy_28 : dc mX7_loopsBy 28 .isub 1 := by decide +kernel
theorem dX7_loopsBy_29 : dc mX7_loopsBy 29 .ireturn 1 := by decide +kernel
theorem dX7_needleBy_0 : dc mX7_needleBy 0 (.aload_n 0) 1 := by decide +kernel
theorem dX7_needleBy_1 : dc mX7_needleBy 1 (.invokevirtual 259) 3 := by decide +kernel
theorem dX7_needleBy_4 : dc mX7_needleBy 4 (.aload_n 0) 1 := by decide +kernel
theorem dX7_needleBy_5 : dc mX7_needleBy 5 (.invokevirtual 294) 3 := by decide +kernel
theorem dX7_needleBy_8 : dc mX7_needleBy 8 (.aload_n 0) 1 := by decide +kernel
theorem dX7_needleBy_9 : dc mX7_needleBy 9 (.getfield 16) 3 := by decide +kernel
theorem dX7_needleBy_12 : dc mX7_needleBy 12 (.getfield 124) 3 := by decide +kernel
theorem dX7_needleBy_15 : dc mX7_needleBy 15 .ireturn 1 := by decide +kernel
theorem dX7_yarnBy_0 : dc mX7_yarnBy 0 (.iload_n 1) 1 := by decide +kernel
theorem dX7_yarnBy_1 : dc mX7_yarnBy 1 (.invokestatic 110) 3 := by decide +kernel
theorem dX7_yarnBy_4 : dc mX7_yarnBy 4 (.aload_n 0) 1 := by decide +kernel
theorem dX7_yarnBy_5 : dc mX7_yarnBy 5 (.invokevirtual 259) 3 := by decide +kernel
theorem dX7_yarnBy_8 : dc mX7_yarnBy 8 (.aload_n 0) 1 := by decide +kernel
theorem dX7_yarnBy_9 : dc mX7_yarnBy 9 (.invokevirtual 294) 3 := by decide +kernel
theorem dX7_yarnBy_12 : dc mX7_yarnBy 12 (.aload_n 0) 1 := by decide +kernel
theorem dX7_yarnBy_13 : dc mX7_yarnBy 13 (.getfield 16) 3 := by decide +kernel
theorem dX7_yarnBy_16 : dc mX7_yarnBy 16 (.getfield 147) 3 := by decide +kernel
theorem dX7_yarnBy_19 : dc mX7_yarnBy 19 (.iload_n 1) 1 := by decide +kernel
theorem dX7_yarnBy_20 : dc mX7_yarnBy 20 (.invokevirtual 156) 3 := by decide +kernel
theorem dX7_yarnBy_23 : dc mX7_yarnBy 23 (.aload_n 0) 1 := by decide +kernel
theorem dX7_yarnBy_24 : dc mX7_yarnBy 24 (.getfield 12) 3 := by decide +kernel
theorem dX7_yarnBy_27 : dc mX7_yarnBy 27 (.getfield 147) 3 := by decide +kernel
theorem dX7_yarnBy_30 : dc mX7_yarnBy 30 (.iload_n 1) 1 := by decide +kernel
theorem dX7_yarnBy_31 : dc mX7_yarnBy 31 (.invokevirtual 156) 3 := by decide +kernel
theorem dX7_yarnBy_34 : dc mX7_yarnBy 34 .isub 1 := by decide +kernel
theorem dX7_yarnBy_35 : dc mX7_yarnBy 35 .ireturn 1 := by decide +kernel
theorem dX7_simulate_0 : dc mX7_simulate 0 (.iload_n 3) 1 := by decide +kernel
theorem dX7_simulate_1 : dc mX7_simulate 1 (.iconst 1) 1 := by decide +kernel
theorem dX7_simulate_2 : dc mX7_simulate 2 (.bipush 60) 2 := by decide +kernel
theorem dX7_simulate_4 : dc mX7_simulate 4 (.invokestatic 51) 3 := by decide +kernel
theorem dX7_simulate_7 : dc mX7_simulate 7 (.aload_n 0) 1 := by decide +kernel
theorem dX7_simulate_8 : dc mX7_simulate 8 (.getfield 16) 3 := by decide +kernel
theorem dX7_simulate_11 : dc mX7_simulate 11 (.aload_n 0) 1 := by decide +kernel
theorem dX7_simulate_12 : dc mX7_simulate 12 (.getfield 12) 3 := by decide +kernel
theorem dX7_simulate_15 : dc mX7_simulate 15 (.invokevirtual 285) 3 := by decide +kernel
theorem dX7_simulate_18 : dc mX7_simulate 18 (.lload_n 1) 1 := by decide +kernel
theorem dX7_simulate_19 : dc mX7_simulate 19 (.lstore 4) 2 := by decide +kernel
theorem dX7_simulate_21 : dc mX7_simulate 21 (.iconst 0) 1 := by decide +kernel
theorem dX7_simulate_22 : dc mX7_simulate 22 (.istore 6) 2 := by decide +kernel
theorem dX7_simulate_24 : dc mX7_simulate 24 (.iload 6) 2 := by decide +kernel
theorem dX7_simulate_26 : dc mX7_simulate 26 (.iload_n 3) 1 := by decide +kernel
theorem dX7_simulate_27 : dc mX7_simulate 27 (.if_icmp .ge 31) 3 := by decide +kernel
theorem dX7_simulate_30 : dc mX7_simulate 30 (.lload 4) 2 := by decide +kernel
theorem dX7_simulate_32 : dc mX7_simulate 32 (.ldc2_w 297) 3 := by decide +kernel
theorem dX7_simulate_35 : dc mX7_simulate 35 .lmul 1 := by decide +kernel
theorem dX7_simulate_36 : dc mX7_simulate 36 (.ldc2_w 299) 3 := by decide +kernel
theorem dX7_simulate_39 : dc mX7_simulate 39 .ladd 1 := by decide +kernel
theorem dX7_simulate_40 : dc mX7_simulate 40 (.lstore 4) 2 := by decide +kernel
theorem dX7_simulate_42 : dc mX7_simulate 42 (.aload_n 0) 1 := by decide +kernel
theorem dX7_simulate_43 : dc mX7_simulate 43 (.lload 4) 2 := by decide +kernel
theorem dX7_simulate_45 : dc mX7_simulate 45 (.bipush 33) 2 := by decide +kernel
theorem dX7_simulate_47 : dc mX7_simulate 47 .lushr 1 := by decide +kernel
theorem dX7_simulate_48 : dc mX7_simulate 48 .l2i 1 := by decide +kernel
theorem dX7_simulate_49 : dc mX7_simulate 49 (.invokevirtual 301) 3 := by decide +kernel
theorem dX7_simulate_52 : dc mX7_simulate 52 (.iinc 6 1) 3 := by decide +kernel
theorem dX7_simulate_55 : dc mX7_simulate 55 (.goto (-31)) 3 := by decide +kernel
theorem dX7_simulate_58 : dc mX7_simulate 58 (.sipush 1000) 3 := by decide +kernel
theorem dX7_simulate_61 : dc mX7_simulate 61 (.aload_n 0) 1 := by decide +kernel
theorem dX7_simulate_62 : dc mX7_simulate 62 (.getfield 16) 3 := by decide +kernel
theorem dX7_simulate_65 : dc mX7_simulate 65 (.getfield 78) 3 := by decide +kernel
theorem dX7_simulate_68 : dc mX7_simulate 68 (.invokevirtual 104) 3 := by decide +kernel
theorem dX7_simulate_71 : dc mX7_simulate 71 .imul 1 := by decide +kernel
theorem dX7_simulate_72 : dc mX7_simulate 72 (.bipush 10) 2 := by decide +kernel
theorem dX7_simulate_74 : dc mX7_simulate 74 (.aload_n 0) 1 := by decide +kernel
theorem dX7_simulate_75 : dc mX7_simulate 75 (.getfield 16) 3 := by decide +kernel
theorem dX7_simulate_78 : dc mX7_simulate 78 (.getfield 78) 3 := by decide +kernel
theorem dX7_simulate_81 : dc mX7_simulate 81 (.invokevirtual 107) 3 := by decide +kernel
theorem dX7_simulate_84 : dc mX7_simulate 84 (.bipush 100) 2 := by decide +kernel
theorem dX7_simulate_86 : dc mX7_simulate 86 .irem 1 := by decide +kernel
theorem dX7_simulate_87 : dc mX7_simulate 87 .imul 1 := by decide +kernel
theorem dX7_simulate_88 : dc mX7_simulate 88 .iadd 1 := by decide +kernel
theorem dX7_simulate_89 : dc mX7_simulate 89 (.aload_n 0) 1 := by decide +kernel
theorem dX7_simulate_90 : dc mX7_simulate 90 (.getfield 16) 3 := by decide +kernel
theorem dX7_simulate_93 : dc mX7_simulate 93 (.getfield 127) 3 := by decide +kernel
theorem dX7_simulate_96 : dc mX7_simulate 96 .iadd 1 := by decide +kernel
theorem dX7_simulate_97 : dc mX7_simulate 97 .ireturn 1 := by decide +kernel
theorem dX7_save_0 : dc mX7_save 0 (.iload_n 1) 1 := by decide +kernel
theorem dX7_save_1 : dc mX7_save 1 (.invokestatic 304) 3 := by decide +kernel
theorem dX7_save_4 : dc mX7_save 4 (.aload_n 0) 1 := by decide +kernel
theorem dX7_save_5 : dc mX7_save 5 (.getfield 19) 3 := by decide +kernel
theorem dX7_save_8 : dc mX7_save 8 (.iload_n 1) 1 := by decide +kernel
theorem dX7_save_9 : dc mX7_save 9 .aaload 1 := by decide +kernel
theorem dX7_save_10 : dc mX7_save 10 (.ifnonnull 16) 3 := by decide +kernel
theorem dX7_save_13 : dc mX7_save 13 (.aload_n 0) 1 := by decide +kernel
theorem dX7_save_14 : dc mX7_save 14 (.getfield 19) 3 := by decide +kernel
theorem dX7_save_17 : dc mX7_save 17 (.iload_n 1) 1 := by decide +kernel
theorem dX7_save_18 : dc mX7_save 18 (.new 9) 3 := by decide +kernel
theorem dX7_save_21 : dc mX7_save 21 .dup 1 := by decide +kernel
theorem dX7_save_22 : dc mX7_save 22 (.invokespecial 11) 3 := by decide +kernel
theorem dX7_save_25 : dc mX7_save 25 .aastore 1 := by decide +kernel
theorem dX7_save_26 : dc mX7_save 26 (.aload_n 0) 1 := by decide +kernel
theorem dX7_save_27 : dc mX7_save 27 (.getfield 19) 3 := by decide +kernel
theorem dX7_save_30 : dc mX7_save 30 (.iload_n 1) 1 := by decide +kernel
theorem dX7_save_31 : dc mX7_save 31 .aaload 1 := by decide +kernel
theorem dX7_save_32 : dc mX7_save 32 (.aload_n 0) 1 := by decide +kernel
theorem dX7_save_33 : dc mX7_save 33 (.getfield 12) 3 := by decide +kernel
theorem dX7_save_36 : dc mX7_save 36 (.invokevirtual 285) 3 := by decide +kernel
theorem dX7_save_39 : dc mX7_save 39 (.aload_n 0) 1 := by decide +kernel
theorem dX7_save_40 : dc mX7_save 40 (.getfield 12) 3 := by decide +kernel
theorem dX7_save_43 : dc mX7_save 43 (.getfield 78) 3 := by decide +kernel
theorem dX7_save_46 : dc mX7_save 46 (.invokevirtual 104) 3 := by decide +kernel
theorem dX7_save_49 : dc mX7_save 49 .ireturn 1 := by decide +kernel
theorem dX7_restore_0 : dc mX7_restore 0 (.iload_n 1) 1 := by decide +kernel
theorem dX7_restore_1 : dc mX7_restore 1 (.invokestatic 304) 3 := by decide +kernel
theorem dX7_restore_4 : dc mX7_restore 4 (.aload_n 0) 1 := by decide +kernel
theorem dX7_restore_5 : dc mX7_restore 5 (.getfield 19) 3 := by decide +kernel
theorem dX7_restore_8 : dc mX7_restore 8 (.iload_n 1) 1 := by decide +kernel
theorem dX7_restore_9 : dc mX7_restore 9 .aaload 1 := by decide +kernel
theorem dX7_restore_10 : dc mX7_restore 10 (.astore_n 2) 1 := by decide +kernel
theorem dX7_restore_11 : dc mX7_restore 11 (.aload_n 2) 1 := by decide +kernel
theorem dX7_restore_12 : dc mX7_restore 12 (.ifnonnull 14) 3 := by decide +kernel
theorem dX7_restore_15 : dc mX7_restore 15 (.new 59) 3 := by decide +kernel
theorem dX7_restore_18 : dc mX7_restore 18 .dup 1 := by decide +kernel
theorem dX7_restore_19 : dc mX7_restore 19 (.ldc_w 307) 3 := by decide +kernel
theorem dX7_restore_22 : dc mX7_restore 22 (.invokespecial 63) 3 := by decide +kernel
theorem dX7_restore_25 : dc mX7_restore 25 .athrow 1 := by decide +kernel
theorem dX7_restore_26 : dc mX7_restore 26 (.aload_n 0) 1 := by decide +kernel
theorem dX7_restore_27 : dc mX7_restore 27 (.getfield 12) 3 := by decide +kernel
theorem dX7_restore_30 : dc mX7_restore 30 (.aload_n 2) 1 := by decide +kernel
theorem dX7_restore_31 : dc mX7_restore 31 (.invokevirtual 285) 3 := by decide +kernel
theorem dX7_restore_34 : dc mX7_restore 34 (.aload_n 0) 1 := by decide +kernel
theorem dX7_restore_35 : dc mX7_restore 35 (.getfield 26) 3 := by decide +kernel
theorem dX7_restore_38 : dc mX7_restore 38 (.iconst 0) 1 := by decide +kernel
theorem dX7_restore_39 : dc mX7_restore 39 (.putfield 277) 3 := by decide +kernel
theorem dX7_restore_42 : dc mX7_restore 42 (.aload_n 0) 1 := by decide +kernel
theorem dX7_restore_43 : dc mX7_restore 43 (.getfield 12) 3 := by decide +kernel
theorem dX7_restore_46 : dc mX7_restore 46 (.getfield 78) 3 := by decide +kernel
theorem dX7_restore_49 : dc mX7_restore 49 (.invokevirtual 104) 3 := by decide +kernel
theorem dX7_restore_52 : dc mX7_restore 52 .ireturn 1 := by decide +kernel
theorem dX7_tryText_0 : dc mX7_tryText 0 (.aload_n 0) 1 := by decide +kernel
theorem dX7_tryText_1 : dc mX7_tryText 1 (.getfield 16) 3 := by decide +kernel
theorem dX7_tryText_4 : dc mX7_tryText 4 (.aload_n 0) 1 := by decide +kernel
theorem dX7_tryText_5 : dc mX7_tryText 5 (.getfield 12) 3 := by decide +kernel
theorem dX7_tryText_8 : dc mX7_tryText 8 (.invokevirtual 285) 3 := by decide +kernel
theorem dX7_tryText_11 : dc mX7_tryText 11 (.aload_n 0) 1 := by decide +kernel
theorem dX7_tryText_12 : dc mX7_tryText 12 (.getfield 40) 3 := by decide +kernel
theorem dX7_tryText_15 : dc mX7_tryText 15 (.aload_n 0) 1 := by decide +kernel
theorem dX7_tryText_16 : dc mX7_tryText 16 (.getfield 16) 3 := by decide +kernel
theorem dX7_tryText_19 : dc mX7_tryText 19 (.aload_n 0) 1 := by decide +kernel
theorem dX7_tryText_20 : dc mX7_tryText 20 (.getfield 33) 3 := by decide +kernel
theorem dX7_tryText_23 : dc mX7_tryText 23 (.invokevirtual 273) 3 := by decide +kernel
theorem dX7_tryText_26 : dc mX7_tryText 26 .pop 1 := by decide +kernel
theorem dX7_tryText_27 : dc mX7_tryText 27 .return_ 1 := by decide +kernel
theorem dX7_simulateTurn_0 : dc mX7_simulateTurn 0 (.iload_n 1) 1 := by decide +kernel
theorem dX7_simulateTurn_1 : dc mX7_simulateTurn 1 (.bipush 32) 2 := by decide +kernel
theorem dX7_simulateTurn_3 : dc mX7_simulateTurn 3 .idiv 1 := by decide +kernel
theorem dX7_simulateTurn_4 : dc mX7_simulateTurn 4 (.istore_n 2) 1 := by decide +kernel
theorem dX7_simulateTurn_5 : dc mX7_simulateTurn 5 (.iload_n 1) 1 := by decide +kernel
theorem dX7_simulateTurn_6 : dc mX7_simulateTurn 6 (.bipush 32) 2 := by decide +kernel
theorem dX7_simulateTurn_8 : dc mX7_simulateTurn 8 .irem 1 := by decide +kernel
theorem dX7_simulateTurn_9 : dc mX7_simulateTurn 9 (.istore_n 3) 1 := by decide +kernel
theorem dX7_simulateTurn_10 : dc mX7_simulateTurn 10 (.iload_n 3) 1 := by decide +kernel
theorem dX7_simulateTurn_11 : dc mX7_simulateTurn 11 (.bipush 13) 2 := by decide +kernel
theorem dX7_simulateTurn_13 : dc mX7_simulateTurn 13 (.if_icmp .gt 20) 3 := by decide +kernel
theorem dX7_simulateTurn_16 : dc mX7_simulateTurn 16 (.aload_n 0) 1 := by decide +kernel
theorem dX7_simulateTurn_17 : dc mX7_simulateTurn 17 (.getfield 16) 3 := by decide +kernel
theorem dX7_simulateTurn_20 : dc mX7_simulateTurn 20 (.iconst 1) 1 := by decide +kernel
theorem dX7_simulateTurn_21 : dc mX7_simulateTurn 21 (.iload_n 2) 1 := by decide +kernel
theorem dX7_simulateTurn_22 : dc mX7_simulateTurn 22 (.bipush 12) 2 := by decide +kernel
theorem dX7_simulateTurn_24 : dc mX7_simulateTurn 24 .irem 1 := by decide +kernel
theorem dX7_simulateTurn_25 : dc mX7_simulateTurn 25 .iadd 1 := by decide +kernel
theorem dX7_simulateTurn_26 : dc mX7_simulateTurn 26 (.invokevirtual 224) 3 := by decide +kernel
theorem dX7_simulateTurn_29 : dc mX7_simulateTurn 29 .pop 1 := by decide +kernel
theorem dX7_simulateTurn_30 : dc mX7_simulateTurn 30 (.goto 223) 3 := by decide +kernel
theorem dX7_simulateTurn_33 : dc mX7_simulateTurn 33 (.iload_n 3) 1 := by decide +kernel
theorem dX7_simulateTurn_34 : dc mX7_simulateTurn 34 (.bipush 16) 2 := by decide +kernel
theorem dX7_simulateTurn_36 : dc mX7_simulateTurn 36 (.if_icmp .gt 19) 3 := by decide +kernel
theorem dX7_simulateTurn_39 : dc mX7_simulateTurn 39 (.aload_n 0) 1 := by decide +kernel
theorem dX7_simulateTurn_40 : dc mX7_simulateTurn 40 (.getfield 16) 3 := by decide +kernel
theorem dX7_simulateTurn_43 : dc mX7_simulateTurn 43 (.iconst 1) 1 := by decide +kernel
theorem dX7_simulateTurn_44 : dc mX7_simulateTurn 44 (.iload_n 2) 1 := by decide +kernel
theorem dX7_simulateTurn_45 : dc mX7_simulateTurn 45 (.iconst 3) 1 := by decide +kernel
theorem dX7_simulateTurn_46 : dc mX7_simulateTurn 46 .irem 1 := by decide +kernel
theorem dX7_simulateTurn_47 : dc mX7_simulateTurn 47 .iadd 1 := by decide +kernel
theorem dX7_simulateTurn_48 : dc mX7_simulateTurn 48 (.invokevirtual 227) 3 := by decide +kernel
theorem dX7_simulateTurn_51 : dc mX7_simulateTurn 51 .pop 1 := by decide +kernel
theorem dX7_simulateTurn_52 : dc mX7_simulateTurn 52 (.goto 201) 3 := by decide +kernel
theorem dX7_simulateTurn_55 : dc mX7_simulateTurn 55 (.iload_n 3) 1 := by decide +kernel
theorem dX7_simulateTurn_56 : dc mX7_simulateTurn 56 (.bipush 19) 2 := by decide +kernel
theorem dX7_simulateTurn_58 : dc mX7_simulateTurn 58 (.if_icmp .gt 14) 3 := by decide +kernel
theorem dX7_simulateTurn_61 : dc mX7_simulateTurn 61 (.aload_n 0) 1 := by decide +kernel
theorem dX7_simulateTurn_62 : dc mX7_simulateTurn 62 (.getfield 16) 3 := by decide +kernel
theorem dX7_simulateTurn_65 : dc mX7_simulateTurn 65 (.iconst (-1)) 1 := by decide +kernel
theorem dX7_simulateTurn_66 : dc mX7_simulateTurn 66 (.invokevirtual 230) 3 := by decide +kernel
theorem dX7_simulateTurn_69 : dc mX7_simulateTurn 69 (.goto 184) 3 := by decide +kernel
theorem dX7_simulateTurn_72 : dc mX7_simulateTurn 72 (.iload_n 3) 1 := by decide +kernel
theorem dX7_simulateTurn_73 : dc mX7_simulateTurn 73 (.bipush 22) 2 := by decide +kernel
theorem dX7_simulateTurn_75 : dc mX7_simulateTurn 75 (.if_icmp .gt 14) 3 := by decide +kernel
theorem dX7_simulateTurn_78 : dc mX7_simulateTurn 78 (.aload_n 0) 1 := by decide +kernel
theorem dX7_simulateTurn_79 : dc mX7_simulateTurn 79 (.getfield 16) 3 := by decide +kernel
theorem dX7_simulateTurn_82 : dc mX7_simulateTurn 82 (.iconst 1) 1 := by decide +kernel
theorem dX7_simulateTurn_83 : dc mX7_simulateTurn 83 (.invokevirtual 230) 3 := by decide +kernel
theorem dX7_simulateTurn_86 : dc mX7_simulateTurn 86 (.goto 167) 3 := by decide +kernel
theorem dX7_simulateTurn_89 : dc mX7_simulateTurn 89 (.iload_n 3) 1 := by decide +kernel
theorem dX7_simulateTurn_90 : dc mX7_simulateTurn 90 (.bipush 25) 2 := by decide +kernel
theorem dX7_simulateTurn_92 : dc mX7_simulateTurn 92 (.if_icmp .gt 17) 3 := by decide +kernel
theorem dX7_simulateTurn_95 : dc mX7_simulateTurn 95 (.aload_n 0) 1 := by decide +kernel
theorem dX7_simulateTurn_96 : dc mX7_simulateTurn 96 (.getfield 16) 3 := by decide +kernel
theorem dX7_simulateTurn_99 : dc mX7_simulateTurn 99 (.iload_n 2) 1 := by decide +kernel
theorem dX7_simulateTurn_100 : dc mX7_simulateTurn 100 (.iconst 5) 1 := by decide +kernel
theorem dX7_simulateTurn_101 : dc mX7_simulateTurn 101 .irem 1 := by decide +kernel
theorem dX7_simulateTurn_102 : dc mX7_simulateTurn 102 (.invokevirtual 210) 3 := by decide +kernel
theorem dX7_simulateTurn_105 : dc mX7_simulateTurn 105 .pop 1 := by decide +kernel
theorem dX7_simulateTurn_106 : dc mX7_simulateTurn 106 (.goto 147) 3 := by decide +kernel
theorem dX7_simulateTurn_109 : dc mX7_simulateTurn 109 (.iload_n 3) 1 := by decide +kernel
theorem dX7_simulateTurn_110 : dc mX7_simulateTurn 110 (.bipush 26) 2 := by decide +kernel
theorem dX7_simulateTurn_112 : dc mX7_simulateTurn 112 (.if_icmp .ne 20) 3 := by decide +kernel
theorem dX7_simulateTurn_115 : dc mX7_simulateTurn 115 (.iload_n 2) 1 := by decide +kernel
theorem dX7_simulateTurn_116 : dc mX7_simulateTurn 116 (.iconst 4) 1 := by decide +kernel
theorem dX7_simulateTurn_117 : dc mX7_simulateTurn 117 .irem 1 := by decide +kernel
theorem dX7_simulateTurn_118 : dc mX7_simulateTurn 118 (.ifCond .ne 14) 3 := by decide +kernel
theorem dX7_simulateTurn_121 : dc mX7_simulateTurn 121 (.aload_n 0) 1 := by decide +kernel
theorem dX7_simulateTurn_122 : dc mX7_simulateTurn 122 (.getfield 16) 3 := by decide +kernel
theorem dX7_simulateTurn_125 : dc mX7_simulateTurn 125 (.invokevirtual 216) 3 := by decide +kernel
theorem dX7_simulateTurn_128 : dc mX7_simulateTurn 128 .pop 1 := by decide +kernel
theorem dX7_simulateTurn_129 : dc mX7_simulateTurn 129 (.goto 124) 3 := by decide +kernel
theorem dX7_simulateTurn_132 : dc mX7_simulateTurn 132 (.iload_n 3) 1 := by decide +kernel
theorem dX7_simulateTurn_133 : dc mX7_simulateTurn 133 (.bipush 27) 2 := by decide +kernel
theorem dX7_simulateTurn_135 : dc mX7_simulateTurn 135 (.if_icmp .ne 14) 3 := by decide +kernel
theorem dX7_simulateTurn_138 : dc mX7_simulateTurn 138 (.aload_n 0) 1 := by decide +kernel
theorem dX7_simulateTurn_139 : dc mX7_simulateTurn 139 (.getfield 16) 3 := by decide +kernel
theorem dX7_simulateTurn_142 : dc mX7_simulateTurn 142 (.invokevirtual 233) 3 := by decide +kernel
theorem dX7_simulateTurn_145 : dc mX7_simulateTurn 145 .pop 1 := by decide +kernel
theorem dX7_simulateTurn_146 : dc mX7_simulateTurn 146 (.goto 107) 3 := by decide +kernel
theorem dX7_simulateTurn_149 : dc mX7_simulateTurn 149 (.iload_n 3) 1 := by decide +kernel
theorem dX7_simulateTurn_150 : dc mX7_simulateTurn 150 (.bipush 28) 2 := by decide +kernel
theorem dX7_simulateTurn_152 : dc mX7_simulateTurn 152 (.if_icmp .ne 19) 3 := by decide +kernel
theorem dX7_simulateTurn_155 : dc mX7_simulateTurn 155 (.aload_n 0) 1 := by decide +kernel
theorem dX7_simulateTurn_156 : dc mX7_simulateTurn 156 (.getfield 16) 3 := by decide +kernel
theorem dX7_simulateTurn_159 : dc mX7_simulateTurn 159 (.iconst 1) 1 := by decide +kernel
theorem dX7_simulateTurn_160 : dc mX7_simulateTurn 160 (.iload_n 2) 1 := by decide +kernel
theorem dX7_simulateTurn_161 : dc mX7_simulateTurn 161 (.bipush 9) 2 := by decide +kernel
theorem dX7_simulateTurn_163 : dc mX7_simulateTurn 163 .irem 1 := by decide +kernel
theorem dX7_simulateTurn_164 : dc mX7_simulateTurn 164 .iadd 1 := by decide +kernel
theorem dX7_simulateTurn_165 : dc mX7_simulateTurn 165 (.putfield 133) 3 := by decide +kernel
theorem dX7_simulateTurn_168 : dc mX7_simulateTurn 168 (.goto 85) 3 := by decide +kernel
theorem dX7_simulateTurn_171 : dc mX7_simulateTurn 171 (.iload_n 3) 1 := by decide +kernel
theorem dX7_simulateTurn_172 : dc mX7_simulateTurn 172 (.bipush 29) 2 := by decide +kernel
theorem dX7_simulateTurn_174 : dc mX7_simulateTurn 174 (.if_icmp .ne 18) 3 := by decide +kernel
theorem dX7_simulateTurn_177 : dc mX7_simulateTurn 177 (.aload_n 0) 1 := by decide +kernel
theorem dX7_simulateTurn_178 : dc mX7_simulateTurn 178 (.getfield 16) 3 := by decide +kernel
theorem dX7_simulateTurn_181 : dc mX7_simulateTurn 181 (.iload_n 2) 1 := by decide +kernel
theorem dX7_simulateTurn_182 : dc mX7_simulateTurn 182 (.sipush 144) 3 := by decide +kernel
theorem dX7_simulateTurn_185 : dc mX7_simulateTurn 185 .irem 1 := by decide +kernel
theorem dX7_simulateTurn_186 : dc mX7_simulateTurn 186 (.invokevirtual 253) 3 := by decide +kernel
theorem dX7_simulateTurn_189 : dc mX7_simulateTurn 189 (.goto 64) 3 := by decide +kernel
theorem dX7_simulateTurn_192 : dc mX7_simulateTurn 192 (.iload_n 3) 1 := by decide +kernel
theorem dX7_simulateTurn_193 : dc mX7_simulateTurn 193 (.bipush 30) 2 := by decide +kernel
theorem dX7_simulateTurn_195 : dc mX7_simulateTurn 195 (.if_icmp .ne 30) 3 := by decide +kernel
theorem dX7_simulateTurn_198 : dc mX7_simulateTurn 198 (.iload_n 2) 1 := by decide +kernel
theorem dX7_simulateTurn_199 : dc mX7_simulateTurn 199 (.bipush 9) 2 := by decide +kernel
theorem dX7_simulateTurn_201 : dc mX7_simulateTurn 201 .idiv 1 := by decide +kernel
theorem dX7_simulateTurn_202 : dc mX7_simulateTurn 202 (.bipush 8) 2 := by decide +kernel
theorem dX7_simulateTurn_204 : dc mX7_simulateTurn 204 .irem 1 := by decide +kernel
theorem dX7_simulateTurn_205 : dc mX7_simulateTurn 205 (.ifCond .ne 20) 3 := by decide +kernel
theorem dX7_simulateTurn_208 : dc mX7_simulateTurn 208 (.aload_n 0) 1 := by decide +kernel
theorem dX7_simulateTurn_209 : dc mX7_simulateTurn 209 (.getfield 16) 3 := by decide +kernel
theorem dX7_simulateTurn_212 : dc mX7_simulateTurn 212 (.iconst 1) 1 := by decide +kernel
theorem dX7_simulateTurn_213 : dc mX7_simulateTurn 213 (.iload_n 2) 1 := by decide +kernel
theorem dX7_simulateTurn_214 : dc mX7_simulateTurn 214 (.bipush 9) 2 := by decide +kernel
theorem dX7_simulateTurn_216 : dc mX7_simulateTurn 216 .irem 1 := by decide +kernel
theorem dX7_simulateTurn_217 : dc mX7_simulateTurn 217 .iadd 1 := by decide +kernel
theorem dX7_simulateTurn_218 : dc mX7_simulateTurn 218 (.invokevirtual 256) 3 := by decide +kernel
theorem dX7_simulateTurn_221 : dc mX7_simulateTurn 221 .pop 1 := by decide +kernel
theorem dX7_simulateTurn_222 : dc mX7_simulateTurn 222 (.goto 31) 3 := by decide +kernel
theorem dX7_simulateTurn_225 : dc mX7_simulateTurn 225 (.iload_n 3) 1 := by decide +kernel
theorem dX7_simulateTurn_226 : dc mX7_simulateTurn 226 (.bipush 31) 2 := by decide +kernel
theorem dX7_simulateTurn_228 : dc mX7_simulateTurn 228 (.if_icmp .ne 25) 3 := by decide +kernel
theorem dX7_simulateTurn_231 : dc mX7_simulateTurn 231 (.aload_n 0) 1 := by decide +kernel
theorem dX7_simulateTurn_232 : dc mX7_simulateTurn 232 (.getfield 40) 3 := by decide +kernel
theorem dX7_simulateTurn_235 : dc mX7_simulateTurn 235 (.aload_n 0) 1 := by decide +kernel
theorem dX7_simulateTurn_236 : dc mX7_simulateTurn 236 (.getfield 16) 3 := by decide +kernel
theorem dX7_simulateTurn_239 : dc mX7_simulateTurn 239 (.aload_n 0) 1 := by decide +kernel
theorem dX7_simulateTurn_240 : dc mX7_simulateTurn 240 (.getfield 16) 3 := by decide +kernel
theorem dX7_simulateTurn_243 : dc mX7_simulateTurn 243 (.iload_n 2) 1 := by decide +kernel
theorem dX7_simulateTurn_244 : dc mX7_simulateTurn 244 (.iconst 4) 1 := by decide +kernel
theorem dX7_simulateTurn_245 : dc mX7_simulateTurn 245 .irem 1 := by decide +kernel
theorem dX7_simulateTurn_246 : dc mX7_simulateTurn 246 (.invokevirtual 180) 3 := by decide +kernel
theorem dX7_simulateTurn_249 : dc mX7_simulateTurn 249 (.invokevirtual 273) 3 := by decide +kernel
theorem dX7_simulateTurn_252 : dc mX7_simulateTurn 252 .pop 1 := by decide +kernel
theorem dX7_simulateTurn_253 : dc mX7_simulateTurn 253 .return_ 1 := by decide +kernel
theorem dX7_needThreaded_0 : dc mX7_needThreaded 0 (.aload_n 0) 1 := by decide +kernel
theorem dX7_needThreaded_1 : dc mX7_needThreaded 1 (.getfield 12) 3 := by decide +kernel
theorem dX7_needThreaded_4 : dc mX7_needThreaded 4 (.getfield 130) 3 := by decide +kernel
theorem dX7_needThreaded_7 : dc mX7_needThreaded 7 (.iconst (-1)) 1 := by decide +kernel
theorem dX7_needThreaded_8 : dc mX7_needThreaded 8 (.if_icmp .ne 14) 3 := by decide +kernel
theorem dX7_needThreaded_11 : dc mX7_needThreaded 11 (.new 59) 3 := by decide +kernel
theorem dX7_needThreaded_14 : dc mX7_needThreaded 14 .dup 1 := by decide +kernel
theorem dX7_needThreaded_15 : dc mX7_needThreaded 15 (.ldc_w 309) 3 := by decide +kernel
theorem dX7_needThreaded_18 : dc mX7_needThreaded 18 (.invokespecial 63) 3 := by decide +kernel
theorem dX7_needThreaded_21 : dc mX7_needThreaded 21 .athrow 1 := by decide +kernel
theorem dX7_needThreaded_22 : dc mX7_needThreaded 22 .return_ 1 := by decide +kernel
theorem dX7_needMotifText_0 : dc mX7_needMotifText 0 (.aload_n 0) 1 := by decide +kernel
theorem dX7_needMotifText_1 : dc mX7_needMotifText 1 (.getfield 33) 3 := by decide +kernel
theorem dX7_needMotifText_4 : dc mX7_needMotifText 4 (.invokevirtual 70) 3 := by decide +kernel
theorem dX7_needMotifText_7 : dc mX7_needMotifText 7 (.iconst (-1)) 1 := by decide +kernel
theorem dX7_needMotifText_8 : dc mX7_needMotifText 8 (.if_icmp .eq 14) 3 := by decide +kernel
theorem dX7_needMotifText_11 : dc mX7_needMotifText 11 (.new 59) 3 := by decide +kernel
theorem dX7_needMotifText_14 : dc mX7_needMotifText 14 .dup 1 := by decide +kernel
theorem dX7_needMotifText_15 : dc mX7_needMotifText 15 (.ldc_w 311) 3 := by decide +kernel
theorem dX7_needMotifText_18 : dc mX7_needMotifText 18 (.invokespecial 63) 3 := by decide +kernel
theorem dX7_needMotifText_21 : dc mX7_needMotifText 21 .athrow 1 := by decide +kernel
theorem dX7_needMotifText_22 : dc mX7_needMotifText 22 .return_ 1 := by decide +kernel
theorem dX7_needCell_0 : dc mX7_needCell 0 (.iload_n 0) 1 := by decide +kernel
theorem dX7_needCell_1 : dc mX7_needCell 1 (.ifCond .lt 10) 3 := by decide +kernel
theorem dX7_needCell_4 : dc mX7_needCell 4 (.iload_n 0) 1 := by decide +kernel
theorem dX7_needCell_5 : dc mX7_needCell 5 (.sipush 144) 3 := by decide +kernel
theorem dX7_needCell_8 : dc mX7_needCell 8 (.if_icmp .lt 14) 3 := by decide +kernel
theorem dX7_needCell_11 : dc mX7_needCell 11 (.new 184) 3 := by decide +kernel
theorem dX7_needCell_14 : dc mX7_needCell 14 .dup 1 := by decide +kernel
theorem dX7_needCell_15 : dc mX7_needCell 15 (.ldc_w 313) 3 := by decide +kernel
theorem dX7_needCell_18 : dc mX7_needCell 18 (.invokespecial 188) 3 := by decide +kernel
theorem dX7_needCell_21 : dc mX7_needCell 21 .athrow 1 := by decide +kernel
theorem dX7_needCell_22 : dc mX7_needCell 22 .return_ 1 := by decide +kernel
theorem dX7_needColour_0 : dc mX7_needColour 0 (.iload_n 0) 1 := by decide +kernel
theorem dX7_needColour_1 : dc mX7_needColour 1 (.ifCond .lt 8) 3 := by decide +kernel
theorem dX7_needColour_4 : dc mX7_needColour 4 (.iload_n 0) 1 := by decide +kernel
theorem dX7_needColour_5 : dc mX7_needColour 5 (.iconst 5) 1 := by decide +kernel
theorem dX7_needColour_6 : dc mX7_needColour 6 (.if_icmp .lt 14) 3 := by decide +kernel
theorem dX7_needColour_9 : dc mX7_needColour 9 (.new 184) 3 := by decide +kernel
theorem dX7_needColour_12 : dc mX7_needColour 12 .dup 1 := by decide +kernel
theorem dX7_needColour_13 : dc mX7_needColour 13 (.ldc_w 315) 3 := by decide +kernel
theorem dX7_needColour_16 : dc mX7_needColour 16 (.invokespecial 188) 3 := by decide +kernel
theorem dX7_needColour_19 : dc mX7_needColour 19 .athrow 1 := by decide +kernel
theorem dX7_needColour_20 : dc mX7_needColour 20 .return_ 1 := by decide +kernel
theorem dX7_needMotif_0 : dc mX7_needMotif 0 (.iload_n 0) 1 := by decide +kernel
theorem dX7_needMotif_1 : dc mX7_needMotif 1 (.ifCond .lt 8) 3 := by decide +kernel
theorem dX7_needMotif_4 : dc mX7_needMotif 4 (.iload_n 0) 1 := by decide +kernel
theorem dX7_needMotif_5 : dc mX7_needMotif 5 (.iconst 4) 1 := by decide +kernel
theorem dX7_needMotif_6 : dc mX7_needMotif 6 (.if_icmp .lt 14) 3 := by decide +kernel
theorem dX7_needMotif_9 : dc mX7_needMotif 9 (.new 184) 3 := by decide +kernel
theorem dX7_needMotif_12 : dc mX7_needMotif 12 .dup 1 := by decide +kernel
theorem dX7_needMotif_13 : dc mX7_needMotif 13 (.ldc_w 317) 3 := by decide +kernel
theorem dX7_needMotif_16 : dc mX7_needMotif 16 (.invokespecial 188) 3 := by decide +kernel
theorem dX7_needMotif_19 : dc mX7_needMotif 19 .athrow 1 := by decide +kernel
theorem dX7_needMotif_20 : dc mX7_needMotif 20 .return_ 1 := by decide +kernel
theorem dX7_needSlot_0 : dc mX7_needSlot 0 (.iload_n 0) 1 := by decide +kernel
theorem dX7_needSlot_1 : dc mX7_needSlot 1 (.ifCond .lt 8) 3 := by decide +kernel
theorem dX7_needSlot_4 : dc mX7_needSlot 4 (.iload_n 0) 1 := by decide +kernel
theorem dX7_needSlot_5 : dc mX7_needSlot 5 (.iconst 2) 1 := by decide +kernel
theorem dX7_needSlot_6 : dc mX7_needSlot 6 (.if_icmp .lt 14) 3 := by decide +kernel
theorem dX7_needSlot_9 : dc mX7_needSlot 9 (.new 184) 3 := by decide +kernel
theorem dX7_needSlot_12 : dc mX7_needSlot 12 .dup 1 := by decide +kernel
theorem dX7_needSlot_13 : dc mX7_needSlot 13 (.ldc_w 319) 3 := by decide +kernel
theorem dX7_needSlot_16 : dc mX7_needSlot 16 (.invokespecial 188) 3 := by decide +kernel
theorem dX7_needSlot_19 : dc mX7_needSlot 19 .athrow 1 := by decide +kernel
theorem dX7_needSlot_20 : dc mX7_needSlot 20 .return_ 1 := by decide +kernel
theorem dX7_needRange_0 : dc mX7_needRange 0 (.iload_n 0) 1 := by decide +kernel
theorem dX7_needRange_1 : dc mX7_needRange 1 (.iload_n 1) 1 := by decide +kernel
theorem dX7_needRange_2 : dc mX7_needRange 2 (.if_icmp .lt 8) 3 := by decide +kernel
theorem dX7_needRange_5 : dc mX7_needRange 5 (.iload_n 0) 1 := by decide +kernel
theorem dX7_needRange_6 : dc mX7_needRange 6 (.iload_n 2) 1 := by decide +kernel
theorem dX7_needRange_7 : dc mX7_needRange 7 (.if_icmp .le 14) 3 := by decide +kernel
theorem dX7_needRange_10 : dc mX7_needRange 10 (.new 321) 3 := by decide +kernel
theorem dX7_needRange_13 : dc mX7_needRange 13 .dup 1 := by decide +kernel
theorem dX7_needRange_14 : dc mX7_needRange 14 (.ldc_w 323) 3 := by decide +kernel
theorem dX7_needRange_17 : dc mX7_needRange 17 (.invokespecial 325) 3 := by decide +kernel
theorem dX7_needRange_20 : dc mX7_needRange 20 .athrow 1 := by decide +kernel
theorem dX7_needRange_21 : dc mX7_needRange 21 .return_ 1 := by decide +kernel
theorem dX7_yarnForLoop_0 : dc mX7_yarnForLoop 0 (.iconst 2) 1 := by decide +kernel
theorem dX7_yarnForLoop_1 : dc mX7_yarnForLoop 1 (.iload_n 0) 1 := by decide +kernel
theorem dX7_yarnForLoop_2 : dc mX7_yarnForLoop 2 .imul 1 := by decide +kernel
theorem dX7_yarnForLoop_3 : dc mX7_yarnForLoop 3 (.iconst 4) 1 := by decide +kernel
theorem dX7_yarnForLoop_4 : dc mX7_yarnForLoop 4 .iadd 1 := by decide +kernel
theorem dX7_yarnForLoop_5 : dc mX7_yarnForLoop 5 .ireturn 1 := by decide +kernel
theorem dX7_beside_0 : dc mX7_beside 0 (.iload_n 0) 1 := by decide +kernel
theorem dX7_beside_1 : dc mX7_beside 1 (.bipush 12) 2 := by decide +kernel
theorem dX7_beside_3 : dc mX7_beside 3 .irem 1 := by decide +kernel
theorem dX7_beside_4 : dc mX7_beside 4 (.istore_n 2) 1 := by decide +kernel
theorem dX7_beside_5 : dc mX7_beside 5 (.iload_n 0) 1 := by decide +kernel
theorem dX7_beside_6 : dc mX7_beside 6 (.bipush 12) 2 := by decide +kernel
theorem dX7_beside_8 : dc mX7_beside 8 .idiv 1 := by decide +kernel
theorem dX7_beside_9 : dc mX7_beside 9 (.istore_n 3) 1 := by decide +kernel
theorem dX7_beside_10 : dc mX7_beside 10 (.iload_n 1) 1 := by decide +kernel
theorem dX7_beside_11 : dc mX7_beside 11 (.tableswitch 66 0 2 #[25, 39, 54]) 25 := by decide +kernel
theorem dX7_beside_36 : dc mX7_beside 36 (.iload_n 2) 1 := by decide +kernel
theorem dX7_beside_37 : dc mX7_beside 37 (.bipush 11) 2 := by decide +kernel
theorem dX7_beside_39 : dc mX7_beside 39 (.if_icmp .ge 9) 3 := by decide +kernel
theorem dX7_beside_42 : dc mX7_beside 42 (.iload_n 0) 1 := by decide +kernel
theorem dX7_beside_43 : dc mX7_beside 43 (.iconst 1) 1 := by decide +kernel
theorem dX7_beside_44 : dc mX7_beside 44 .iadd 1 := by decide +kernel
theorem dX7_beside_45 : dc mX7_beside 45 (.goto 4) 3 := by decide +kernel
theorem dX7_beside_48 : dc mX7_beside 48 (.iconst (-1)) 1 := by decide +kernel
theorem dX7_beside_49 : dc mX7_beside 49 .ireturn 1 := by decide +kernel
theorem dX7_beside_50 : dc mX7_beside 50 (.iload_n 3) 1 := by decide +kernel
theorem dX7_beside_51 : dc mX7_beside 51 (.bipush 11) 2 := by decide +kernel
theorem dX7_beside_53 : dc mX7_beside 53 (.if_icmp .ge 10) 3 := by decide +kernel
theorem dX7_beside_56 : dc mX7_beside 56 (.iload_n 0) 1 := by decide +kernel
theorem dX7_beside_57 : dc mX7_beside 57 (.bipush 12) 2 := by decide +kernel
theorem dX7_beside_59 : dc mX7_beside 59 .iadd 1 := by decide +kernel
theorem dX7_beside_60 : dc mX7_beside 60 (.goto 4) 3 := by decide +kernel
theorem dX7_beside_63 : dc mX7_beside 63 (.iconst (-1)) 1 := by decide +kernel
theorem dX7_beside_64 : dc mX7_beside 64 .ireturn 1 := by decide +kernel
theorem dX7_beside_65 : dc mX7_beside 65 (.iload_n 2) 1 := by decide +kernel
theorem dX7_beside_66 : dc mX7_beside 66 (.ifCond .le 9) 3 := by decide +kernel
theorem dX7_beside_69 : dc mX7_beside 69 (.iload_n 0) 1 := by decide +kernel
theorem dX7_beside_70 : dc mX7_beside 70 (.iconst 1) 1 := by decide +kernel
theorem dX7_beside_71 : dc mX7_beside 71 .isub 1 := by decide +kernel
theorem dX7_beside_72 : dc mX7_beside 72 (.goto 4) 3 := by decide +kernel
theorem dX7_beside_75 : dc mX7_beside 75 (.iconst (-1)) 1 := by decide +kernel
theorem dX7_beside_76 : dc mX7_beside 76 .ireturn 1 := by decide +kernel
theorem dX7_beside_77 : dc mX7_beside 77 (.iload_n 3) 1 := by decide +kernel
theorem dX7_beside_78 : dc mX7_beside 78 (.ifCond .le 10) 3 := by decide +kernel
theorem dX7_beside_81 : dc mX7_beside 81 (.iload_n 0) 1 := by decide +kernel
theorem dX7_beside_82 : dc mX7_beside 82 (.bipush 12) 2 := by decide +kernel
theorem dX7_beside_84 : dc mX7_beside 84 .isub 1 := by decide +kernel
theorem dX7_beside_85 : dc mX7_beside 85 (.goto 4) 3 := by decide +kernel
theorem dX7_beside_88 : dc mX7_beside 88 (.iconst (-1)) 1 := by decide +kernel
theorem dX7_beside_89 : dc mX7_beside 89 .ireturn 1 := by decide +kernel
theorem dJ_abs_0 : dc mJ_abs 0 (.iload_n 0) 1 := by decide +kernel
theorem dJ_abs_1 : dc mJ_abs 1 (.ifCond .ge 8) 3 := by decide +kernel
theorem dJ_abs_4 : dc mJ_abs 4 (.iload_n 0) 1 := by decide +kernel
theorem dJ_abs_5 : dc mJ_abs 5 .ineg 1 := by decide +kernel
theorem dJ_abs_6 : dc mJ_abs 6 (.goto 4) 3 := by decide +kernel
theorem dJ_abs_9 : dc mJ_abs 9 (.iload_n 0) 1 := by decide +kernel
theorem dJ_abs_10 : dc mJ_abs 10 .ireturn 1 := by decide +kernel
theorem dJ_floorMod_0 : dc mJ_floorMod 0 (.iload_n 0) 1 := by decide +kernel
theorem dJ_floorMod_1 : dc mJ_floorMod 1 (.iload_n 1) 1 := by decide +kernel
theorem dJ_floorMod_2 : dc mJ_floorMod 2 .irem 1 := by decide +kernel
theorem dJ_floorMod_3 : dc mJ_floorMod 3 (.istore_n 2) 1 := by decide +kernel
theorem dJ_floorMod_4 : dc mJ_floorMod 4 (.iload_n 0) 1 := by decide +kernel
theorem dJ_floorMod_5 : dc mJ_floorMod 5 (.iload_n 1) 1 := by decide +kernel
theorem dJ_floorMod_6 : dc mJ_floorMod 6 .ixor 1 := by decide +kernel
theorem dJ_floorMod_7 : dc mJ_floorMod 7 (.ifCond .ge 11) 3 := by decide +kernel
theorem dJ_floorMod_10 : dc mJ_floorMod 10 (.iload_n 2) 1 := by decide +kernel
theorem dJ_floorMod_11 : dc mJ_floorMod 11 (.ifCond .eq 7) 3 := by decide +kernel
theorem dJ_floorMod_14 : dc mJ_floorMod 14 (.iload_n 2) 1 := by decide +kernel
theorem dJ_floorMod_15 : dc mJ_floorMod 15 (.iload_n 1) 1 := by decide +kernel
theorem dJ_floorMod_16 : dc mJ_floorMod 16 .iadd 1 := by decide +kernel
theorem dJ_floorMod_17 : dc mJ_floorMod 17 .ireturn 1 := by decide +kernel
theorem dJ_floorMod_18 : dc mJ_floorMod 18 (.iload_n 2) 1 := by decide +kernel
theorem dJ_floorMod_19 : dc mJ_floorMod 19 .ireturn 1 := by decide +kernel
theorem dJ_max_0 : dc mJ_max 0 (.iload_n 0) 1 := by decide +kernel
theorem dJ_max_1 : dc mJ_max 1 (.iload_n 1) 1 := by decide +kernel
theorem dJ_max_2 : dc mJ_max 2 (.if_icmp .lt 7) 3 := by decide +kernel
theorem dJ_max_5 : dc mJ_max 5 (.iload_n 0) 1 := by decide +kernel
theorem dJ_max_6 : dc mJ_max 6 (.goto 4) 3 := by decide +kernel
theorem dJ_max_9 : dc mJ_max 9 (.iload_n 1) 1 := by decide +kernel
theorem dJ_max_10 : dc mJ_max 10 .ireturn 1 := by decide +kernel
theorem dJ_min_0 : dc mJ_min 0 (.iload_n 0) 1 := by decide +kernel
theorem dJ_min_1 : dc mJ_min 1 (.iload_n 1) 1 := by decide +kernel
theorem dJ_min_2 : dc mJ_min 2 (.if_icmp .gt 7) 3 := by decide +kernel
theorem dJ_min_5 : dc mJ_min 5 (.iload_n 0) 1 := by decide +kernel
theorem dJ_min_6 : dc mJ_min 6 (.goto 4) 3 := by decide +kernel
theorem dJ_min_9 : dc mJ_min 9 (.iload_n 1) 1 := by decide +kernel
theorem dJ_min_10 : dc mJ_min 10 .ireturn 1 := by decide +kernel
end
section
def gStaH (m m' : GM) (idx nA : Nat) : Prop := gCal m' nA ∧ ghh m' ≠ [] ∧ Cond.static (gy m') ∈ gW ∧ Cond.methodLink (gy m).cls idx (gy m') ∈ gW
theorem g_staH {m m' : GM} {pc z k n idx : Nat} {L : List (Option Value)} {rest : List Value} {M : Hp} {Φ Ψ : GR → Hp → Nat → Prop} {as st : List Value} {nA : Nat} (d : dc m pc (.invokestatic idx) 3) (lk : gStaH m m' idx nA) (bud : gBud m m' = true) (hst : st = as.reverse ++ rest) (hnA : as.length = nA) (hcat : (rest.map fun v => v.category).sum ≤ 8) (hk : k + gce m' ≤ gce m) (hn : n + gsl m' ≤ gsl m)
    (call : Runs m' as M z Ψ) (kk : ∀ r M' z', Ψ (.inl r) M' z' → WP m (pc + 3) L (r.toList ++ rest) M' z' (k + gce m') (n + gsl m') Φ) (kx : ∀ E M' z', Ψ (.inr E) M' z' → WX m pc L rest M' z' (k + gce m') (n + gsl m') E Φ) : WP m pc L st M z k n Φ := by
  intro D dA base p l e s mid args below meth c C H locs ls hR hS hL
  subst hnA
  obtain ⟨c1, c2, c3, lk⟩ := lk
  refine g_call (a := as.toArray) C hS hL ?_ kk kx
  have C' := C
  obtain ⟨hx, hb, hml, hown, hts, hlocks, hl, hname, hr, hT, hG, hbase, htab⟩ := C'
  obtain ⟨d1, d2, d3, d4⟩ := c1
  have hcw : gcw m' = Cond.codeWith (gy m') (gc m') (gl m') (gr m') (ghh m') := by
    cases hg : ghh m' with
    | nil => exact absurd hg c2
    | cons a t => simp only [gcw, hg]
  have hB := gBud_ok bud
  have hM' : vx_Met l (gy m') (gws m') (grm m') (va_Pc as (gPre D dA base z M)) (gQ Ψ D dA base) (gX Ψ D dA base) (gce m') (gsl m') (gA base) := call l hl D dA base
  have hp : PreS s H (va_Pc as (gPre D dA base z M)) as := ⟨gPre_blind D dA base z M as, gPre_at C hR hS⟩
  have ecode : Cond.codeWith (gy m') (gc m') (gl m') (gr m') (ghh m') ∈ gws m' := by rw [← hcw]; exact List.mem_cons_self
  exact vx_runSX (hh := ghh m') (ws := gws m') (rm := grm m') (bytes := gc m') (maxL := gl m') (ret := gr m') (Ts := gW) (own := (gy m).cls) ⟨hx, hb, hml, hown, hts⟩ hM' ⟨⟨rfl, rfl, hB.1, hB.2, pay_in hts (gws_in d1), ecode⟩, hts _ (by rw [← hcw]; exact d1), hts _ d2, d3, gparse d4, hts _ lk, hts _ c3⟩ hp rfl rfl hL.2.1 hst (lv_room hcat) d ⟨hk, hn⟩
theorem tWi {w : Cond} (h : w ∈ tables_1) (g : goodWord w = true) : w ∈ gW := List.mem_filter.mpr ⟨List.mem_append_right _ h, g⟩
theorem tNi {w : Cond} (h : w ∈ tables_1) (g : gnest w = true) : w ∈ gN := List.mem_filter.mpr ⟨h, g⟩
theorem tOi {w : Cond} (h : w ∈ tables_1) (g : gothr w = true) : w ∈ gO := List.mem_filter.mpr ⟨h, g⟩
theorem tSi {o : String} {k : Nat} {t : String} (h : Cond.stringRef o k t ∈ tables_1) : (o, k, t) ∈ gS := List.mem_filterMap.mpr ⟨_, h, rfl⟩
theorem tt1 {w : Cond} (i : Nat) (h : tables_1_1[i]? = some w) : w ∈ tables_1 := (List.mem_append_left _ (List.mem_of_getElem? h))
theorem tW1 {w : Cond} (i : Nat) (h : tables_1_1[i]? = some w) (g : goodWord w = true) : w ∈ gW := tWi (tt1 i h) g
theorem tN1 {w : Cond} (i : Nat) (h : tables_1_1[i]? = some w) (g : gnest w = true) : w ∈ gN := tNi (tt1 i h) g
theorem tO1 {w : Cond} (i : Nat) (h : tables_1_1[i]? = some w) (g : gothr w = true) : w ∈ gO := tOi (tt1 i h) g
theorem tt2 {w : Cond} (i : Nat) (h : tables_1_2[i]? = some w) : w ∈ tables_1 := (List.mem_append_right _ (List.mem_append_left _ (List.mem_of_getElem? h)))
theorem tW2 {w : Cond} (i : Nat) (h : tables_1_2[i]? = some w) (g : goodWord w = true) : w ∈ gW := tWi (tt2 i h) g
theorem tN2 {w : Cond} (i : Nat) (h : tables_1_2[i]? = some w) (g : gnest w = true) : w ∈ gN := tNi (tt2 i h) g
theorem tO2 {w : Cond} (i : Nat) (h : tables_1_2[i]? = some w) (g : gothr w = true) : w ∈ gO := tOi (tt2 i h) g
theorem tt3 {w : Cond} (i : Nat) (h : tables_1_3[i]? = some w) : w ∈ tables_1 := (List.mem_append_right _ (List.mem_append_right _ (List.mem_append_left _ (List.mem_of_getElem? h))))
theorem tW3 {w : Cond} (i : Nat) (h : tables_1_3[i]? = some w) (g : goodWord w = true) : w ∈ gW := tWi (tt3 i h) g
theorem tN3 {w : Cond} (i : Nat) (h : tables_1_3[i]? = some w) (g : gnest w = true) : w ∈ gN := tNi (tt3 i h) g
theorem tO3 {w : Cond} (i : Nat) (h : tables_1_3[i]? = some w) (g : gothr w = true) : w ∈ gO := tOi (tt3 i h) g
theorem tt4 {w : Cond} (i : Nat) (h : tables_1_4[i]? = some w) : w ∈ tables_1 := (List.mem_append_right _ (List.mem_append_right _ (List.mem_append_right _ (List.mem_append_left _ (List.mem_of_getElem? h)))))
theorem tW4 {w : Cond} (i : Nat) (h : tables_1_4[i]? = some w) (g : goodWord w = true) : w ∈ gW := tWi (tt4 i h) g
theorem tN4 {w : Cond} (i : Nat) (h : tables_1_4[i]? = some w) (g : gnest w = true) : w ∈ gN := tNi (tt4 i h) g
theorem tO4 {w : Cond} (i : Nat) (h : tables_1_4[i]? = some w) (g : gothr w = true) : w ∈ gO := tOi (tt4 i h) g
theorem tt5 {w : Cond} (i : Nat) (h : tables_1_5[i]? = some w) : w ∈ tables_1 := (List.mem_append_right _ (List.mem_append_right _ (List.mem_append_right _ (List.mem_append_right _ (List.mem_append_left _ (List.mem_of_getElem? h))))))
theorem tW5 {w : Cond} (i : Nat) (h : tables_1_5[i]? = some w) (g : goodWord w = true) : w ∈ gW := tWi (tt5 i h) g
theorem tN5 {w : Cond} (i : Nat) (h : tables_1_5[i]? = some w) (g : gnest w = true) : w ∈ gN := tNi (tt5 i h) g
theorem tO5 {w : Cond} (i : Nat) (h : tables_1_5[i]? = some w) (g : gothr w = true) : w ∈ gO := tOi (tt5 i h) g
theorem tt6 {w : Cond} (i : Nat) (h : tables_1_6[i]? = some w) : w ∈ tables_1 := (List.mem_append_right _ (List.mem_append_right _ (List.mem_append_right _ (List.mem_append_right _ (List.mem_append_right _ (List.mem_append_left _ (List.mem_of_getElem? h)))))))
theorem tW6 {w : Cond} (i : Nat) (h : tables_1_6[i]? = some w) (g : goodWord w = true) : w ∈ gW := tWi (tt6 i h) g
theorem tN6 {w : Cond} (i : Nat) (h : tables_1_6[i]? = some w) (g : gnest w = true) : w ∈ gN := tNi (tt6 i h) g
theorem tO6 {w : Cond} (i : Nat) (h : tables_1_6[i]? = some w) (g : gothr w = true) : w ∈ gO := tOi (tt6 i h) g
theorem tt7 {w : Cond} (i : Nat) (h : tables_1_7[i]? = some w) : w ∈ tables_1 := (List.mem_append_right _ (List.mem_append_right _ (List.mem_append_right _ (List.mem_append_right _ (List.mem_append_right _ (List.mem_append_right _ (List.mem_of_getElem? h)))))))
theorem tW7 {w : Cond} (i : Nat) (h : tables_1_7[i]? = some w) (g : goodWord w = true) : w ∈ gW := tWi (tt7 i h) g
theorem tN7 {w : Cond} (i : Nat) (h : tables_1_7[i]? = some w) (g : gnest w = true) : w ∈ gN := tNi (tt7 i h) g
theorem tO7 {w : Cond} (i : Nat) (h : tables_1_7[i]? = some w) (g : gothr w = true) : w ∈ gO := tOi (tt7 i h) g
theorem tP {w : Cond} (h : w ∈ k2_sels lw_privs) (g : goodWord w = true) : w ∈ gW := List.mem_filter.mpr ⟨List.mem_append_left _ h, g⟩
theorem uX0 : ∀ w ∈ u_ws RX0 TX0 4, w ∈ gW := fun w hw => tWi ((by decide +kernel : ∀ w ∈ u_ws RX0 TX0 4, w ∈ tables_1) w hw) ((by decide +kernel : ∀ w ∈ u_ws RX0 TX0 4, goodWord w = true) w hw)
theorem uX1 : ∀ w ∈ u_ws RX1 TX1 3, w ∈ gW := fun w hw => tWi ((by decide +kernel : ∀ w ∈ u_ws RX1 TX1 3, w ∈ tables_1) w hw) ((by decide +kernel : ∀ w ∈ u_ws RX1 TX1 3, goodWord w = true) w hw)
theorem uX2 : ∀ w ∈ u_ws RX2 TX2 3, w ∈ gW := fun w hw => tWi ((by decide +kernel : ∀ w ∈ u_ws RX2 TX2 3, w ∈ tables_1) w hw) ((by decide +kernel : ∀ w ∈ u_ws RX2 TX2 3, goodWord w = true) w hw)
theorem uX3 : ∀ w ∈ u_ws RX3 TX3 7, w ∈ gW := fun w hw => tWi ((by decide +kernel : ∀ w ∈ u_ws RX3 TX3 7, w ∈ tables_1) w hw) ((by decide +kernel : ∀ w ∈ u_ws RX3 TX3 7, goodWord w = true) w hw)
theorem uX4 : ∀ w ∈ u_ws RX4 TX4 9, w ∈ gW := fun w hw => tWi ((by decide +kernel : ∀ w ∈ u_ws RX4 TX4 9, w ∈ tables_1) w hw) ((by decide +kernel : ∀ w ∈ u_ws RX4 TX4 9, goodWord w = true) w hw)
theorem uX5 : ∀ w ∈ u_ws RX5 TX5 2, w ∈ gW := fun w hw => tWi ((by decide +kernel : ∀ w ∈ u_ws RX5 TX5 2, w ∈ tables_1) w hw) ((by decide +kernel : ∀ w ∈ u_ws RX5 TX5 2, goodWord w = true) w hw)
theorem uX6 : ∀ w ∈ u_ws RX6 TX6 5, w ∈ gW := fun w hw => tWi ((by decide +kernel : ∀ w ∈ u_ws RX6 TX6 5, w ∈ tables_1) w hw) ((by decide +kernel : ∀ w ∈ u_ws RX6 TX6 5, goodWord w = true) w hw)
theorem uX7 : ∀ w ∈ u_ws RX7 TX7 7, w ∈ gW := fun w hw => tWi ((by decide +kernel : ∀ w ∈ u_ws RX7 TX7 7, w ∈ tables_1) w hw) ((by decide +kernel : ∀ w ∈ u_ws RX7 TX7 7, goodWord w = true) w hw)
theorem uX8 : ∀ w ∈ u_ws RX8 TX8 20, w ∈ gW := fun w hw => tWi ((by decide +kernel : ∀ w ∈ u_ws RX8 TX8 20, w ∈ tables_1) w hw) ((by decide +kernel : ∀ w ∈ u_ws RX8 TX8 20, goodWord w = true) w hw)
theorem fX7_12 {m : GM} (h : (gy m).cls = RX7) : gFL m 12 7 0 (.object "RugPunch$Rug") true := ⟨RX7, TX7, 7, tyX7, rfl, by decide, rfl, uX7, tyX7_ok, nmX7, rfl, rfl, Or.inl ⟨by rw [h]; exact tW1 196 (by decide +kernel) rfl, fun _ => h.symm⟩⟩
theorem fX7_16 {m : GM} (h : (gy m).cls = RX7) : gFL m 16 7 1 (.object "RugPunch$Rug") true := ⟨RX7, TX7, 7, tyX7, rfl, by decide, rfl, uX7, tyX7_ok, nmX7, rfl, rfl, Or.inl ⟨by rw [h]; exact tW1 197 (by decide +kernel) rfl, fun _ => h.symm⟩⟩
theorem fX7_19 {m : GM} (h : (gy m).cls = RX7) : gFL m 19 7 2 (.array (.object "RugPunch$Rug")) true := ⟨RX7, TX7, 7, tyX7, rfl, by decide, rfl, uX7, tyX7_ok, nmX7, rfl, rfl, Or.inl ⟨by rw [h]; exact tW1 198 (by decide +kernel) rfl, fun _ => h.symm⟩⟩
theorem fX7_26 {m : GM} (h : (gy m).cls = RX7) : gFL m 26 7 3 (.object "RugPunch$History") true := ⟨RX7, TX7, 7, tyX7, rfl, by decide, rfl, uX7, tyX7_ok, nmX7, rfl, rfl, Or.inl ⟨by rw [h]; exact tW1 199 (by decide +kernel) rfl, fun _ => h.symm⟩⟩
theorem fX7_33 {m : GM} (h : (gy m).cls = RX7) : gFL m 33 7 4 (.object "RugPunch$Script") true := ⟨RX7, TX7, 7, tyX7, rfl, by decide, rfl, uX7, tyX7_ok, nmX7, rfl, rfl, Or.inl ⟨by rw [h]; exact tW1 200 (by decide +kernel) rfl, fun _ => h.symm⟩⟩
theorem fX7_40 {m : GM} (h : (gy m).cls = RX7) : gFL m 40 7 5 (.object "RugPunch$Player") true := ⟨RX7, TX7, 7, tyX7, rfl, by decide, rfl, uX7, tyX7_ok, nmX7, rfl, rfl, Or.inl ⟨by rw [h]; exact tW1 201 (by decide +kernel) rfl, fun _ => h.symm⟩⟩
theorem fX7_47 {m : GM} (h : (gy m).cls = RX7) : gFL m 47 7 6 (.object "RugPunch$Areas") true := ⟨RX7, TX7, 7, tyX7, rfl, by decide, rfl, uX7, tyX7_ok, nmX7, rfl, rfl, Or.inl ⟨by rw [h]; exact tW1 202 (by decide +kernel) rfl, fun _ => h.symm⟩⟩
theorem fX7_55 {m : GM} (h : (gy m).cls = RX7) : gFL m 55 5 1 (.int) false := ⟨RX5, TX5, 2, tyX5, rfl, by decide, rfl, uX5, tyX5_ok, nmX5, rfl, rfl, Or.inr ⟨Or.inr trivial, "RugPunch", by rw [h]; exact tN1 80 (by decide +kernel) rfl⟩⟩
theorem fX7_78 {m : GM} (h : (gy m).cls = RX7) : gFL m 78 4 0 (.object "RugPunch$Canvas") true := ⟨RX4, TX4, 9, tyX4, rfl, by decide, rfl, uX4, tyX4_ok, nmX4, rfl, rfl, Or.inr ⟨Or.inr trivial, "RugPunch", by rw [h]; exact tN1 90 (by decide +kernel) rfl⟩⟩
theorem fX7_124 {m : GM} (h : (gy m).cls = RX7) : gFL m 124 4 3 (.int) false := ⟨RX4, TX4, 9, tyX4, rfl, by decide, rfl, uX4, tyX4_ok, nmX4, rfl, rfl, Or.inr ⟨Or.inr trivial, "RugPunch", by rw [h]; exact tN1 95 (by decide +kernel) rfl⟩⟩
theorem fX7_127 {m : GM} (h : (gy m).cls = RX7) : gFL m 127 4 4 (.int) false := ⟨RX4, TX4, 9, tyX4, rfl, by decide, rfl, uX4, tyX4_ok, nmX4, rfl, rfl, Or.inr ⟨Or.inr trivial, "RugPunch", by rw [h]; exact tN1 97 (by decide +kernel) rfl⟩⟩
theorem fX7_130 {m : GM} (h : (gy m).cls = RX7) : gFL m 130 4 5 (.int) false := ⟨RX4, TX4, 9, tyX4, rfl, by decide, rfl, uX4, tyX4_ok, nmX4, rfl, rfl, Or.inr ⟨Or.inr trivial, "RugPunch", by rw [h]; exact tN1 99 (by decide +kernel) rfl⟩⟩
theorem fX7_133 {m : GM} (h : (gy m).cls = RX7) : gFL m 133 4 6 (.int) false := ⟨RX4, TX4, 9, tyX4, rfl, by decide, rfl, uX4, tyX4_ok, nmX4, rfl, rfl, Or.inr ⟨Or.inr trivial, "RugPunch", by rw [h]; exact tN1 102 (by decide +kernel) rfl⟩⟩
theorem fX7_136 {m : GM} (h : (gy m).cls = RX7) : gFL m 136 4 7 (.int) false := ⟨RX4, TX4, 9, tyX4, rfl, by decide, rfl, uX4, tyX4_ok, nmX4, rfl, rfl, Or.inr ⟨Or.inr trivial, "RugPunch", by rw [h]; exact tN1 104 (by decide +kernel) rfl⟩⟩
theorem fX7_147 {m : GM} (h : (gy m).cls = RX7) : gFL m 147 4 1 (.object "RugPunch$Yarn") true := ⟨RX4, TX4, 9, tyX4, rfl, by decide, rfl, uX4, tyX4_ok, nmX4, rfl, rfl, Or.inr ⟨Or.inr trivial, "RugPunch", by rw [h]; exact tN1 92 (by decide +kernel) rfl⟩⟩
theorem fX7_174 {m : GM} (h : (gy m).cls = RX7) : gFL m 174 4 8 (.int) false := ⟨RX4, TX4, 9, tyX4, rfl, by decide, rfl, uX4, tyX4_ok, nmX4, rfl, rfl, Or.inr ⟨Or.inr trivial, "RugPunch", by rw [h]; exact tN1 106 (by decide +kernel) rfl⟩⟩
theorem fX7_277 {m : GM} (h : (gy m).cls = RX7) : gFL m 277 2 2 (.int) false := ⟨RX2, TX2, 3, tyX2, rfl, by decide, rfl, uX2, tyX2_ok, nmX2, rfl, rfl, Or.inr ⟨Or.inr trivial, "RugPunch", by rw [h]; exact tN1 137 (by decide +kernel) rfl⟩⟩
theorem fX0_9 {m : GM} (h : (gy m).cls = RX0) : gFL m 9 0 0 (.array .boolean) true := ⟨RX0, TX0, 4, tyX0, rfl, by decide, rfl, uX0, tyX0_ok, nmX0, rfl, rfl, Or.inl ⟨by rw [h]; exact tW1 182 (by decide +kernel) rfl, fun _ => h.symm⟩⟩
theorem fX0_15 {m : GM} (h : (gy m).cls = RX0) : gFL m 15 0 1 (.array .int) true := ⟨RX0, TX0, 4, tyX0, rfl, by decide, rfl, uX0, tyX0_ok, nmX0, rfl, rfl, Or.inl ⟨by rw [h]; exact tW1 183 (by decide +kernel) rfl, fun _ => h.symm⟩⟩
theorem fX0_19 {m : GM} (h : (gy m).cls = RX0) : gFL m 19 0 3 (.array .int) true := ⟨RX0, TX0, 4, tyX0, rfl, by decide, rfl, uX0, tyX0_ok, nmX0, rfl, rfl, Or.inl ⟨by rw [h]; exact tW1 185 (by decide +kernel) rfl, fun _ => h.symm⟩⟩
theorem fX0_32 {m : GM} (h : (gy m).cls = RX0) : gFL m 32 0 2 (.int) false := ⟨RX0, TX0, 4, tyX0, rfl, by decide, rfl, uX0, tyX0_ok, nmX0, rfl, rfl, Or.inl ⟨by rw [h]; exact tW1 184 (by decide +kernel) rfl, fun _ => h.symm⟩⟩
theorem fX1_9 {m : GM} (h : (gy m).cls = RX1) : gFL m 9 1 0 (.array .int) true := ⟨RX1, TX1, 3, tyX1, rfl, by decide, rfl, uX1, tyX1_ok, nmX1, rfl, rfl, Or.inl ⟨by rw [h]; exact tW1 38 (by decide +kernel) rfl, fun _ => h.symm⟩⟩
theorem fX1_15 {m : GM} (h : (gy m).cls = RX1) : gFL m 15 1 1 (.array .int) true := ⟨RX1, TX1, 3, tyX1, rfl, by decide, rfl, uX1, tyX1_ok, nmX1, rfl, rfl, Or.inl ⟨by rw [h]; exact tW1 39 (by decide +kernel) rfl, fun _ => h.symm⟩⟩
theorem fX1_18 {m : GM} (h : (gy m).cls = RX1) : gFL m 18 1 2 (.array .int) true := ⟨RX1, TX1, 3, tyX1, rfl, by decide, rfl, uX1, tyX1_ok, nmX1, rfl, rfl, Or.inl ⟨by rw [h]; exact tW1 40 (by decide +kernel) rfl, fun _ => h.symm⟩⟩
theorem fX2_11 {m : GM} (h : (gy m).cls = RX2) : gFL m 11 2 0 (.array (.object "RugPunch$Rug")) true := ⟨RX2, TX2, 3, tyX2, rfl, by decide, rfl, uX2, tyX2_ok, nmX2, rfl, rfl, Or.inl ⟨by rw [h]; exact tW1 134 (by decide +kernel) rfl, fun _ => h.symm⟩⟩
theorem fX2_15 {m : GM} (h : (gy m).cls = RX2) : gFL m 15 2 2 (.int) false := ⟨RX2, TX2, 3, tyX2, rfl, by decide, rfl, uX2, tyX2_ok, nmX2, rfl, rfl, Or.inl ⟨by rw [h]; exact tW1 136 (by decide +kernel) rfl, fun _ => h.symm⟩⟩
theorem fX2_19 {m : GM} (h : (gy m).cls = RX2) : gFL m 19 2 1 (.int) false := ⟨RX2, TX2, 3, tyX2, rfl, by decide, rfl, uX2, tyX2_ok, nmX2, rfl, rfl, Or.inl ⟨by rw [h]; exact tW1 135 (by decide +kernel) rfl, fun _ => h.symm⟩⟩
theorem fX3_13 {m : GM} (h : (gy m).cls = RX3) : gFL m 13 3 0 (.array (.object "RugPunch$Script")) true := ⟨RX3, TX3, 7, tyX3, rfl, by decide, rfl, uX3, tyX3_ok, nmX3, rfl, rfl, Or.inl ⟨by rw [h]; exact tW1 154 (by decide +kernel) rfl, fun _ => h.symm⟩⟩
theorem fX3_17 {m : GM} (h : (gy m).cls = RX3) : gFL m 17 3 1 (.array .int) true := ⟨RX3, TX3, 7, tyX3, rfl, by decide, rfl, uX3, tyX3_ok, nmX3, rfl, rfl, Or.inl ⟨by rw [h]; exact tW1 155 (by decide +kernel) rfl, fun _ => h.symm⟩⟩
theorem fX3_21 {m : GM} (h : (gy m).cls = RX3) : gFL m 21 3 2 (.array .int) true := ⟨RX3, TX3, 7, tyX3, rfl, by decide, rfl, uX3, tyX3_ok, nmX3, rfl, rfl, Or.inl ⟨by rw [h]; exact tW1 156 (by decide +kernel) rfl, fun _ => h.symm⟩⟩
theorem fX3_24 {m : GM} (h : (gy m).cls = RX3) : gFL m 24 3 3 (.array .int) true := ⟨RX3, TX3, 7, tyX3, rfl, by decide, rfl, uX3, tyX3_ok, nmX3, rfl, rfl, Or.inl ⟨by rw [h]; exact tW1 157 (by decide +kernel) rfl, fun _ => h.symm⟩⟩
theorem fX3_27 {m : GM} (h : (gy m).cls = RX3) : gFL m 27 3 4 (.int) false := ⟨RX3, TX3, 7, tyX3, rfl, by decide, rfl, uX3, tyX3_ok, nmX3, rfl, rfl, Or.inl ⟨by rw [h]; exact tW1 158 (by decide +kernel) rfl, fun _ => h.symm⟩⟩
theorem fX3_31 {m : GM} (h : (gy m).cls = RX3) : gFL m 31 3 5 (.int) false := ⟨RX3, TX3, 7, tyX3, rfl, by decide, rfl, uX3, tyX3_ok, nmX3, rfl, rfl, Or.inl ⟨by rw [h]; exact tW1 159 (by decide +kernel) rfl, fun _ => h.symm⟩⟩
theorem fX3_34 {m : GM} (h : (gy m).cls = RX3) : gFL m 34 3 6 (.int) false := ⟨RX3, TX3, 7, tyX3, rfl, by decide, rfl, uX3, tyX3_ok, nmX3, rfl, rfl, Or.inl ⟨by rw [h]; exact tW1 160 (by decide +kernel) rfl, fun _ => h.symm⟩⟩
theorem fX3_42 {m : GM} (h : (gy m).cls = RX3) : gFL m 42 5 1 (.int) false := ⟨RX5, TX5, 2, tyX5, rfl, by decide, rfl, uX5, tyX5_ok, nmX5, rfl, rfl, Or.inr ⟨Or.inr trivial, "RugPunch", by rw [h]; exact tN1 81 (by decide +kernel) rfl⟩⟩
theorem fX3_83 {m : GM} (h : (gy m).cls = RX3) : gFL m 83 4 6 (.int) false := ⟨RX4, TX4, 9, tyX4, rfl, by decide, rfl, uX4, tyX4_ok, nmX4, rfl, rfl, Or.inr ⟨Or.inr trivial, "RugPunch", by rw [h]; exact tN1 101 (by decide +kernel) rfl⟩⟩
theorem fX4_12 {m : GM} (h : (gy m).cls = RX4) : gFL m 12 4 0 (.object "RugPunch$Canvas") true := ⟨RX4, TX4, 9, tyX4, rfl, by decide, rfl, uX4, tyX4_ok, nmX4, rfl, rfl, Or.inl ⟨by rw [h]; exact tW1 89 (by decide +kernel) rfl, fun _ => h.symm⟩⟩
theorem fX4_21 {m : GM} (h : (gy m).cls = RX4) : gFL m 21 4 1 (.object "RugPunch$Yarn") true := ⟨RX4, TX4, 9, tyX4, rfl, by decide, rfl, uX4, tyX4_ok, nmX4, rfl, rfl, Or.inl ⟨by rw [h]; exact tW1 91 (by decide +kernel) rfl, fun _ => h.symm⟩⟩
theorem fX4_27 {m : GM} (h : (gy m).cls = RX4) : gFL m 27 4 2 (.array (.object "RugPunch$Script")) true := ⟨RX4, TX4, 9, tyX4, rfl, by decide, rfl, uX4, tyX4_ok, nmX4, rfl, rfl, Or.inl ⟨by rw [h]; exact tW1 93 (by decide +kernel) rfl, fun _ => h.symm⟩⟩
theorem fX4_31 {m : GM} (h : (gy m).cls = RX4) : gFL m 31 4 5 (.int) false := ⟨RX4, TX4, 9, tyX4, rfl, by decide, rfl, uX4, tyX4_ok, nmX4, rfl, rfl, Or.inl ⟨by rw [h]; exact tW1 98 (by decide +kernel) rfl, fun _ => h.symm⟩⟩
theorem fX4_35 {m : GM} (h : (gy m).cls = RX4) : gFL m 35 4 6 (.int) false := ⟨RX4, TX4, 9, tyX4, rfl, by decide, rfl, uX4, tyX4_ok, nmX4, rfl, rfl, Or.inl ⟨by rw [h]; exact tW1 100 (by decide +kernel) rfl, fun _ => h.symm⟩⟩
theorem fX4_50 {m : GM} (h : (gy m).cls = RX4) : gFL m 50 4 3 (.int) false := ⟨RX4, TX4, 9, tyX4, rfl, by decide, rfl, uX4, tyX4_ok, nmX4, rfl, rfl, Or.inl ⟨by rw [h]; exact tW1 94 (by decide +kernel) rfl, fun _ => h.symm⟩⟩
theorem fX4_53 {m : GM} (h : (gy m).cls = RX4) : gFL m 53 4 4 (.int) false := ⟨RX4, TX4, 9, tyX4, rfl, by decide, rfl, uX4, tyX4_ok, nmX4, rfl, rfl, Or.inl ⟨by rw [h]; exact tW1 96 (by decide +kernel) rfl, fun _ => h.symm⟩⟩
theorem fX4_56 {m : GM} (h : (gy m).cls = RX4) : gFL m 56 4 7 (.int) false := ⟨RX4, TX4, 9, tyX4, rfl, by decide, rfl, uX4, tyX4_ok, nmX4, rfl, rfl, Or.inl ⟨by rw [h]; exact tW1 103 (by decide +kernel) rfl, fun _ => h.symm⟩⟩
theorem fX4_59 {m : GM} (h : (gy m).cls = RX4) : gFL m 59 4 8 (.int) false := ⟨RX4, TX4, 9, tyX4, rfl, by decide, rfl, uX4, tyX4_ok, nmX4, rfl, rfl, Or.inl ⟨by rw [h]; exact tW1 105 (by decide +kernel) rfl, fun _ => h.symm⟩⟩
theorem fX4_65 {m : GM} (h : (gy m).cls = RX4) : gFL m 65 5 1 (.int) false := ⟨RX5, TX5, 2, tyX5, rfl, by decide, rfl, uX5, tyX5_ok, nmX5, rfl, rfl, Or.inr ⟨Or.inr trivial, "RugPunch", by rw [h]; exact tN1 82 (by decide +kernel) rfl⟩⟩
theorem fX5_9 {m : GM} (h : (gy m).cls = RX5) : gFL m 9 5 0 (.array .char) true := ⟨RX5, TX5, 2, tyX5, rfl, by decide, rfl, uX5, tyX5_ok, nmX5, rfl, rfl, Or.inl ⟨by rw [h]; exact tW1 78 (by decide +kernel) rfl, fun _ => h.symm⟩⟩
theorem fX5_15 {m : GM} (h : (gy m).cls = RX5) : gFL m 15 5 1 (.int) false := ⟨RX5, TX5, 2, tyX5, rfl, by decide, rfl, uX5, tyX5_ok, nmX5, rfl, rfl, Or.inl ⟨by rw [h]; exact tW1 79 (by decide +kernel) rfl, fun _ => h.symm⟩⟩
theorem fX6_9 {m : GM} (h : (gy m).cls = RX6) : gFL m 9 6 0 (.array .int) true := ⟨RX6, TX6, 5, tyX6, rfl, by decide, rfl, uX6, tyX6_ok, nmX6, rfl, rfl, Or.inl ⟨by rw [h]; exact tW1 55 (by decide +kernel) rfl, fun _ => h.symm⟩⟩
theorem fX6_15 {m : GM} (h : (gy m).cls = RX6) : gFL m 15 6 1 (.array .int) true := ⟨RX6, TX6, 5, tyX6, rfl, by decide, rfl, uX6, tyX6_ok, nmX6, rfl, rfl, Or.inl ⟨by rw [h]; exact tW1 56 (by decide +kernel) rfl, fun _ => h.symm⟩⟩
theorem fX6_18 {m : GM} (h : (gy m).cls = RX6) : gFL m 18 6 2 (.array .int) true := ⟨RX6, TX6, 5, tyX6, rfl, by decide, rfl, uX6, tyX6_ok, nmX6, rfl, rfl, Or.inl ⟨by rw [h]; exact tW1 57 (by decide +kernel) rfl, fun _ => h.symm⟩⟩
theorem fX6_21 {m : GM} (h : (gy m).cls = RX6) : gFL m 21 6 3 (.array .int) true := ⟨RX6, TX6, 5, tyX6, rfl, by decide, rfl, uX6, tyX6_ok, nmX6, rfl, rfl, Or.inl ⟨by rw [h]; exact tW1 58 (by decide +kernel) rfl, fun _ => h.symm⟩⟩
theorem fX6_24 {m : GM} (h : (gy m).cls = RX6) : gFL m 24 6 4 (.array .int) true := ⟨RX6, TX6, 5, tyX6, rfl, by decide, rfl, uX6, tyX6_ok, nmX6, rfl, rfl, Or.inl ⟨by rw [h]; exact tW1 59 (by decide +kernel) rfl, fun _ => h.symm⟩⟩
theorem fX8_7 {m : GM} (h : (gy m).cls = RX8) : gFL m 7 8 1 (.array .int) true := ⟨RX8, TX8, 20, tyX8, rfl, by decide, rfl, uX8, tyX8_ok, nmX8, rfl, rfl, Or.inl ⟨by rw [h]; exact tW5 140 (by decide +kernel) rfl, fun _ => h.symm⟩⟩
theorem fX8_13 {m : GM} (h : (gy m).cls = RX8) : gFL m 13 8 2 (.array .int) true := ⟨RX8, TX8, 20, tyX8, rfl, by decide, rfl, uX8, tyX8_ok, nmX8, rfl, rfl, Or.inl ⟨by rw [h]; exact tW5 141 (by decide +kernel) rfl, fun _ => h.symm⟩⟩
theorem fX8_16 {m : GM} (h : (gy m).cls = RX8) : gFL m 16 8 3 (.array .int) true := ⟨RX8, TX8, 20, tyX8, rfl, by decide, rfl, uX8, tyX8_ok, nmX8, rfl, rfl, Or.inl ⟨by rw [h]; exact tW5 142 (by decide +kernel) rfl, fun _ => h.symm⟩⟩
theorem fX8_19 {m : GM} (h : (gy m).cls = RX8) : gFL m 19 8 4 (.array .int) true := ⟨RX8, TX8, 20, tyX8, rfl, by decide, rfl, uX8, tyX8_ok, nmX8, rfl, rfl, Or.inl ⟨by rw [h]; exact tW5 143 (by decide +kernel) rfl, fun _ => h.symm⟩⟩
theorem fX8_22 {m : GM} (h : (gy m).cls = RX8) : gFL m 22 8 5 (.array .int) true := ⟨RX8, TX8, 20, tyX8, rfl, by decide, rfl, uX8, tyX8_ok, nmX8, rfl, rfl, Or.inl ⟨by rw [h]; exact tW5 144 (by decide +kernel) rfl, fun _ => h.symm⟩⟩
theorem fX8_25 {m : GM} (h : (gy m).cls = RX8) : gFL m 25 8 6 (.array .int) true := ⟨RX8, TX8, 20, tyX8, rfl, by decide, rfl, uX8, tyX8_ok, nmX8, rfl, rfl, Or.inl ⟨by rw [h]; exact tW5 145 (by decide +kernel) rfl, fun _ => h.symm⟩⟩
theorem fX8_28 {m : GM} (h : (gy m).cls = RX8) : gFL m 28 8 7 (.array .int) true := ⟨RX8, TX8, 20, tyX8, rfl, by decide, rfl, uX8, tyX8_ok, nmX8, rfl, rfl, Or.inl ⟨by rw [h]; exact tW5 146 (by decide +kernel) rfl, fun _ => h.symm⟩⟩
theorem fX8_31 {m : GM} (h : (gy m).cls = RX8) : gFL m 31 8 8 (.array .int) true := ⟨RX8, TX8, 20, tyX8, rfl, by decide, rfl, uX8, tyX8_ok, nmX8, rfl, rfl, Or.inl ⟨by rw [h]; exact tW5 147 (by decide +kernel) rfl, fun _ => h.symm⟩⟩
theorem fX8_34 {m : GM} (h : (gy m).cls = RX8) : gFL m 34 8 11 (.array .int) true := ⟨RX8, TX8, 20, tyX8, rfl, by decide, rfl, uX8, tyX8_ok, nmX8, rfl, rfl, Or.inl ⟨by rw [h]; exact tW5 150 (by decide +kernel) rfl, fun _ => h.symm⟩⟩
theorem fX8_37 {m : GM} (h : (gy m).cls = RX8) : gFL m 37 8 13 (.array .int) true := ⟨RX8, TX8, 20, tyX8, rfl, by decide, rfl, uX8, tyX8_ok, nmX8, rfl, rfl, Or.inl ⟨by rw [h]; exact tW5 152 (by decide +kernel) rfl, fun _ => h.symm⟩⟩
theorem fX8_40 {m : GM} (h : (gy m).cls = RX8) : gFL m 40 8 14 (.array .boolean) true := ⟨RX8, TX8, 20, tyX8, rfl, by decide, rfl, uX8, tyX8_ok, nmX8, rfl, rfl, Or.inl ⟨by rw [h]; exact tW5 153 (by decide +kernel) rfl, fun _ => h.symm⟩⟩
theorem fX8_44 {m : GM} (h : (gy m).cls = RX8) : gFL m 44 8 15 (.array .int) true := ⟨RX8, TX8, 20, tyX8, rfl, by decide, rfl, uX8, tyX8_ok, nmX8, rfl, rfl, Or.inl ⟨by rw [h]; exact tW5 154 (by decide +kernel) rfl, fun _ => h.symm⟩⟩
theorem fX8_47 {m : GM} (h : (gy m).cls = RX8) : gFL m 47 8 0 (.int) false := ⟨RX8, TX8, 20, tyX8, rfl, by decide, rfl, uX8, tyX8_ok, nmX8, rfl, rfl, Or.inl ⟨by rw [h]; exact tW5 139 (by decide +kernel) rfl, fun _ => h.symm⟩⟩
theorem fX8_102 {m : GM} (h : (gy m).cls = RX8) : gFL m 102 8 9 (.int) false := ⟨RX8, TX8, 20, tyX8, rfl, by decide, rfl, uX8, tyX8_ok, nmX8, rfl, rfl, Or.inl ⟨by rw [h]; exact tW5 148 (by decide +kernel) rfl, fun _ => h.symm⟩⟩
theorem fX8_105 {m : GM} (h : (gy m).cls = RX8) : gFL m 105 8 10 (.int) false := ⟨RX8, TX8, 20, tyX8, rfl, by decide, rfl, uX8, tyX8_ok, nmX8, rfl, rfl, Or.inl ⟨by rw [h]; exact tW5 149 (by decide +kernel) rfl, fun _ => h.symm⟩⟩
theorem fX8_138 {m : GM} (h : (gy m).cls = RX8) : gFL m 138 8 12 (.int) false := ⟨RX8, TX8, 20, tyX8, rfl, by decide, rfl, uX8, tyX8_ok, nmX8, rfl, rfl, Or.inl ⟨by rw [h]; exact tW5 151 (by decide +kernel) rfl, fun _ => h.symm⟩⟩
theorem fX8_146 {m : GM} (h : (gy m).cls = RX8) : gFL m 146 8 16 (.int) false := ⟨RX8, TX8, 20, tyX8, rfl, by decide, rfl, uX8, tyX8_ok, nmX8, rfl, rfl, Or.inl ⟨by rw [h]; exact tW5 155 (by decide +kernel) rfl, fun _ => h.symm⟩⟩
theorem fX8_153 {m : GM} (h : (gy m).cls = RX8) : gFL m 153 8 17 (.int) false := ⟨RX8, TX8, 20, tyX8, rfl, by decide, rfl, uX8, tyX8_ok, nmX8, rfl, rfl, Or.inl ⟨by rw [h]; exact tW5 156 (by decide +kernel) rfl, fun _ => h.symm⟩⟩
theorem fX8_156 {m : GM} (h : (gy m).cls = RX8) : gFL m 156 8 18 (.boolean) false := ⟨RX8, TX8, 20, tyX8, rfl, by decide, rfl, uX8, tyX8_ok, nmX8, rfl, rfl, Or.inl ⟨by rw [h]; exact tW5 157 (by decide +kernel) rfl, fun _ => h.symm⟩⟩
theorem fX8_170 {m : GM} (h : (gy m).cls = RX8) : gFL m 170 8 19 (.int) false := ⟨RX8, TX8, 20, tyX8, rfl, by decide, rfl, uX8, tyX8_ok, nmX8, rfl, rfl, Or.inl ⟨by rw [h]; exact tW5 158 (by decide +kernel) rfl, fun _ => h.symm⟩⟩
theorem kJ_abs : gCal mJ_abs 1 := ⟨tW5 60 rfl rfl, tW1 16 (by decide +kernel) rfl, by decide, by decide +kernel⟩
theorem kJ_floorMod : gCal mJ_floorMod 2 := ⟨tW2 105 rfl rfl, tW1 16 (by decide +kernel) rfl, by decide, by decide +kernel⟩
theorem kJ_max : gCal mJ_max 2 := ⟨tW4 38 rfl rfl, tW1 16 (by decide +kernel) rfl, by decide, by decide +kernel⟩
theorem kJ_min : gCal mJ_min 2 := ⟨tW4 41 rfl rfl, tW1 16 (by decide +kernel) rfl, by decide, by decide +kernel⟩
theorem kL_append : gCal mL_append 3 := ⟨tW2 205 rfl rfl, tW1 0 (by decide +kernel) rfl, by decide, by decide +kernel⟩
theorem kL_areasByJoining : gCal mL_areasByJoining 3 := ⟨tW3 148 rfl rfl, tW1 0 (by decide +kernel) rfl, by decide, by decide +kernel⟩
theorem kL_areasBySpreading : gCal mL_areasBySpreading 3 := ⟨tW3 123 rfl rfl, tW1 0 (by decide +kernel) rfl, by decide, by decide +kernel⟩
theorem kL_coneOf : gCal mL_coneOf 3 := ⟨tW3 167 rfl rfl, tW1 0 (by decide +kernel) rfl, by decide, by decide +kernel⟩
theorem kL_cut : gCal mL_cut 2 := ⟨tW4 71 rfl rfl, tW1 0 (by decide +kernel) rfl, by decide, by decide +kernel⟩
theorem kL_drawnByCone : gCal mL_drawnByCone 3 := ⟨tW3 175 rfl rfl, tW1 0 (by decide +kernel) rfl, by decide, by decide +kernel⟩
theorem kL_drawnByRug : gCal mL_drawnByRug 3 := ⟨tW3 183 rfl rfl, tW1 0 (by decide +kernel) rfl, by decide, by decide +kernel⟩
theorem kL_ease : gCal mL_ease 2 := ⟨tW4 103 rfl rfl, tW1 0 (by decide +kernel) rfl, by decide, by decide +kernel⟩
theorem kL_fillPlan : gCal mL_fillPlan 5 := ⟨tW4 27 rfl rfl, tW1 0 (by decide +kernel) rfl, by decide, by decide +kernel⟩
theorem kL_heightOf : gCal mL_heightOf 3 := ⟨tW3 101 rfl rfl, tW1 0 (by decide +kernel) rfl, by decide, by decide +kernel⟩
theorem kL_isSkipped : gCal mL_isSkipped 3 := ⟨tW3 112 rfl rfl, tW1 0 (by decide +kernel) rfl, by decide, by decide +kernel⟩
theorem kL_jump : gCal mL_jump 3 := ⟨tW4 92 rfl rfl, tW1 0 (by decide +kernel) rfl, by decide, by decide +kernel⟩
theorem kL_loopOf : gCal mL_loopOf 3 := ⟨tW3 93 rfl rfl, tW1 0 (by decide +kernel) rfl, by decide, by decide +kernel⟩
theorem kL_loopsBy : gCal mL_loopsBy 2 := ⟨tW5 78 rfl rfl, tW1 0 (by decide +kernel) rfl, by decide, by decide +kernel⟩
theorem kL_mend : gCal mL_mend 3 := ⟨tW4 145 rfl rfl, tW1 0 (by decide +kernel) rfl, by decide, by decide +kernel⟩
theorem kL_motifLength : gCal mL_motifLength 3 := ⟨tW3 229 rfl rfl, tW1 0 (by decide +kernel) rfl, by decide, by decide +kernel⟩
theorem kL_motifSign : gCal mL_motifSign 4 := ⟨tW4 4 rfl rfl, tW1 0 (by decide +kernel) rfl, by decide, by decide +kernel⟩
theorem kL_nearestByCells : gCal mL_nearestByCells 3 := ⟨tW5 67 rfl rfl, tW1 0 (by decide +kernel) rfl, by decide, by decide +kernel⟩
theorem kL_nearestByRings : gCal mL_nearestByRings 3 := ⟨tW5 45 rfl rfl, tW1 0 (by decide +kernel) rfl, by decide, by decide +kernel⟩
theorem kL_neededFor : gCal mL_neededFor 3 := ⟨tW3 210 rfl rfl, tW1 0 (by decide +kernel) rfl, by decide, by decide +kernel⟩
theorem kL_needleBy : gCal mL_needleBy 2 := ⟨tW5 89 rfl rfl, tW1 0 (by decide +kernel) rfl, by decide, by decide +kernel⟩
theorem kL_place : gCal mL_place 4 := ⟨tW4 125 rfl rfl, tW1 0 (by decide +kernel) rfl, by decide, by decide +kernel⟩
theorem kL_planOf : gCal mL_planOf 3 := ⟨tW3 65 rfl rfl, tW1 0 (by decide +kernel) rfl, by decide, by decide +kernel⟩
theorem kL_restore : gCal mL_restore 3 := ⟨tW5 127 rfl rfl, tW1 0 (by decide +kernel) rfl, by decide, by decide +kernel⟩
theorem kL_run : gCal mL_run 3 := ⟨tW4 214 rfl rfl, tW1 0 (by decide +kernel) rfl, by decide, by decide +kernel⟩
theorem kL_runText : gCal mL_runText 2 := ⟨tW5 19 rfl rfl, tW1 0 (by decide +kernel) rfl, by decide, by decide +kernel⟩
theorem kL_save : gCal mL_save 3 := ⟨tW5 116 rfl rfl, tW1 0 (by decide +kernel) rfl, by decide, by decide +kernel⟩
theorem kL_setHeight : gCal mL_setHeight 3 := ⟨tW4 118 rfl rfl, tW1 0 (by decide +kernel) rfl, by decide, by decide +kernel⟩
theorem kL_setPlan : gCal mL_setPlan 4 := ⟨tW4 16 rfl rfl, tW1 0 (by decide +kernel) rfl, by decide, by decide +kernel⟩
theorem kL_sew : gCal mL_sew 3 := ⟨tW4 84 rfl rfl, tW1 0 (by decide +kernel) rfl, by decide, by decide +kernel⟩
theorem kL_shear : gCal mL_shear 3 := ⟨tW4 180 rfl rfl, tW1 0 (by decide +kernel) rfl, by decide, by decide +kernel⟩
theorem kL_simulate : gCal mL_simulate 4 := ⟨tW5 103 rfl rfl, tW1 0 (by decide +kernel) rfl, by decide, by decide +kernel⟩
theorem kL_store : gCal mL_store 3 := ⟨tW4 191 rfl rfl, tW1 0 (by decide +kernel) rfl, by decide, by decide +kernel⟩
theorem kL_thread : gCal mL_thread 3 := ⟨tW4 45 rfl rfl, tW1 0 (by decide +kernel) rfl, by decide, by decide +kernel⟩
theorem kL_undo : gCal mL_undo 2 := ⟨tW5 26 rfl rfl, tW1 0 (by decide +kernel) rfl, by decide, by decide +kernel⟩
theorem kL_unpick : gCal mL_unpick 3 := ⟨tW4 163 rfl rfl, tW1 0 (by decide +kernel) rfl, by decide, by decide +kernel⟩
theorem kL_untilKnot : gCal mL_untilKnot 3 := ⟨tW3 222 rfl rfl, tW1 0 (by decide +kernel) rfl, by decide, by decide +kernel⟩
theorem kL_wasteOf : gCal mL_wasteOf 3 := ⟨tW3 199 rfl rfl, tW1 0 (by decide +kernel) rfl, by decide, by decide +kernel⟩
theorem kL_whyNoMending : gCal mL_whyNoMending 3 := ⟨tW5 38 rfl rfl, tW1 0 (by decide +kernel) rfl, by decide, by decide +kernel⟩
theorem kL_wind : gCal mL_wind 4 := ⟨tW4 133 rfl rfl, tW1 0 (by decide +kernel) rfl, by decide, by decide +kernel⟩
theorem kL_yarnBy : gCal mL_yarnBy 3 := ⟨tW5 96 rfl rfl, tW1 0 (by decide +kernel) rfl, by decide, by decide +kernel⟩
theorem kX0_chiefOf : gCal mX0_chiefOf 1 := ⟨tW3 164 rfl rfl, tW1 8 (by decide +kernel) rfl, by decide, by decide +kernel⟩
theorem jX0_chiefOf : gIn mX0_chiefOf := ⟨tW3 163 (by decide +kernel) rfl, tP (List.mem_of_getElem? (i := 7) (by decide +kernel)) rfl⟩
theorem kX0_countJoining : gCal mX0_countJoining 2 := ⟨tW3 156 rfl rfl, tW1 8 (by decide +kernel) rfl, by decide, by decide +kernel⟩
theorem jX0_countJoining : gIn mX0_countJoining := ⟨tW3 154 (by decide +kernel) rfl, tW3 155 (by decide +kernel) rfl⟩
theorem kX0_countSpreading : gCal mX0_countSpreading 2 := ⟨tW3 135 rfl rfl, tW1 8 (by decide +kernel) rfl, by decide, by decide +kernel⟩
theorem jX0_countSpreading : gIn mX0_countSpreading := ⟨tW3 133 (by decide +kernel) rfl, tW3 134 (by decide +kernel) rfl⟩
theorem kX0_init : gCal mX0_init 0 := ⟨tW1 180 rfl rfl, tW1 8 (by decide +kernel) rfl, by decide, by decide +kernel⟩
theorem kX0_joinBeside : gCal mX0_joinBeside 3 := ⟨tW3 160 rfl rfl, tW1 8 (by decide +kernel) rfl, by decide, by decide +kernel⟩
theorem jX0_joinBeside : gIn mX0_joinBeside := ⟨tW3 159 (by decide +kernel) rfl, tP (List.mem_of_getElem? (i := 6) (by decide +kernel)) rfl⟩
theorem kX0_reach : gCal mX0_reach 1 := ⟨tW3 144 rfl rfl, tW1 8 (by decide +kernel) rfl, by decide, by decide +kernel⟩
theorem jX0_reach : gIn mX0_reach := ⟨tW3 143 (by decide +kernel) rfl, tP (List.mem_of_getElem? (i := 5) (by decide +kernel)) rfl⟩
theorem kX0_spreadFrom : gCal mX0_spreadFrom 1 := ⟨tW3 140 rfl rfl, tW1 8 (by decide +kernel) rfl, by decide, by decide +kernel⟩
theorem jX0_spreadFrom : gIn mX0_spreadFrom := ⟨tW3 139 (by decide +kernel) rfl, tP (List.mem_of_getElem? (i := 4) (by decide +kernel)) rfl⟩
theorem kX1_clearCell : gCal mX1_clearCell 1 := ⟨tW4 177 rfl rfl, tW1 3 (by decide +kernel) rfl, by decide, by decide +kernel⟩
theorem jX1_clearCell : gIn mX1_clearCell := ⟨tW4 175 (by decide +kernel) rfl, tW4 176 (by decide +kernel) rfl⟩
theorem kX1_copyFrom : gCal mX1_copyFrom 1 := ⟨tW2 114 rfl rfl, tW1 3 (by decide +kernel) rfl, by decide, by decide +kernel⟩
theorem jX1_copyFrom : gIn mX1_copyFrom := ⟨tW2 112 (by decide +kernel) rfl, tW2 113 (by decide +kernel) rfl⟩
theorem kX1_countLoops : gCal mX1_countLoops 0 := ⟨tW2 34 rfl rfl, tW1 3 (by decide +kernel) rfl, by decide, by decide +kernel⟩
theorem jX1_countLoops : gIn mX1_countLoops := ⟨tW2 32 (by decide +kernel) rfl, tW2 33 (by decide +kernel) rfl⟩
theorem kX1_countMissing : gCal mX1_countMissing 0 := ⟨tW2 14 rfl rfl, tW1 3 (by decide +kernel) rfl, by decide, by decide +kernel⟩
theorem jX1_countMissing : gIn mX1_countMissing := ⟨tW2 12 (by decide +kernel) rfl, tW2 13 (by decide +kernel) rfl⟩
theorem kX1_countMissingOf : gCal mX1_countMissingOf 1 := ⟨tW3 218 rfl rfl, tW1 3 (by decide +kernel) rfl, by decide, by decide +kernel⟩
theorem jX1_countMissingOf : gIn mX1_countMissingOf := ⟨tW3 216 (by decide +kernel) rfl, tW3 217 (by decide +kernel) rfl⟩
theorem kX1_countRight : gCal mX1_countRight 0 := ⟨tW2 6 rfl rfl, tW1 3 (by decide +kernel) rfl, by decide, by decide +kernel⟩
theorem jX1_countRight : gIn mX1_countRight := ⟨tW2 4 (by decide +kernel) rfl, tW2 5 (by decide +kernel) rfl⟩
theorem kX1_countSkipped : gCal mX1_countSkipped 0 := ⟨tW2 42 rfl rfl, tW1 3 (by decide +kernel) rfl, by decide, by decide +kernel⟩
theorem jX1_countSkipped : gIn mX1_countSkipped := ⟨tW2 40 (by decide +kernel) rfl, tW2 41 (by decide +kernel) rfl⟩
theorem kX1_fillBetween : gCal mX1_fillBetween 3 := ⟨tW4 35 rfl rfl, tW1 3 (by decide +kernel) rfl, by decide, by decide +kernel⟩
theorem jX1_fillBetween : gIn mX1_fillBetween := ⟨tW4 33 (by decide +kernel) rfl, tW4 34 (by decide +kernel) rfl⟩
theorem kX1_firstInRing : gCal mX1_firstInRing 3 := ⟨tW5 57 rfl rfl, tW1 3 (by decide +kernel) rfl, by decide, by decide +kernel⟩
theorem jX1_firstInRing : gIn mX1_firstInRing := ⟨tW5 56 (by decide +kernel) rfl, tP (List.mem_of_getElem? (i := 15) (by decide +kernel)) rfl⟩
theorem kX1_heightAt : gCal mX1_heightAt 1 := ⟨tW3 109 rfl rfl, tW1 3 (by decide +kernel) rfl, by decide, by decide +kernel⟩
theorem jX1_heightAt : gIn mX1_heightAt := ⟨tW3 107 (by decide +kernel) rfl, tW3 108 (by decide +kernel) rfl⟩
theorem kX1_init : gCal mX1_init 0 := ⟨tW1 36 rfl rfl, tW1 3 (by decide +kernel) rfl, by decide, by decide +kernel⟩
theorem kX1_loopAt : gCal mX1_loopAt 1 := ⟨tW2 26 rfl rfl, tW1 3 (by decide +kernel) rfl, by decide, by decide +kernel⟩
theorem jX1_loopAt : gIn mX1_loopAt := ⟨tW2 24 (by decide +kernel) rfl, tW2 25 (by decide +kernel) rfl⟩
theorem kX1_missesAt : gCal mX1_missesAt 3 := ⟨tW5 64 rfl rfl, tW1 3 (by decide +kernel) rfl, by decide, by decide +kernel⟩
theorem jX1_missesAt : gIn mX1_missesAt := ⟨tW5 63 (by decide +kernel) rfl, tP (List.mem_of_getElem? (i := 16) (by decide +kernel)) rfl⟩
theorem kX1_missingAt : gCal mX1_missingAt 1 := ⟨tW2 18 rfl rfl, tW1 3 (by decide +kernel) rfl, by decide, by decide +kernel⟩
theorem jX1_missingAt : gIn mX1_missingAt := ⟨tW2 16 (by decide +kernel) rfl, tW2 17 (by decide +kernel) rfl⟩
theorem kX1_nearestInCells : gCal mX1_nearestInCells 2 := ⟨tW5 75 rfl rfl, tW1 3 (by decide +kernel) rfl, by decide, by decide +kernel⟩
theorem jX1_nearestInCells : gIn mX1_nearestInCells := ⟨tW5 73 (by decide +kernel) rfl, tW5 74 (by decide +kernel) rfl⟩
theorem kX1_nearestInRings : gCal mX1_nearestInRings 2 := ⟨tW5 53 rfl rfl, tW1 3 (by decide +kernel) rfl, by decide, by decide +kernel⟩
theorem jX1_nearestInRings : gIn mX1_nearestInRings := ⟨tW5 51 (by decide +kernel) rfl, tW5 52 (by decide +kernel) rfl⟩
theorem kX1_planAt : gCal mX1_planAt 1 := ⟨tW2 22 rfl rfl, tW1 3 (by decide +kernel) rfl, by decide, by decide +kernel⟩
theorem jX1_planAt : gIn mX1_planAt := ⟨tW2 20 (by decide +kernel) rfl, tW2 21 (by decide +kernel) rfl⟩
theorem kX1_putLoop : gCal mX1_putLoop 3 := ⟨tW2 183 rfl rfl, tW1 3 (by decide +kernel) rfl, by decide, by decide +kernel⟩
theorem jX1_putLoop : gIn mX1_putLoop := ⟨tW2 181 (by decide +kernel) rfl, tW2 182 (by decide +kernel) rfl⟩
theorem kX1_putSkipped : gCal mX1_putSkipped 1 := ⟨tW2 179 rfl rfl, tW1 3 (by decide +kernel) rfl, by decide, by decide +kernel⟩
theorem jX1_putSkipped : gIn mX1_putSkipped := ⟨tW2 177 (by decide +kernel) rfl, tW2 178 (by decide +kernel) rfl⟩
theorem kX1_setPlanAt : gCal mX1_setPlanAt 2 := ⟨tW4 24 rfl rfl, tW1 3 (by decide +kernel) rfl, by decide, by decide +kernel⟩
theorem jX1_setPlanAt : gIn mX1_setPlanAt := ⟨tW4 22 (by decide +kernel) rfl, tW4 23 (by decide +kernel) rfl⟩
theorem kX1_skippedAt : gCal mX1_skippedAt 1 := ⟨tW3 120 rfl rfl, tW1 3 (by decide +kernel) rfl, by decide, by decide +kernel⟩
theorem jX1_skippedAt : gIn mX1_skippedAt := ⟨tW3 118 (by decide +kernel) rfl, tW3 119 (by decide +kernel) rfl⟩
theorem kX1_sumHeights : gCal mX1_sumHeights 0 := ⟨tW2 55 rfl rfl, tW1 3 (by decide +kernel) rfl, by decide, by decide +kernel⟩
theorem jX1_sumHeights : gIn mX1_sumHeights := ⟨tW2 53 (by decide +kernel) rfl, tW2 54 (by decide +kernel) rfl⟩
theorem kX1_yarnInLoops : gCal mX1_yarnInLoops 1 := ⟨tW3 191 rfl rfl, tW1 3 (by decide +kernel) rfl, by decide, by decide +kernel⟩
theorem jX1_yarnInLoops : gIn mX1_yarnInLoops := ⟨tW3 189 (by decide +kernel) rfl, tW3 190 (by decide +kernel) rfl⟩
theorem kX2_init : gCal mX2_init 0 := ⟨tW1 131 rfl rfl, tW1 6 (by decide +kernel) rfl, by decide, by decide +kernel⟩
theorem kX2_remember : gCal mX2_remember 1 := ⟨tW2 102 rfl rfl, tW1 6 (by decide +kernel) rfl, by decide, by decide +kernel⟩
theorem jX2_remember : gIn mX2_remember := ⟨tW2 100 (by decide +kernel) rfl, tW2 101 (by decide +kernel) rfl⟩
theorem kX2_takeBack : gCal mX2_takeBack 1 := ⟨tW5 35 rfl rfl, tW1 6 (by decide +kernel) rfl, by decide, by decide +kernel⟩
theorem jX2_takeBack : gIn mX2_takeBack := ⟨tW5 33 (by decide +kernel) rfl, tW5 34 (by decide +kernel) rfl⟩
theorem kX3_doOrder : gCal mX3_doOrder 3 := ⟨tW4 237 rfl rfl, tW1 7 (by decide +kernel) rfl, by decide, by decide +kernel⟩
theorem jX3_doOrder : gIn mX3_doOrder := ⟨tW4 236 (by decide +kernel) rfl, tP (List.mem_of_getElem? (i := 12) (by decide +kernel)) rfl⟩
theorem kX3_endGroup : gCal mX3_endGroup 1 := ⟨tW4 233 rfl rfl, tW1 7 (by decide +kernel) rfl, by decide, by decide +kernel⟩
theorem jX3_endGroup : gIn mX3_endGroup := ⟨tW4 232 (by decide +kernel) rfl, tP (List.mem_of_getElem? (i := 11) (by decide +kernel)) rfl⟩
theorem kX3_enter : gCal mX3_enter 1 := ⟨tW4 227 rfl rfl, tW1 7 (by decide +kernel) rfl, by decide, by decide +kernel⟩
theorem jX3_enter : gIn mX3_enter := ⟨tW4 226 (by decide +kernel) rfl, tP (List.mem_of_getElem? (i := 10) (by decide +kernel)) rfl⟩
theorem kX3_goTo : gCal mX3_goTo 1 := ⟨tW5 5 rfl rfl, tW1 7 (by decide +kernel) rfl, by decide, by decide +kernel⟩
theorem jX3_goTo : gIn mX3_goTo := ⟨tW5 4 (by decide +kernel) rfl, tP (List.mem_of_getElem? (i := 13) (by decide +kernel)) rfl⟩
theorem kX3_init : gCal mX3_init 0 := ⟨tW1 151 rfl rfl, tW1 7 (by decide +kernel) rfl, by decide, by decide +kernel⟩
theorem kX3_play : gCal mX3_play 2 := ⟨tW4 223 rfl rfl, tW1 7 (by decide +kernel) rfl, by decide, by decide +kernel⟩
theorem jX3_play : gIn mX3_play := ⟨tW4 221 (by decide +kernel) rfl, tW4 222 (by decide +kernel) rfl⟩
theorem kX3_signsOf : gCal mX3_signsOf 1 := ⟨tW5 1 rfl rfl, tW1 7 (by decide +kernel) rfl, by decide, by decide +kernel⟩
theorem kX3_startGroup : gCal mX3_startGroup 2 := ⟨tW5 16 rfl rfl, tW1 7 (by decide +kernel) rfl, by decide, by decide +kernel⟩
theorem jX3_startGroup : gIn mX3_startGroup := ⟨tW5 15 (by decide +kernel) rfl, tP (List.mem_of_getElem? (i := 14) (by decide +kernel)) rfl⟩
theorem kX4_copyFrom : gCal mX4_copyFrom 1 := ⟨tW2 110 rfl rfl, tW1 2 (by decide +kernel) rfl, by decide, by decide +kernel⟩
theorem jX4_copyFrom : gIn mX4_copyFrom := ⟨tW2 108 (by decide +kernel) rfl, tW2 109 (by decide +kernel) rfl⟩
theorem kX4_feelKnot : gCal mX4_feelKnot 1 := ⟨tW2 197 rfl rfl, tW1 2 (by decide +kernel) rfl, by decide, by decide +kernel⟩
theorem jX4_feelKnot : gIn mX4_feelKnot := ⟨tW2 196 (by decide +kernel) rfl, tP (List.mem_of_getElem? (i := 1) (by decide +kernel)) rfl⟩
theorem kX4_goOn : gCal mX4_goOn 0 := ⟨tW2 201 rfl rfl, tW1 2 (by decide +kernel) rfl, by decide, by decide +kernel⟩
theorem jX4_goOn : gIn mX4_goOn := ⟨tW2 200 (by decide +kernel) rfl, tP (List.mem_of_getElem? (i := 2) (by decide +kernel)) rfl⟩
theorem kX4_init : gCal mX4_init 0 := ⟨tW1 30 rfl rfl, tW1 2 (by decide +kernel) rfl, by decide, by decide +kernel⟩
theorem kX4_isTight : gCal mX4_isTight 0 := ⟨tW2 90 rfl rfl, tW1 2 (by decide +kernel) rfl, by decide, by decide +kernel⟩
theorem jX4_isTight : gIn mX4_isTight := ⟨tW2 88 (by decide +kernel) rfl, tW2 89 (by decide +kernel) rfl⟩
theorem kX4_jumpOver : gCal mX4_jumpOver 1 := ⟨tW4 100 rfl rfl, tW1 2 (by decide +kernel) rfl, by decide, by decide +kernel⟩
theorem jX4_jumpOver : gIn mX4_jumpOver := ⟨tW4 98 (by decide +kernel) rfl, tW4 99 (by decide +kernel) rfl⟩
theorem kX4_keepMotif : gCal mX4_keepMotif 2 := ⟨tW2 126 rfl rfl, tW1 2 (by decide +kernel) rfl, by decide, by decide +kernel⟩
theorem jX4_keepMotif : gIn mX4_keepMotif := ⟨tW2 124 (by decide +kernel) rfl, tW2 125 (by decide +kernel) rfl⟩
theorem kX4_mendAt : gCal mX4_mendAt 1 := ⟨tW4 160 rfl rfl, tW1 2 (by decide +kernel) rfl, by decide, by decide +kernel⟩
theorem jX4_mendAt : gIn mX4_mendAt := ⟨tW4 158 (by decide +kernel) rfl, tW4 159 (by decide +kernel) rfl⟩
theorem kX4_motifAt : gCal mX4_motifAt 1 := ⟨tW4 1 rfl rfl, tW1 2 (by decide +kernel) rfl, by decide, by decide +kernel⟩
theorem jX4_motifAt : gIn mX4_motifAt := ⟨tW3 239 (by decide +kernel) rfl, tW4 0 (by decide +kernel) rfl⟩
theorem kX4_punch : gCal mX4_punch 0 := ⟨tW2 170 rfl rfl, tW1 2 (by decide +kernel) rfl, by decide, by decide +kernel⟩
theorem jX4_punch : gIn mX4_punch := ⟨tW2 169 (by decide +kernel) rfl, tP (List.mem_of_getElem? (i := 0) (by decide +kernel)) rfl⟩
theorem kX4_reasonAgainstMending : gCal mX4_reasonAgainstMending 1 := ⟨tW4 153 rfl rfl, tW1 2 (by decide +kernel) rfl, by decide, by decide +kernel⟩
theorem jX4_reasonAgainstMending : gIn mX4_reasonAgainstMending := ⟨tW4 151 (by decide +kernel) rfl, tW4 152 (by decide +kernel) rfl⟩
theorem kX4_reasonAgainstStitch : gCal mX4_reasonAgainstStitch 0 := ⟨tW2 148 rfl rfl, tW1 2 (by decide +kernel) rfl, by decide, by decide +kernel⟩
theorem jX4_reasonAgainstStitch : gIn mX4_reasonAgainstStitch := ⟨tW2 146 (by decide +kernel) rfl, tW2 147 (by decide +kernel) rfl⟩
theorem kX4_sewUpTo : gCal mX4_sewUpTo 1 := ⟨tW2 165 rfl rfl, tW1 2 (by decide +kernel) rfl, by decide, by decide +kernel⟩
theorem jX4_sewUpTo : gIn mX4_sewUpTo := ⟨tW2 163 (by decide +kernel) rfl, tW2 164 (by decide +kernel) rfl⟩
theorem kX4_shearTo : gCal mX4_shearTo 1 := ⟨tW4 188 rfl rfl, tW1 2 (by decide +kernel) rfl, by decide, by decide +kernel⟩
theorem jX4_shearTo : gIn mX4_shearTo := ⟨tW4 186 (by decide +kernel) rfl, tW4 187 (by decide +kernel) rfl⟩
theorem kX4_tryCut : gCal mX4_tryCut 0 := ⟨tW4 64 rfl rfl, tW1 2 (by decide +kernel) rfl, by decide, by decide +kernel⟩
theorem jX4_tryCut : gIn mX4_tryCut := ⟨tW4 62 (by decide +kernel) rfl, tW4 63 (by decide +kernel) rfl⟩
theorem kX4_tryEase : gCal mX4_tryEase 0 := ⟨tW4 111 rfl rfl, tW1 2 (by decide +kernel) rfl, by decide, by decide +kernel⟩
theorem jX4_tryEase : gIn mX4_tryEase := ⟨tW4 109 (by decide +kernel) rfl, tW4 110 (by decide +kernel) rfl⟩
theorem kX4_tryThread : gCal mX4_tryThread 1 := ⟨tW4 59 rfl rfl, tW1 2 (by decide +kernel) rfl, by decide, by decide +kernel⟩
theorem jX4_tryThread : gIn mX4_tryThread := ⟨tW4 57 (by decide +kernel) rfl, tW4 58 (by decide +kernel) rfl⟩
theorem kX4_tryUnpick : gCal mX4_tryUnpick 1 := ⟨tW4 172 rfl rfl, tW1 2 (by decide +kernel) rfl, by decide, by decide +kernel⟩
theorem jX4_tryUnpick : gIn mX4_tryUnpick := ⟨tW4 170 (by decide +kernel) rfl, tW4 171 (by decide +kernel) rfl⟩
theorem kX4_turnBy : gCal mX4_turnBy 1 := ⟨tW2 135 rfl rfl, tW1 2 (by decide +kernel) rfl, by decide, by decide +kernel⟩
theorem jX4_turnBy : gIn mX4_turnBy := ⟨tW2 133 (by decide +kernel) rfl, tW2 134 (by decide +kernel) rfl⟩
theorem kX5_add : gCal mX5_add 1 := ⟨tW3 62 rfl rfl, tW1 5 (by decide +kernel) rfl, by decide, by decide +kernel⟩
theorem jX5_add : gIn mX5_add := ⟨tW3 60 (by decide +kernel) rfl, tW3 61 (by decide +kernel) rfl⟩
theorem kX5_awaitedAfter : gCal mX5_awaitedAfter 3 := ⟨tW1 232 rfl rfl, tW1 5 (by decide +kernel) rfl, by decide, by decide +kernel⟩
theorem kX5_copyFrom : gCal mX5_copyFrom 1 := ⟨tW2 130 rfl rfl, tW1 5 (by decide +kernel) rfl, by decide, by decide +kernel⟩
theorem jX5_copyFrom : gIn mX5_copyFrom := ⟨tW2 128 (by decide +kernel) rfl, tW2 129 (by decide +kernel) rfl⟩
theorem kX5_digitAt : gCal mX5_digitAt 1 := ⟨tW4 208 rfl rfl, tW1 5 (by decide +kernel) rfl, by decide, by decide +kernel⟩
theorem jX5_digitAt : gIn mX5_digitAt := ⟨tW4 206 (by decide +kernel) rfl, tW4 207 (by decide +kernel) rfl⟩
theorem kX5_endOfOrder : gCal mX5_endOfOrder 3 := ⟨tW1 238 rfl rfl, tW1 5 (by decide +kernel) rfl, by decide, by decide +kernel⟩
theorem kX5_firstError : gCal mX5_firstError 0 := ⟨tW1 229 rfl rfl, tW1 5 (by decide +kernel) rfl, by decide, by decide +kernel⟩
theorem jX5_firstError : gIn mX5_firstError := ⟨tW1 227 (by decide +kernel) rfl, tW1 228 (by decide +kernel) rfl⟩
theorem kX5_hasMotifFrom : gCal mX5_hasMotifFrom 1 := ⟨tW4 204 rfl rfl, tW1 5 (by decide +kernel) rfl, by decide, by decide +kernel⟩
theorem jX5_hasMotifFrom : gIn mX5_hasMotifFrom := ⟨tW4 202 (by decide +kernel) rfl, tW4 203 (by decide +kernel) rfl⟩
theorem kX5_init : gCal mX5_init 0 := ⟨tW1 76 rfl rfl, tW1 5 (by decide +kernel) rfl, by decide, by decide +kernel⟩
theorem kX5_signAt : gCal mX5_signAt 1 := ⟨tW4 13 rfl rfl, tW1 5 (by decide +kernel) rfl, by decide, by decide +kernel⟩
theorem jX5_signAt : gIn mX5_signAt := ⟨tW4 11 (by decide +kernel) rfl, tW4 12 (by decide +kernel) rfl⟩
theorem kX5_startOfOrder : gCal mX5_startOfOrder 2 := ⟨tW1 235 rfl rfl, tW1 5 (by decide +kernel) rfl, by decide, by decide +kernel⟩
theorem kX6_addWaste : gCal mX6_addWaste 2 := ⟨tW4 115 rfl rfl, tW1 4 (by decide +kernel) rfl, by decide, by decide +kernel⟩
theorem jX6_addWaste : gIn mX6_addWaste := ⟨tW4 113 (by decide +kernel) rfl, tW4 114 (by decide +kernel) rfl⟩
theorem kX6_copyFrom : gCal mX6_copyFrom 1 := ⟨tW2 121 rfl rfl, tW1 4 (by decide +kernel) rfl, by decide, by decide +kernel⟩
theorem jX6_copyFrom : gIn mX6_copyFrom := ⟨tW2 119 (by decide +kernel) rfl, tW2 120 (by decide +kernel) rfl⟩
theorem kX6_draw : gCal mX6_draw 2 := ⟨tW2 191 rfl rfl, tW1 4 (by decide +kernel) rfl, by decide, by decide +kernel⟩
theorem jX6_draw : gIn mX6_draw := ⟨tW2 189 (by decide +kernel) rfl, tW2 190 (by decide +kernel) rfl⟩
theorem kX6_drawEnd : gCal mX6_drawEnd 1 := ⟨tW4 68 rfl rfl, tW1 4 (by decide +kernel) rfl, by decide, by decide +kernel⟩
theorem jX6_drawEnd : gIn mX6_drawEnd := ⟨tW4 66 (by decide +kernel) rfl, tW4 67 (by decide +kernel) rfl⟩
theorem kX6_drawFloat : gCal mX6_drawFloat 2 := ⟨tW2 187 rfl rfl, tW1 4 (by decide +kernel) rfl, by decide, by decide +kernel⟩
theorem jX6_drawFloat : gIn mX6_drawFloat := ⟨tW2 185 (by decide +kernel) rfl, tW2 186 (by decide +kernel) rfl⟩
theorem kX6_drawn : gCal mX6_drawn 1 := ⟨tW2 174 rfl rfl, tW1 4 (by decide +kernel) rfl, by decide, by decide +kernel⟩
theorem jX6_drawn : gIn mX6_drawn := ⟨tW2 172 (by decide +kernel) rfl, tW2 173 (by decide +kernel) rfl⟩
theorem kX6_hasEnd : gCal mX6_hasEnd 1 := ⟨tW4 53 rfl rfl, tW1 4 (by decide +kernel) rfl, by decide, by decide +kernel⟩
theorem jX6_hasEnd : gIn mX6_hasEnd := ⟨tW4 51 (by decide +kernel) rfl, tW4 52 (by decide +kernel) rfl⟩
theorem kX6_init : gCal mX6_init 0 := ⟨tW1 53 rfl rfl, tW1 4 (by decide +kernel) rfl, by decide, by decide +kernel⟩
theorem kX6_onCone : gCal mX6_onCone 1 := ⟨tW2 153 rfl rfl, tW1 4 (by decide +kernel) rfl, by decide, by decide +kernel⟩
theorem jX6_onCone : gIn mX6_onCone := ⟨tW2 151 (by decide +kernel) rfl, tW2 152 (by decide +kernel) rfl⟩
theorem kX6_outsideLoops : gCal mX6_outsideLoops 1 := ⟨tW3 196 rfl rfl, tW1 4 (by decide +kernel) rfl, by decide, by decide +kernel⟩
theorem jX6_outsideLoops : gIn mX6_outsideLoops := ⟨tW3 194 (by decide +kernel) rfl, tW3 195 (by decide +kernel) rfl⟩
theorem kX6_putOn : gCal mX6_putOn 2 := ⟨tW4 142 rfl rfl, tW1 4 (by decide +kernel) rfl, by decide, by decide +kernel⟩
theorem jX6_putOn : gIn mX6_putOn := ⟨tW4 140 (by decide +kernel) rfl, tW4 141 (by decide +kernel) rfl⟩
theorem kX6_wasted : gCal mX6_wasted 1 := ⟨tW3 207 rfl rfl, tW1 4 (by decide +kernel) rfl, by decide, by decide +kernel⟩
theorem jX6_wasted : gIn mX6_wasted := ⟨tW3 205 (by decide +kernel) rfl, tW3 206 (by decide +kernel) rfl⟩
theorem kX7_append : gCal mX7_append 1 := ⟨tW2 211 rfl rfl, tW1 1 (by decide +kernel) rfl, by decide, by decide +kernel⟩
theorem jX7_append : gIn mX7_append := ⟨tW2 209 (by decide +kernel) rfl, tW2 210 (by decide +kernel) rfl⟩
theorem kX7_areasByJoining : gCal mX7_areasByJoining 1 := ⟨tW3 152 rfl rfl, tW1 1 (by decide +kernel) rfl, by decide, by decide +kernel⟩
theorem jX7_areasByJoining : gIn mX7_areasByJoining := ⟨tW3 150 (by decide +kernel) rfl, tW3 151 (by decide +kernel) rfl⟩
theorem kX7_areasBySpreading : gCal mX7_areasBySpreading 1 := ⟨tW3 127 rfl rfl, tW1 1 (by decide +kernel) rfl, by decide, by decide +kernel⟩
theorem jX7_areasBySpreading : gIn mX7_areasBySpreading := ⟨tW3 125 (by decide +kernel) rfl, tW3 126 (by decide +kernel) rfl⟩
theorem kX7_beside : gCal mX7_beside 2 := ⟨tW2 82 rfl rfl, tW1 1 (by decide +kernel) rfl, by decide, by decide +kernel⟩
theorem kX7_canGo : gCal mX7_canGo 0 := ⟨tW2 79 rfl rfl, tW1 1 (by decide +kernel) rfl, by decide, by decide +kernel⟩
theorem jX7_canGo : gIn mX7_canGo := ⟨tW2 77 (by decide +kernel) rfl, tW2 78 (by decide +kernel) rfl⟩
theorem kX7_clearText : gCal mX7_clearText 0 := ⟨tW1 221 rfl rfl, tW1 1 (by decide +kernel) rfl, by decide, by decide +kernel⟩
theorem jX7_clearText : gIn mX7_clearText := ⟨tW1 219 (by decide +kernel) rfl, tW1 220 (by decide +kernel) rfl⟩
theorem kX7_coneOf : gCal mX7_coneOf 1 := ⟨tW3 171 rfl rfl, tW1 1 (by decide +kernel) rfl, by decide, by decide +kernel⟩
theorem jX7_coneOf : gIn mX7_coneOf := ⟨tW3 169 (by decide +kernel) rfl, tW3 170 (by decide +kernel) rfl⟩
theorem kX7_couldSew : gCal mX7_couldSew 0 := ⟨tW2 160 rfl rfl, tW1 1 (by decide +kernel) rfl, by decide, by decide +kernel⟩
theorem jX7_couldSew : gIn mX7_couldSew := ⟨tW2 158 (by decide +kernel) rfl, tW2 159 (by decide +kernel) rfl⟩
theorem kX7_cut : gCal mX7_cut 0 := ⟨tW4 75 rfl rfl, tW1 1 (by decide +kernel) rfl, by decide, by decide +kernel⟩
theorem jX7_cut : gIn mX7_cut := ⟨tW4 73 (by decide +kernel) rfl, tW4 74 (by decide +kernel) rfl⟩
theorem kX7_density : gCal mX7_density 0 := ⟨tW2 46 rfl rfl, tW1 1 (by decide +kernel) rfl, by decide, by decide +kernel⟩
theorem jX7_density : gIn mX7_density := ⟨tW2 44 (by decide +kernel) rfl, tW2 45 (by decide +kernel) rfl⟩
theorem kX7_drawnByCone : gCal mX7_drawnByCone 1 := ⟨tW3 179 rfl rfl, tW1 1 (by decide +kernel) rfl, by decide, by decide +kernel⟩
theorem jX7_drawnByCone : gIn mX7_drawnByCone := ⟨tW3 177 (by decide +kernel) rfl, tW3 178 (by decide +kernel) rfl⟩
theorem kX7_drawnByRug : gCal mX7_drawnByRug 1 := ⟨tW3 187 rfl rfl, tW1 1 (by decide +kernel) rfl, by decide, by decide +kernel⟩
theorem jX7_drawnByRug : gIn mX7_drawnByRug := ⟨tW3 185 (by decide +kernel) rfl, tW3 186 (by decide +kernel) rfl⟩
theorem kX7_ease : gCal mX7_ease 0 := ⟨tW4 107 rfl rfl, tW1 1 (by decide +kernel) rfl, by decide, by decide +kernel⟩
theorem jX7_ease : gIn mX7_ease := ⟨tW4 105 (by decide +kernel) rfl, tW4 106 (by decide +kernel) rfl⟩
theorem kX7_errorPosition : gCal mX7_errorPosition 0 := ⟨tW1 225 rfl rfl, tW1 1 (by decide +kernel) rfl, by decide, by decide +kernel⟩
theorem jX7_errorPosition : gIn mX7_errorPosition := ⟨tW1 223 (by decide +kernel) rfl, tW1 224 (by decide +kernel) rfl⟩
theorem kX7_fillPlan : gCal mX7_fillPlan 3 := ⟨tW4 31 rfl rfl, tW1 1 (by decide +kernel) rfl, by decide, by decide +kernel⟩
theorem jX7_fillPlan : gIn mX7_fillPlan := ⟨tW4 29 (by decide +kernel) rfl, tW4 30 (by decide +kernel) rfl⟩
theorem kX7_heading : gCal mX7_heading 0 := ⟨tW2 63 rfl rfl, tW1 1 (by decide +kernel) rfl, by decide, by decide +kernel⟩
theorem jX7_heading : gIn mX7_heading := ⟨tW2 61 (by decide +kernel) rfl, tW2 62 (by decide +kernel) rfl⟩
theorem kX7_height : gCal mX7_height 0 := ⟨tW2 71 rfl rfl, tW1 1 (by decide +kernel) rfl, by decide, by decide +kernel⟩
theorem jX7_height : gIn mX7_height := ⟨tW2 69 (by decide +kernel) rfl, tW2 70 (by decide +kernel) rfl⟩
theorem kX7_heightOf : gCal mX7_heightOf 1 := ⟨tW3 105 rfl rfl, tW1 1 (by decide +kernel) rfl, by decide, by decide +kernel⟩
theorem jX7_heightOf : gIn mX7_heightOf := ⟨tW3 103 (by decide +kernel) rfl, tW3 104 (by decide +kernel) rfl⟩
theorem kX7_init : gCal mX7_init 0 := ⟨tW1 22 rfl rfl, tW1 1 (by decide +kernel) rfl, by decide, by decide +kernel⟩
theorem kX7_isSkipped : gCal mX7_isSkipped 1 := ⟨tW3 116 rfl rfl, tW1 1 (by decide +kernel) rfl, by decide, by decide +kernel⟩
theorem jX7_isSkipped : gIn mX7_isSkipped := ⟨tW3 114 (by decide +kernel) rfl, tW3 115 (by decide +kernel) rfl⟩
theorem kX7_jump : gCal mX7_jump 1 := ⟨tW4 96 rfl rfl, tW1 1 (by decide +kernel) rfl, by decide, by decide +kernel⟩
theorem jX7_jump : gIn mX7_jump := ⟨tW4 94 (by decide +kernel) rfl, tW4 95 (by decide +kernel) rfl⟩
theorem kX7_knots : gCal mX7_knots 0 := ⟨tW2 94 rfl rfl, tW1 1 (by decide +kernel) rfl, by decide, by decide +kernel⟩
theorem jX7_knots : gIn mX7_knots := ⟨tW2 92 (by decide +kernel) rfl, tW2 93 (by decide +kernel) rfl⟩
theorem kX7_loopOf : gCal mX7_loopOf 1 := ⟨tW3 97 rfl rfl, tW1 1 (by decide +kernel) rfl, by decide, by decide +kernel⟩
theorem jX7_loopOf : gIn mX7_loopOf := ⟨tW3 95 (by decide +kernel) rfl, tW3 96 (by decide +kernel) rfl⟩
theorem kX7_loopsBy : gCal mX7_loopsBy 0 := ⟨tW5 82 rfl rfl, tW1 1 (by decide +kernel) rfl, by decide, by decide +kernel⟩
theorem jX7_loopsBy : gIn mX7_loopsBy := ⟨tW5 80 (by decide +kernel) rfl, tW5 81 (by decide +kernel) rfl⟩
theorem kX7_meanHeight : gCal mX7_meanHeight 0 := ⟨tW2 51 rfl rfl, tW1 1 (by decide +kernel) rfl, by decide, by decide +kernel⟩
theorem jX7_meanHeight : gIn mX7_meanHeight := ⟨tW2 49 (by decide +kernel) rfl, tW2 50 (by decide +kernel) rfl⟩
theorem kX7_mend : gCal mX7_mend 1 := ⟨tW4 149 rfl rfl, tW1 1 (by decide +kernel) rfl, by decide, by decide +kernel⟩
theorem jX7_mend : gIn mX7_mend := ⟨tW4 147 (by decide +kernel) rfl, tW4 148 (by decide +kernel) rfl⟩
theorem kX7_missing : gCal mX7_missing 0 := ⟨tW2 10 rfl rfl, tW1 1 (by decide +kernel) rfl, by decide, by decide +kernel⟩
theorem jX7_missing : gIn mX7_missing := ⟨tW2 8 (by decide +kernel) rfl, tW2 9 (by decide +kernel) rfl⟩
theorem kX7_motifLength : gCal mX7_motifLength 1 := ⟨tW3 233 rfl rfl, tW1 1 (by decide +kernel) rfl, by decide, by decide +kernel⟩
theorem jX7_motifLength : gIn mX7_motifLength := ⟨tW3 231 (by decide +kernel) rfl, tW3 232 (by decide +kernel) rfl⟩
theorem kX7_motifSign : gCal mX7_motifSign 2 := ⟨tW4 8 rfl rfl, tW1 1 (by decide +kernel) rfl, by decide, by decide +kernel⟩
theorem jX7_motifSign : gIn mX7_motifSign := ⟨tW4 6 (by decide +kernel) rfl, tW4 7 (by decide +kernel) rfl⟩
theorem kX7_nearestByCells : gCal mX7_nearestByCells 1 := ⟨tW5 71 rfl rfl, tW1 1 (by decide +kernel) rfl, by decide, by decide +kernel⟩
theorem jX7_nearestByCells : gIn mX7_nearestByCells := ⟨tW5 69 (by decide +kernel) rfl, tW5 70 (by decide +kernel) rfl⟩
theorem kX7_nearestByRings : gCal mX7_nearestByRings 1 := ⟨tW5 49 rfl rfl, tW1 1 (by decide +kernel) rfl, by decide, by decide +kernel⟩
theorem jX7_nearestByRings : gIn mX7_nearestByRings := ⟨tW5 47 (by decide +kernel) rfl, tW5 48 (by decide +kernel) rfl⟩
theorem kX7_needCell : gCal mX7_needCell 1 := ⟨tW3 73 rfl rfl, tW1 1 (by decide +kernel) rfl, by decide, by decide +kernel⟩
theorem kX7_needColour : gCal mX7_needColour 1 := ⟨tW3 130 rfl rfl, tW1 1 (by decide +kernel) rfl, by decide, by decide +kernel⟩
theorem kX7_needMotif : gCal mX7_needMotif 1 := ⟨tW3 236 rfl rfl, tW1 1 (by decide +kernel) rfl, by decide, by decide +kernel⟩
theorem kX7_needMotifText : gCal mX7_needMotifText 0 := ⟨tW4 199 rfl rfl, tW1 1 (by decide +kernel) rfl, by decide, by decide +kernel⟩
theorem jX7_needMotifText : gIn mX7_needMotifText := ⟨tW4 198 (by decide +kernel) rfl, tP (List.mem_of_getElem? (i := 9) (by decide +kernel)) rfl⟩
theorem kX7_needRange : gCal mX7_needRange 3 := ⟨tW2 214 rfl rfl, tW1 1 (by decide +kernel) rfl, by decide, by decide +kernel⟩
theorem kX7_needSlot : gCal mX7_needSlot 1 := ⟨tW5 123 rfl rfl, tW1 1 (by decide +kernel) rfl, by decide, by decide +kernel⟩
theorem kX7_needThreaded : gCal mX7_needThreaded 0 := ⟨tW4 79 rfl rfl, tW1 1 (by decide +kernel) rfl, by decide, by decide +kernel⟩
theorem jX7_needThreaded : gIn mX7_needThreaded := ⟨tW4 78 (by decide +kernel) rfl, tP (List.mem_of_getElem? (i := 8) (by decide +kernel)) rfl⟩
theorem kX7_neededFor : gCal mX7_neededFor 1 := ⟨tW3 214 rfl rfl, tW1 1 (by decide +kernel) rfl, by decide, by decide +kernel⟩
theorem jX7_neededFor : gIn mX7_neededFor := ⟨tW3 212 (by decide +kernel) rfl, tW3 213 (by decide +kernel) rfl⟩
theorem kX7_needle : gCal mX7_needle 0 := ⟨tW2 59 rfl rfl, tW1 1 (by decide +kernel) rfl, by decide, by decide +kernel⟩
theorem jX7_needle : gIn mX7_needle := ⟨tW2 57 (by decide +kernel) rfl, tW2 58 (by decide +kernel) rfl⟩
theorem kX7_needleBy : gCal mX7_needleBy 0 := ⟨tW5 93 rfl rfl, tW1 1 (by decide +kernel) rfl, by decide, by decide +kernel⟩
theorem jX7_needleBy : gIn mX7_needleBy := ⟨tW5 91 (by decide +kernel) rfl, tW5 92 (by decide +kernel) rfl⟩
theorem kX7_place : gCal mX7_place 2 := ⟨tW4 129 rfl rfl, tW1 1 (by decide +kernel) rfl, by decide, by decide +kernel⟩
theorem jX7_place : gIn mX7_place := ⟨tW4 127 (by decide +kernel) rfl, tW4 128 (by decide +kernel) rfl⟩
theorem kX7_planOf : gCal mX7_planOf 1 := ⟨tW3 70 rfl rfl, tW1 1 (by decide +kernel) rfl, by decide, by decide +kernel⟩
theorem jX7_planOf : gIn mX7_planOf := ⟨tW3 68 (by decide +kernel) rfl, tW3 69 (by decide +kernel) rfl⟩
theorem kX7_restore : gCal mX7_restore 1 := ⟨tW5 131 rfl rfl, tW1 1 (by decide +kernel) rfl, by decide, by decide +kernel⟩
theorem jX7_restore : gIn mX7_restore := ⟨tW5 129 (by decide +kernel) rfl, tW5 130 (by decide +kernel) rfl⟩
theorem kX7_right : gCal mX7_right 0 := ⟨tW2 2 rfl rfl, tW1 1 (by decide +kernel) rfl, by decide, by decide +kernel⟩
theorem jX7_right : gIn mX7_right := ⟨tW2 0 (by decide +kernel) rfl, tW2 1 (by decide +kernel) rfl⟩
theorem kX7_run : gCal mX7_run 1 := ⟨tW4 218 rfl rfl, tW1 1 (by decide +kernel) rfl, by decide, by decide +kernel⟩
theorem jX7_run : gIn mX7_run := ⟨tW4 216 (by decide +kernel) rfl, tW4 217 (by decide +kernel) rfl⟩
theorem kX7_runText : gCal mX7_runText 0 := ⟨tW5 23 rfl rfl, tW1 1 (by decide +kernel) rfl, by decide, by decide +kernel⟩
theorem jX7_runText : gIn mX7_runText := ⟨tW5 21 (by decide +kernel) rfl, tW5 22 (by decide +kernel) rfl⟩
theorem kX7_save : gCal mX7_save 1 := ⟨tW5 120 rfl rfl, tW1 1 (by decide +kernel) rfl, by decide, by decide +kernel⟩
theorem jX7_save : gIn mX7_save := ⟨tW5 118 (by decide +kernel) rfl, tW5 119 (by decide +kernel) rfl⟩
theorem kX7_setHeight : gCal mX7_setHeight 1 := ⟨tW4 122 rfl rfl, tW1 1 (by decide +kernel) rfl, by decide, by decide +kernel⟩
theorem jX7_setHeight : gIn mX7_setHeight := ⟨tW4 120 (by decide +kernel) rfl, tW4 121 (by decide +kernel) rfl⟩
theorem kX7_setPlan : gCal mX7_setPlan 2 := ⟨tW4 20 rfl rfl, tW1 1 (by decide +kernel) rfl, by decide, by decide +kernel⟩
theorem jX7_setPlan : gIn mX7_setPlan := ⟨tW4 18 (by decide +kernel) rfl, tW4 19 (by decide +kernel) rfl⟩
theorem kX7_sew : gCal mX7_sew 1 := ⟨tW4 88 rfl rfl, tW1 1 (by decide +kernel) rfl, by decide, by decide +kernel⟩
theorem jX7_sew : gIn mX7_sew := ⟨tW4 86 (by decide +kernel) rfl, tW4 87 (by decide +kernel) rfl⟩
theorem kX7_shear : gCal mX7_shear 1 := ⟨tW4 184 rfl rfl, tW1 1 (by decide +kernel) rfl, by decide, by decide +kernel⟩
theorem jX7_shear : gIn mX7_shear := ⟨tW4 182 (by decide +kernel) rfl, tW4 183 (by decide +kernel) rfl⟩
theorem kX7_simulate : gCal mX7_simulate 2 := ⟨tW5 107 rfl rfl, tW1 1 (by decide +kernel) rfl, by decide, by decide +kernel⟩
theorem jX7_simulate : gIn mX7_simulate := ⟨tW5 105 (by decide +kernel) rfl, tW5 106 (by decide +kernel) rfl⟩
theorem kX7_simulateTurn : gCal mX7_simulateTurn 1 := ⟨tW5 113 rfl rfl, tW1 1 (by decide +kernel) rfl, by decide, by decide +kernel⟩
theorem jX7_simulateTurn : gIn mX7_simulateTurn := ⟨tW5 112 (by decide +kernel) rfl, tP (List.mem_of_getElem? (i := 18) (by decide +kernel)) rfl⟩
theorem kX7_skipped : gCal mX7_skipped 0 := ⟨tW2 38 rfl rfl, tW1 1 (by decide +kernel) rfl, by decide, by decide +kernel⟩
theorem jX7_skipped : gIn mX7_skipped := ⟨tW2 36 (by decide +kernel) rfl, tW2 37 (by decide +kernel) rfl⟩
theorem kX7_store : gCal mX7_store 1 := ⟨tW4 195 rfl rfl, tW1 1 (by decide +kernel) rfl, by decide, by decide +kernel⟩
theorem jX7_store : gIn mX7_store := ⟨tW4 193 (by decide +kernel) rfl, tW4 194 (by decide +kernel) rfl⟩
theorem kX7_tension : gCal mX7_tension 0 := ⟨tW2 75 rfl rfl, tW1 1 (by decide +kernel) rfl, by decide, by decide +kernel⟩
theorem jX7_tension : gIn mX7_tension := ⟨tW2 73 (by decide +kernel) rfl, tW2 74 (by decide +kernel) rfl⟩
theorem kX7_thread : gCal mX7_thread 1 := ⟨tW4 49 rfl rfl, tW1 1 (by decide +kernel) rfl, by decide, by decide +kernel⟩
theorem jX7_thread : gIn mX7_thread := ⟨tW4 47 (by decide +kernel) rfl, tW4 48 (by decide +kernel) rfl⟩
theorem kX7_threaded : gCal mX7_threaded 0 := ⟨tW2 67 rfl rfl, tW1 1 (by decide +kernel) rfl, by decide, by decide +kernel⟩
theorem jX7_threaded : gIn mX7_threaded := ⟨tW2 65 (by decide +kernel) rfl, tW2 66 (by decide +kernel) rfl⟩
theorem kX7_tryText : gCal mX7_tryText 0 := ⟨tW5 86 rfl rfl, tW1 1 (by decide +kernel) rfl, by decide, by decide +kernel⟩
theorem jX7_tryText : gIn mX7_tryText := ⟨tW5 85 (by decide +kernel) rfl, tP (List.mem_of_getElem? (i := 17) (by decide +kernel)) rfl⟩
theorem kX7_turnLeft : gCal mX7_turnLeft 0 := ⟨tW2 98 rfl rfl, tW1 1 (by decide +kernel) rfl, by decide, by decide +kernel⟩
theorem jX7_turnLeft : gIn mX7_turnLeft := ⟨tW2 96 (by decide +kernel) rfl, tW2 97 (by decide +kernel) rfl⟩
theorem kX7_turnRight : gCal mX7_turnRight 0 := ⟨tW2 140 rfl rfl, tW1 1 (by decide +kernel) rfl, by decide, by decide +kernel⟩
theorem jX7_turnRight : gIn mX7_turnRight := ⟨tW2 138 (by decide +kernel) rfl, tW2 139 (by decide +kernel) rfl⟩
theorem kX7_undo : gCal mX7_undo 0 := ⟨tW5 30 rfl rfl, tW1 1 (by decide +kernel) rfl, by decide, by decide +kernel⟩
theorem jX7_undo : gIn mX7_undo := ⟨tW5 28 (by decide +kernel) rfl, tW5 29 (by decide +kernel) rfl⟩
theorem kX7_unpick : gCal mX7_unpick 1 := ⟨tW4 167 rfl rfl, tW1 1 (by decide +kernel) rfl, by decide, by decide +kernel⟩
theorem jX7_unpick : gIn mX7_unpick := ⟨tW4 165 (by decide +kernel) rfl, tW4 166 (by decide +kernel) rfl⟩
theorem kX7_untilKnot : gCal mX7_untilKnot 1 := ⟨tW3 226 rfl rfl, tW1 1 (by decide +kernel) rfl, by decide, by decide +kernel⟩
theorem jX7_untilKnot : gIn mX7_untilKnot := ⟨tW3 224 (by decide +kernel) rfl, tW3 225 (by decide +kernel) rfl⟩
theorem kX7_wasteOf : gCal mX7_wasteOf 1 := ⟨tW3 203 rfl rfl, tW1 1 (by decide +kernel) rfl, by decide, by decide +kernel⟩
theorem jX7_wasteOf : gIn mX7_wasteOf := ⟨tW3 201 (by decide +kernel) rfl, tW3 202 (by decide +kernel) rfl⟩
theorem kX7_whyNoMending : gCal mX7_whyNoMending 1 := ⟨tW5 42 rfl rfl, tW1 1 (by decide +kernel) rfl, by decide, by decide +kernel⟩
theorem jX7_whyNoMending : gIn mX7_whyNoMending := ⟨tW5 40 (by decide +kernel) rfl, tW5 41 (by decide +kernel) rfl⟩
theorem kX7_whyNoStitch : gCal mX7_whyNoStitch 0 := ⟨tW2 144 rfl rfl, tW1 1 (by decide +kernel) rfl, by decide, by decide +kernel⟩
theorem jX7_whyNoStitch : gIn mX7_whyNoStitch := ⟨tW2 142 (by decide +kernel) rfl, tW2 143 (by decide +kernel) rfl⟩
theorem kX7_wind : gCal mX7_wind 2 := ⟨tW4 137 rfl rfl, tW1 1 (by decide +kernel) rfl, by decide, by decide +kernel⟩
theorem jX7_wind : gIn mX7_wind := ⟨tW4 135 (by decide +kernel) rfl, tW4 136 (by decide +kernel) rfl⟩
theorem kX7_wouldSkip : gCal mX7_wouldSkip 0 := ⟨tW2 86 rfl rfl, tW1 1 (by decide +kernel) rfl, by decide, by decide +kernel⟩
theorem jX7_wouldSkip : gIn mX7_wouldSkip := ⟨tW2 84 (by decide +kernel) rfl, tW2 85 (by decide +kernel) rfl⟩
theorem kX7_wrong : gCal mX7_wrong 0 := ⟨tW2 30 rfl rfl, tW1 1 (by decide +kernel) rfl, by decide, by decide +kernel⟩
theorem jX7_wrong : gIn mX7_wrong := ⟨tW2 28 (by decide +kernel) rfl, tW2 29 (by decide +kernel) rfl⟩
theorem kX7_yarnBy : gCal mX7_yarnBy 1 := ⟨tW5 100 rfl rfl, tW1 1 (by decide +kernel) rfl, by decide, by decide +kernel⟩
theorem jX7_yarnBy : gIn mX7_yarnBy := ⟨tW5 98 (by decide +kernel) rfl, tW5 99 (by decide +kernel) rfl⟩
theorem kX7_yarnForLoop : gCal mX7_yarnForLoop 1 := ⟨tW2 156 rfl rfl, tW1 1 (by decide +kernel) rfl, by decide, by decide +kernel⟩
theorem kX8_append : gCal mX8_append 1 := ⟨tW5 207 rfl rfl, tW1 9 (by decide +kernel) rfl, by decide, by decide +kernel⟩
theorem jX8_append : gIn mX8_append := ⟨tW5 205 (by decide +kernel) rfl, tW5 206 (by decide +kernel) rfl⟩
theorem kX8_areas : gCal mX8_areas 1 := ⟨tW6 75 rfl rfl, tW1 9 (by decide +kernel) rfl, by decide, by decide +kernel⟩
theorem jX8_areas : gIn mX8_areas := ⟨tW6 74 (by decide +kernel) rfl, tP (List.mem_of_getElem? (i := 28) (by decide +kernel)) rfl⟩
theorem kX8_areasByJoining : gCal mX8_areasByJoining 1 := ⟨tW6 83 rfl rfl, tW1 9 (by decide +kernel) rfl, by decide, by decide +kernel⟩
theorem jX8_areasByJoining : gIn mX8_areasByJoining := ⟨tW6 81 (by decide +kernel) rfl, tW6 82 (by decide +kernel) rfl⟩
theorem kX8_areasBySpreading : gCal mX8_areasBySpreading 1 := ⟨tW6 63 rfl rfl, tW1 9 (by decide +kernel) rfl, by decide, by decide +kernel⟩
theorem jX8_areasBySpreading : gIn mX8_areasBySpreading := ⟨tW6 61 (by decide +kernel) rfl, tW6 62 (by decide +kernel) rfl⟩
theorem kX8_canGo : gCal mX8_canGo 0 := ⟨tW6 123 rfl rfl, tW1 9 (by decide +kernel) rfl, by decide, by decide +kernel⟩
theorem jX8_canGo : gIn mX8_canGo := ⟨tW6 121 (by decide +kernel) rfl, tW6 122 (by decide +kernel) rfl⟩
theorem kX8_change : gCal mX8_change 2 := ⟨tW6 185 rfl rfl, tW1 9 (by decide +kernel) rfl, by decide, by decide +kernel⟩
theorem jX8_change : gIn mX8_change := ⟨tW6 184 (by decide +kernel) rfl, tP (List.mem_of_getElem? (i := 30) (by decide +kernel)) rfl⟩
theorem kX8_clearText : gCal mX8_clearText 0 := ⟨tW5 219 rfl rfl, tW1 9 (by decide +kernel) rfl, by decide, by decide +kernel⟩
theorem jX8_clearText : gIn mX8_clearText := ⟨tW5 217 (by decide +kernel) rfl, tW5 218 (by decide +kernel) rfl⟩
theorem kX8_cone : gCal mX8_cone 3 := ⟨tW6 134 rfl rfl, tW1 9 (by decide +kernel) rfl, by decide, by decide +kernel⟩
theorem kX8_coneOf : gCal mX8_coneOf 1 := ⟨tW6 131 rfl rfl, tW1 9 (by decide +kernel) rfl, by decide, by decide +kernel⟩
theorem jX8_coneOf : gIn mX8_coneOf := ⟨tW6 129 (by decide +kernel) rfl, tW6 130 (by decide +kernel) rfl⟩
theorem kX8_copy : gCal mX8_copy 2 := ⟨tW7 98 rfl rfl, tW1 9 (by decide +kernel) rfl, by decide, by decide +kernel⟩
theorem kX8_couldSew : gCal mX8_couldSew 0 := ⟨tW7 95 rfl rfl, tW1 9 (by decide +kernel) rfl, by decide, by decide +kernel⟩
theorem jX8_couldSew : gIn mX8_couldSew := ⟨tW7 93 (by decide +kernel) rfl, tW7 94 (by decide +kernel) rfl⟩
theorem kX8_cut : gCal mX8_cut 0 := ⟨tW6 210 rfl rfl, tW1 9 (by decide +kernel) rfl, by decide, by decide +kernel⟩
theorem jX8_cut : gIn mX8_cut := ⟨tW6 208 (by decide +kernel) rfl, tW6 209 (by decide +kernel) rfl⟩
theorem kX8_density : gCal mX8_density 0 := ⟨tW6 87 rfl rfl, tW1 9 (by decide +kernel) rfl, by decide, by decide +kernel⟩
theorem jX8_density : gIn mX8_density := ⟨tW6 85 (by decide +kernel) rfl, tW6 86 (by decide +kernel) rfl⟩
theorem kX8_digit : gCal mX8_digit 2 := ⟨tW6 9 rfl rfl, tW1 9 (by decide +kernel) rfl, by decide, by decide +kernel⟩
theorem jX8_digit : gIn mX8_digit := ⟨tW6 8 (by decide +kernel) rfl, tP (List.mem_of_getElem? (i := 25) (by decide +kernel)) rfl⟩
theorem kX8_draw : gCal mX8_draw 4 := ⟨tW6 206 rfl rfl, tW1 9 (by decide +kernel) rfl, by decide, by decide +kernel⟩
theorem kX8_drawn : gCal mX8_drawn 2 := ⟨tW6 141 rfl rfl, tW1 9 (by decide +kernel) rfl, by decide, by decide +kernel⟩
theorem kX8_drawnByCone : gCal mX8_drawnByCone 1 := ⟨tW6 138 rfl rfl, tW1 9 (by decide +kernel) rfl, by decide, by decide +kernel⟩
theorem jX8_drawnByCone : gIn mX8_drawnByCone := ⟨tW6 136 (by decide +kernel) rfl, tW6 137 (by decide +kernel) rfl⟩
theorem kX8_drawnByRug : gCal mX8_drawnByRug 1 := ⟨tW6 145 rfl rfl, tW1 9 (by decide +kernel) rfl, by decide, by decide +kernel⟩
theorem jX8_drawnByRug : gIn mX8_drawnByRug := ⟨tW6 143 (by decide +kernel) rfl, tW6 144 (by decide +kernel) rfl⟩
theorem kX8_ease : gCal mX8_ease 0 := ⟨tW7 9 rfl rfl, tW1 9 (by decide +kernel) rfl, by decide, by decide +kernel⟩
theorem jX8_ease : gIn mX8_ease := ⟨tW7 7 (by decide +kernel) rfl, tW7 8 (by decide +kernel) rfl⟩
theorem kX8_errorPosition : gCal mX8_errorPosition 0 := ⟨tW5 223 rfl rfl, tW1 9 (by decide +kernel) rfl, by decide, by decide +kernel⟩
theorem jX8_errorPosition : gIn mX8_errorPosition := ⟨tW5 221 (by decide +kernel) rfl, tW5 222 (by decide +kernel) rfl⟩
theorem kX8_fails : gCal mX8_fails 1 := ⟨tW7 75 rfl rfl, tW1 9 (by decide +kernel) rfl, by decide, by decide +kernel⟩
theorem jX8_fails : gIn mX8_fails := ⟨tW7 74 (by decide +kernel) rfl, tP (List.mem_of_getElem? (i := 36) (by decide +kernel)) rfl⟩
theorem kX8_fillPlan : gCal mX8_fillPlan 3 := ⟨tW6 193 rfl rfl, tW1 9 (by decide +kernel) rfl, by decide, by decide +kernel⟩
theorem jX8_fillPlan : gIn mX8_fillPlan := ⟨tW6 191 (by decide +kernel) rfl, tW6 192 (by decide +kernel) rfl⟩
theorem kX8_goCut : gCal mX8_goCut 1 := ⟨tW6 203 rfl rfl, tW1 9 (by decide +kernel) rfl, by decide, by decide +kernel⟩
theorem kX8_goEase : gCal mX8_goEase 1 := ⟨tW7 12 rfl rfl, tW1 9 (by decide +kernel) rfl, by decide, by decide +kernel⟩
theorem kX8_goJump : gCal mX8_goJump 2 := ⟨tW6 234 rfl rfl, tW1 9 (by decide +kernel) rfl, by decide, by decide +kernel⟩
theorem kX8_goRun : gCal mX8_goRun 3 := ⟨tW7 59 rfl rfl, tW1 9 (by decide +kernel) rfl, by decide, by decide +kernel⟩
theorem jX8_goRun : gIn mX8_goRun := ⟨tW7 58 (by decide +kernel) rfl, tP (List.mem_of_getElem? (i := 32) (by decide +kernel)) rfl⟩
theorem kX8_goSew : gCal mX8_goSew 2 := ⟨tW6 221 rfl rfl, tW1 9 (by decide +kernel) rfl, by decide, by decide +kernel⟩
theorem kX8_goShear : gCal mX8_goShear 2 := ⟨tW7 47 rfl rfl, tW1 9 (by decide +kernel) rfl, by decide, by decide +kernel⟩
theorem kX8_goThread : gCal mX8_goThread 2 := ⟨tW6 200 rfl rfl, tW1 9 (by decide +kernel) rfl, by decide, by decide +kernel⟩
theorem kX8_goTurn : gCal mX8_goTurn 2 := ⟨tW7 1 rfl rfl, tW1 9 (by decide +kernel) rfl, by decide, by decide +kernel⟩
theorem kX8_goUnpick : gCal mX8_goUnpick 2 := ⟨tW7 40 rfl rfl, tW1 9 (by decide +kernel) rfl, by decide, by decide +kernel⟩
theorem kX8_hasLoop : gCal mX8_hasLoop 2 := ⟨tW6 28 rfl rfl, tW1 9 (by decide +kernel) rfl, by decide, by decide +kernel⟩
theorem kX8_heading : gCal mX8_heading 0 := ⟨tW6 107 rfl rfl, tW1 9 (by decide +kernel) rfl, by decide, by decide +kernel⟩
theorem jX8_heading : gIn mX8_heading := ⟨tW6 105 (by decide +kernel) rfl, tW6 106 (by decide +kernel) rfl⟩
theorem kX8_height : gCal mX8_height 0 := ⟨tW6 115 rfl rfl, tW1 9 (by decide +kernel) rfl, by decide, by decide +kernel⟩
theorem jX8_height : gIn mX8_height := ⟨tW6 113 (by decide +kernel) rfl, tW6 114 (by decide +kernel) rfl⟩
theorem kX8_heightOf : gCal mX8_heightOf 1 := ⟨tW6 33 rfl rfl, tW1 9 (by decide +kernel) rfl, by decide, by decide +kernel⟩
theorem jX8_heightOf : gIn mX8_heightOf := ⟨tW6 31 (by decide +kernel) rfl, tW6 32 (by decide +kernel) rfl⟩
theorem kX8_here : gCal mX8_here 0 := ⟨tW5 235 rfl rfl, tW1 9 (by decide +kernel) rfl, by decide, by decide +kernel⟩
theorem jX8_here : gIn mX8_here := ⟨tW5 234 (by decide +kernel) rfl, tP (List.mem_of_getElem? (i := 22) (by decide +kernel)) rfl⟩
theorem kX8_in : gCal mX8_in 3 := ⟨tW5 211 rfl rfl, tW1 9 (by decide +kernel) rfl, by decide, by decide +kernel⟩
theorem kX8_init : gCal mX8_init 0 := ⟨tW5 137 rfl rfl, tW1 9 (by decide +kernel) rfl, by decide, by decide +kernel⟩
theorem kX8_isCell : gCal mX8_isCell 1 := ⟨tW6 20 rfl rfl, tW1 9 (by decide +kernel) rfl, by decide, by decide +kernel⟩
theorem kX8_isColour : gCal mX8_isColour 1 := ⟨tW6 70 rfl rfl, tW1 9 (by decide +kernel) rfl, by decide, by decide +kernel⟩
theorem kX8_isMissing : gCal mX8_isMissing 2 := ⟨tW6 48 rfl rfl, tW1 9 (by decide +kernel) rfl, by decide, by decide +kernel⟩
theorem kX8_isMotif : gCal mX8_isMotif 1 := ⟨tW6 171 rfl rfl, tW1 9 (by decide +kernel) rfl, by decide, by decide +kernel⟩
theorem kX8_isSkipped : gCal mX8_isSkipped 1 := ⟨tW6 37 rfl rfl, tW1 9 (by decide +kernel) rfl, by decide, by decide +kernel⟩
theorem jX8_isSkipped : gIn mX8_isSkipped := ⟨tW6 35 (by decide +kernel) rfl, tW6 36 (by decide +kernel) rfl⟩
theorem kX8_jump : gCal mX8_jump 1 := ⟨tW6 231 rfl rfl, tW1 9 (by decide +kernel) rfl, by decide, by decide +kernel⟩
theorem jX8_jump : gIn mX8_jump := ⟨tW6 229 (by decide +kernel) rfl, tW6 230 (by decide +kernel) rfl⟩
theorem kX8_knots : gCal mX8_knots 0 := ⟨tW6 164 rfl rfl, tW1 9 (by decide +kernel) rfl, by decide, by decide +kernel⟩
theorem jX8_knots : gIn mX8_knots := ⟨tW6 162 (by decide +kernel) rfl, tW6 163 (by decide +kernel) rfl⟩
theorem kX8_loopOf : gCal mX8_loopOf 1 := ⟨tW6 25 rfl rfl, tW1 9 (by decide +kernel) rfl, by decide, by decide +kernel⟩
theorem jX8_loopOf : gIn mX8_loopOf := ⟨tW6 23 (by decide +kernel) rfl, tW6 24 (by decide +kernel) rfl⟩
theorem kX8_loops : gCal mX8_loops 1 := ⟨tW6 90 rfl rfl, tW1 9 (by decide +kernel) rfl, by decide, by decide +kernel⟩
theorem kX8_loopsBy : gCal mX8_loopsBy 0 := ⟨tW7 114 rfl rfl, tW1 9 (by decide +kernel) rfl, by decide, by decide +kernel⟩
theorem jX8_loopsBy : gIn mX8_loopsBy := ⟨tW7 112 (by decide +kernel) rfl, tW7 113 (by decide +kernel) rfl⟩
theorem kX8_meanHeight : gCal mX8_meanHeight 0 := ⟨tW6 95 rfl rfl, tW1 9 (by decide +kernel) rfl, by decide, by decide +kernel⟩
theorem jX8_meanHeight : gIn mX8_meanHeight := ⟨tW6 93 (by decide +kernel) rfl, tW6 94 (by decide +kernel) rfl⟩
theorem kX8_mend : gCal mX8_mend 1 := ⟨tW7 30 rfl rfl, tW1 9 (by decide +kernel) rfl, by decide, by decide +kernel⟩
theorem jX8_mend : gIn mX8_mend := ⟨tW7 28 (by decide +kernel) rfl, tW7 29 (by decide +kernel) rfl⟩
theorem kX8_missing : gCal mX8_missing 0 := ⟨tW6 45 rfl rfl, tW1 9 (by decide +kernel) rfl, by decide, by decide +kernel⟩
theorem jX8_missing : gIn mX8_missing := ⟨tW6 43 (by decide +kernel) rfl, tW6 44 (by decide +kernel) rfl⟩
theorem kX8_motifLength : gCal mX8_motifLength 1 := ⟨tW6 168 rfl rfl, tW1 9 (by decide +kernel) rfl, by decide, by decide +kernel⟩
theorem jX8_motifLength : gIn mX8_motifLength := ⟨tW6 166 (by decide +kernel) rfl, tW6 167 (by decide +kernel) rfl⟩
theorem kX8_motifSign : gCal mX8_motifSign 2 := ⟨tW6 176 rfl rfl, tW1 9 (by decide +kernel) rfl, by decide, by decide +kernel⟩
theorem jX8_motifSign : gIn mX8_motifSign := ⟨tW6 174 (by decide +kernel) rfl, tW6 175 (by decide +kernel) rfl⟩
theorem kX8_nearest : gCal mX8_nearest 1 := ⟨tW7 106 rfl rfl, tW1 9 (by decide +kernel) rfl, by decide, by decide +kernel⟩
theorem jX8_nearest : gIn mX8_nearest := ⟨tW7 105 (by decide +kernel) rfl, tP (List.mem_of_getElem? (i := 37) (by decide +kernel)) rfl⟩
theorem kX8_nearestByCells : gCal mX8_nearestByCells 1 := ⟨tW7 110 rfl rfl, tW1 9 (by decide +kernel) rfl, by decide, by decide +kernel⟩
theorem jX8_nearestByCells : gIn mX8_nearestByCells := ⟨tW7 108 (by decide +kernel) rfl, tW7 109 (by decide +kernel) rfl⟩
theorem kX8_nearestByRings : gCal mX8_nearestByRings 1 := ⟨tW7 102 rfl rfl, tW1 9 (by decide +kernel) rfl, by decide, by decide +kernel⟩
theorem jX8_nearestByRings : gIn mX8_nearestByRings := ⟨tW7 100 (by decide +kernel) rfl, tW7 101 (by decide +kernel) rfl⟩
theorem kX8_neededFor : gCal mX8_neededFor 1 := ⟨tW6 153 rfl rfl, tW1 9 (by decide +kernel) rfl, by decide, by decide +kernel⟩
theorem jX8_neededFor : gIn mX8_neededFor := ⟨tW6 151 (by decide +kernel) rfl, tW6 152 (by decide +kernel) rfl⟩
theorem kX8_needle : gCal mX8_needle 0 := ⟨tW6 99 rfl rfl, tW1 9 (by decide +kernel) rfl, by decide, by decide +kernel⟩
theorem jX8_needle : gIn mX8_needle := ⟨tW6 97 (by decide +kernel) rfl, tW6 98 (by decide +kernel) rfl⟩
theorem kX8_needleBy : gCal mX8_needleBy 0 := ⟨tW7 122 rfl rfl, tW1 9 (by decide +kernel) rfl, by decide, by decide +kernel⟩
theorem jX8_needleBy : gIn mX8_needleBy := ⟨tW7 120 (by decide +kernel) rfl, tW7 121 (by decide +kernel) rfl⟩
theorem kX8_next : gCal mX8_next 2 := ⟨tW6 78 rfl rfl, tW1 9 (by decide +kernel) rfl, by decide, by decide +kernel⟩
theorem kX8_noCell : gCal mX8_noCell 1 := ⟨tW6 17 rfl rfl, tW1 9 (by decide +kernel) rfl, by decide, by decide +kernel⟩
theorem jX8_noCell : gIn mX8_noCell := ⟨tW6 16 (by decide +kernel) rfl, tP (List.mem_of_getElem? (i := 26) (by decide +kernel)) rfl⟩
theorem kX8_noColour : gCal mX8_noColour 1 := ⟨tW6 67 rfl rfl, tW1 9 (by decide +kernel) rfl, by decide, by decide +kernel⟩
theorem jX8_noColour : gIn mX8_noColour := ⟨tW6 66 (by decide +kernel) rfl, tP (List.mem_of_getElem? (i := 27) (by decide +kernel)) rfl⟩
theorem kX8_noMending : gCal mX8_noMending 2 := ⟨tW7 33 rfl rfl, tW1 9 (by decide +kernel) rfl, by decide, by decide +kernel⟩
theorem kX8_noStitch : gCal mX8_noStitch 1 := ⟨tW6 218 rfl rfl, tW1 9 (by decide +kernel) rfl, by decide, by decide +kernel⟩
theorem kX8_order : gCal mX8_order 1 := ⟨tW7 67 rfl rfl, tW1 9 (by decide +kernel) rfl, by decide, by decide +kernel⟩
theorem jX8_order : gIn mX8_order := ⟨tW7 66 (by decide +kernel) rfl, tP (List.mem_of_getElem? (i := 34) (by decide +kernel)) rfl⟩
theorem kX8_place : gCal mX8_place 2 := ⟨tW7 21 rfl rfl, tW1 9 (by decide +kernel) rfl, by decide, by decide +kernel⟩
theorem jX8_place : gIn mX8_place := ⟨tW7 19 (by decide +kernel) rfl, tW7 20 (by decide +kernel) rfl⟩
theorem kX8_planOf : gCal mX8_planOf 1 := ⟨tW6 13 rfl rfl, tW1 9 (by decide +kernel) rfl, by decide, by decide +kernel⟩
theorem jX8_planOf : gIn mX8_planOf := ⟨tW6 11 (by decide +kernel) rfl, tW6 12 (by decide +kernel) rfl⟩
theorem kX8_pull : gCal mX8_pull 5 := ⟨tW6 227 rfl rfl, tW1 9 (by decide +kernel) rfl, by decide, by decide +kernel⟩
theorem kX8_push : gCal mX8_push 4 := ⟨tW7 63 rfl rfl, tW1 9 (by decide +kernel) rfl, by decide, by decide +kernel⟩
theorem jX8_push : gIn mX8_push := ⟨tW7 62 (by decide +kernel) rfl, tP (List.mem_of_getElem? (i := 33) (by decide +kernel)) rfl⟩
theorem kX8_readAll : gCal mX8_readAll 0 := ⟨tW5 227 rfl rfl, tW1 9 (by decide +kernel) rfl, by decide, by decide +kernel⟩
theorem jX8_readAll : gIn mX8_readAll := ⟨tW5 226 (by decide +kernel) rfl, tP (List.mem_of_getElem? (i := 20) (by decide +kernel)) rfl⟩
theorem kX8_readOrder : gCal mX8_readOrder 0 := ⟨tW5 231 rfl rfl, tW1 9 (by decide +kernel) rfl, by decide, by decide +kernel⟩
theorem jX8_readOrder : gIn mX8_readOrder := ⟨tW5 230 (by decide +kernel) rfl, tP (List.mem_of_getElem? (i := 21) (by decide +kernel)) rfl⟩
theorem kX8_readPlain : gCal mX8_readPlain 0 := ⟨tW6 1 rfl rfl, tW1 9 (by decide +kernel) rfl, by decide, by decide +kernel⟩
theorem jX8_readPlain : gIn mX8_readPlain := ⟨tW6 0 (by decide +kernel) rfl, tP (List.mem_of_getElem? (i := 23) (by decide +kernel)) rfl⟩
theorem kX8_refused : gCal mX8_refused 1 := ⟨tW5 215 rfl rfl, tW1 9 (by decide +kernel) rfl, by decide, by decide +kernel⟩
theorem jX8_refused : gIn mX8_refused := ⟨tW5 214 (by decide +kernel) rfl, tP (List.mem_of_getElem? (i := 19) (by decide +kernel)) rfl⟩
theorem kX8_remember : gCal mX8_remember 0 := ⟨tW6 189 rfl rfl, tW1 9 (by decide +kernel) rfl, by decide, by decide +kernel⟩
theorem jX8_remember : gIn mX8_remember := ⟨tW6 188 (by decide +kernel) rfl, tP (List.mem_of_getElem? (i := 31) (by decide +kernel)) rfl⟩
theorem kX8_restore : gCal mX8_restore 1 := ⟨tW7 145 rfl rfl, tW1 9 (by decide +kernel) rfl, by decide, by decide +kernel⟩
theorem jX8_restore : gIn mX8_restore := ⟨tW7 143 (by decide +kernel) rfl, tW7 144 (by decide +kernel) rfl⟩
theorem kX8_right : gCal mX8_right 0 := ⟨tW6 41 rfl rfl, tW1 9 (by decide +kernel) rfl, by decide, by decide +kernel⟩
theorem jX8_right : gIn mX8_right := ⟨tW6 39 (by decide +kernel) rfl, tW6 40 (by decide +kernel) rfl⟩
theorem kX8_run : gCal mX8_run 1 := ⟨tW7 55 rfl rfl, tW1 9 (by decide +kernel) rfl, by decide, by decide +kernel⟩
theorem jX8_run : gIn mX8_run := ⟨tW7 53 (by decide +kernel) rfl, tW7 54 (by decide +kernel) rfl⟩
theorem kX8_runText : gCal mX8_runText 0 := ⟨tW7 79 rfl rfl, tW1 9 (by decide +kernel) rfl, by decide, by decide +kernel⟩
theorem jX8_runText : gIn mX8_runText := ⟨tW7 77 (by decide +kernel) rfl, tW7 78 (by decide +kernel) rfl⟩
theorem kX8_save : gCal mX8_save 1 := ⟨tW7 141 rfl rfl, tW1 9 (by decide +kernel) rfl, by decide, by decide +kernel⟩
theorem jX8_save : gIn mX8_save := ⟨tW7 139 (by decide +kernel) rfl, tW7 140 (by decide +kernel) rfl⟩
theorem kX8_setHeight : gCal mX8_setHeight 1 := ⟨tW7 16 rfl rfl, tW1 9 (by decide +kernel) rfl, by decide, by decide +kernel⟩
theorem jX8_setHeight : gIn mX8_setHeight := ⟨tW7 14 (by decide +kernel) rfl, tW7 15 (by decide +kernel) rfl⟩
theorem kX8_setPlan : gCal mX8_setPlan 2 := ⟨tW6 180 rfl rfl, tW1 9 (by decide +kernel) rfl, by decide, by decide +kernel⟩
theorem jX8_setPlan : gIn mX8_setPlan := ⟨tW6 178 (by decide +kernel) rfl, tW6 179 (by decide +kernel) rfl⟩
theorem kX8_sew : gCal mX8_sew 1 := ⟨tW6 214 rfl rfl, tW1 9 (by decide +kernel) rfl, by decide, by decide +kernel⟩
theorem jX8_sew : gIn mX8_sew := ⟨tW6 212 (by decide +kernel) rfl, tW6 213 (by decide +kernel) rfl⟩
theorem kX8_shear : gCal mX8_shear 1 := ⟨tW7 44 rfl rfl, tW1 9 (by decide +kernel) rfl, by decide, by decide +kernel⟩
theorem jX8_shear : gIn mX8_shear := ⟨tW7 42 (by decide +kernel) rfl, tW7 43 (by decide +kernel) rfl⟩
theorem kX8_sign : gCal mX8_sign 3 := ⟨tW7 71 rfl rfl, tW1 9 (by decide +kernel) rfl, by decide, by decide +kernel⟩
theorem jX8_sign : gIn mX8_sign := ⟨tW7 70 (by decide +kernel) rfl, tP (List.mem_of_getElem? (i := 35) (by decide +kernel)) rfl⟩
theorem kX8_simulate : gCal mX8_simulate 2 := ⟨tW7 130 rfl rfl, tW1 9 (by decide +kernel) rfl, by decide, by decide +kernel⟩
theorem jX8_simulate : gIn mX8_simulate := ⟨tW7 128 (by decide +kernel) rfl, tW7 129 (by decide +kernel) rfl⟩
theorem kX8_skipped : gCal mX8_skipped 0 := ⟨tW6 56 rfl rfl, tW1 9 (by decide +kernel) rfl, by decide, by decide +kernel⟩
theorem jX8_skipped : gIn mX8_skipped := ⟨tW6 54 (by decide +kernel) rfl, tW6 55 (by decide +kernel) rfl⟩
theorem kX8_skippedIn : gCal mX8_skippedIn 1 := ⟨tW6 59 rfl rfl, tW1 9 (by decide +kernel) rfl, by decide, by decide +kernel⟩
theorem kX8_stir : gCal mX8_stir 1 := ⟨tW7 137 rfl rfl, tW1 9 (by decide +kernel) rfl, by decide, by decide +kernel⟩
theorem jX8_stir : gIn mX8_stir := ⟨tW7 136 (by decide +kernel) rfl, tP (List.mem_of_getElem? (i := 39) (by decide +kernel)) rfl⟩
theorem kX8_stitch : gCal mX8_stitch 1 := ⟨tW6 224 rfl rfl, tW1 9 (by decide +kernel) rfl, by decide, by decide +kernel⟩
theorem kX8_store : gCal mX8_store 1 := ⟨tW7 51 rfl rfl, tW1 9 (by decide +kernel) rfl, by decide, by decide +kernel⟩
theorem jX8_store : gIn mX8_store := ⟨tW7 49 (by decide +kernel) rfl, tW7 50 (by decide +kernel) rfl⟩
theorem kX8_take : gCal mX8_take 1 := ⟨tW6 5 rfl rfl, tW1 9 (by decide +kernel) rfl, by decide, by decide +kernel⟩
theorem jX8_take : gIn mX8_take := ⟨tW6 4 (by decide +kernel) rfl, tP (List.mem_of_getElem? (i := 24) (by decide +kernel)) rfl⟩
theorem kX8_tell : gCal mX8_tell 1 := ⟨tW6 103 rfl rfl, tW1 9 (by decide +kernel) rfl, by decide, by decide +kernel⟩
theorem jX8_tell : gIn mX8_tell := ⟨tW6 102 (by decide +kernel) rfl, tP (List.mem_of_getElem? (i := 29) (by decide +kernel)) rfl⟩
theorem kX8_tension : gCal mX8_tension 0 := ⟨tW6 119 rfl rfl, tW1 9 (by decide +kernel) rfl, by decide, by decide +kernel⟩
theorem jX8_tension : gIn mX8_tension := ⟨tW6 117 (by decide +kernel) rfl, tW6 118 (by decide +kernel) rfl⟩
theorem kX8_thread : gCal mX8_thread 1 := ⟨tW6 197 rfl rfl, tW1 9 (by decide +kernel) rfl, by decide, by decide +kernel⟩
theorem jX8_thread : gIn mX8_thread := ⟨tW6 195 (by decide +kernel) rfl, tW6 196 (by decide +kernel) rfl⟩
theorem kX8_threaded : gCal mX8_threaded 0 := ⟨tW6 111 rfl rfl, tW1 9 (by decide +kernel) rfl, by decide, by decide +kernel⟩
theorem jX8_threaded : gIn mX8_threaded := ⟨tW6 109 (by decide +kernel) rfl, tW6 110 (by decide +kernel) rfl⟩
theorem kX8_thrown : gCal mX8_thrown 0 := ⟨tW5 203 rfl rfl, tW1 9 (by decide +kernel) rfl, by decide, by decide +kernel⟩
theorem jX8_thrown : gIn mX8_thrown := ⟨tW5 201 (by decide +kernel) rfl, tW5 202 (by decide +kernel) rfl⟩
theorem kX8_tried : gCal mX8_tried 0 := ⟨tW7 118 rfl rfl, tW1 9 (by decide +kernel) rfl, by decide, by decide +kernel⟩
theorem jX8_tried : gIn mX8_tried := ⟨tW7 117 (by decide +kernel) rfl, tP (List.mem_of_getElem? (i := 38) (by decide +kernel)) rfl⟩
theorem kX8_turnLeft : gCal mX8_turnLeft 0 := ⟨tW6 238 rfl rfl, tW1 9 (by decide +kernel) rfl, by decide, by decide +kernel⟩
theorem jX8_turnLeft : gIn mX8_turnLeft := ⟨tW6 236 (by decide +kernel) rfl, tW6 237 (by decide +kernel) rfl⟩
theorem kX8_turnRight : gCal mX8_turnRight 0 := ⟨tW7 5 rfl rfl, tW1 9 (by decide +kernel) rfl, by decide, by decide +kernel⟩
theorem jX8_turnRight : gIn mX8_turnRight := ⟨tW7 3 (by decide +kernel) rfl, tW7 4 (by decide +kernel) rfl⟩
theorem kX8_undo : gCal mX8_undo 0 := ⟨tW7 83 rfl rfl, tW1 9 (by decide +kernel) rfl, by decide, by decide +kernel⟩
theorem jX8_undo : gIn mX8_undo := ⟨tW7 81 (by decide +kernel) rfl, tW7 82 (by decide +kernel) rfl⟩
theorem kX8_unpick : gCal mX8_unpick 1 := ⟨tW7 37 rfl rfl, tW1 9 (by decide +kernel) rfl, by decide, by decide +kernel⟩
theorem jX8_unpick : gIn mX8_unpick := ⟨tW7 35 (by decide +kernel) rfl, tW7 36 (by decide +kernel) rfl⟩
theorem kX8_untilKnot : gCal mX8_untilKnot 1 := ⟨tW6 160 rfl rfl, tW1 9 (by decide +kernel) rfl, by decide, by decide +kernel⟩
theorem jX8_untilKnot : gIn mX8_untilKnot := ⟨tW6 158 (by decide +kernel) rfl, tW6 159 (by decide +kernel) rfl⟩
theorem kX8_wasteOf : gCal mX8_wasteOf 1 := ⟨tW6 149 rfl rfl, tW1 9 (by decide +kernel) rfl, by decide, by decide +kernel⟩
theorem jX8_wasteOf : gIn mX8_wasteOf := ⟨tW6 147 (by decide +kernel) rfl, tW6 148 (by decide +kernel) rfl⟩
theorem kX8_whyNoMending : gCal mX8_whyNoMending 1 := ⟨tW7 91 rfl rfl, tW1 9 (by decide +kernel) rfl, by decide, by decide +kernel⟩
theorem jX8_whyNoMending : gIn mX8_whyNoMending := ⟨tW7 89 (by decide +kernel) rfl, tW7 90 (by decide +kernel) rfl⟩
theorem kX8_whyNoStitch : gCal mX8_whyNoStitch 0 := ⟨tW7 87 rfl rfl, tW1 9 (by decide +kernel) rfl, by decide, by decide +kernel⟩
theorem jX8_whyNoStitch : gIn mX8_whyNoStitch := ⟨tW7 85 (by decide +kernel) rfl, tW7 86 (by decide +kernel) rfl⟩
theorem kX8_wind : gCal mX8_wind 2 := ⟨tW7 25 rfl rfl, tW1 9 (by decide +kernel) rfl, by decide, by decide +kernel⟩
theorem jX8_wind : gIn mX8_wind := ⟨tW7 23 (by decide +kernel) rfl, tW7 24 (by decide +kernel) rfl⟩
theorem kX8_wouldSkip : gCal mX8_wouldSkip 0 := ⟨tW6 127 rfl rfl, tW1 9 (by decide +kernel) rfl, by decide, by decide +kernel⟩
theorem jX8_wouldSkip : gIn mX8_wouldSkip := ⟨tW6 125 (by decide +kernel) rfl, tW6 126 (by decide +kernel) rfl⟩
theorem kX8_wrong : gCal mX8_wrong 0 := ⟨tW6 52 rfl rfl, tW1 9 (by decide +kernel) rfl, by decide, by decide +kernel⟩
theorem jX8_wrong : gIn mX8_wrong := ⟨tW6 50 (by decide +kernel) rfl, tW6 51 (by decide +kernel) rfl⟩
theorem kX8_yarn : gCal mX8_yarn 1 := ⟨tW6 156 rfl rfl, tW1 9 (by decide +kernel) rfl, by decide, by decide +kernel⟩
theorem kX8_yarnBy : gCal mX8_yarnBy 1 := ⟨tW7 126 rfl rfl, tW1 9 (by decide +kernel) rfl, by decide, by decide +kernel⟩
theorem jX8_yarnBy : gIn mX8_yarnBy := ⟨tW7 124 (by decide +kernel) rfl, tW7 125 (by decide +kernel) rfl⟩
theorem qX7_9 {m : GM} (h : (gy m).cls = RX7) : Cond.classLink (gy m).cls 9 "RugPunch$Rug" ∈ gW := by rw [h]; exact tW1 26 (by decide +kernel) rfl
theorem qX2_9 {m : GM} (h : (gy m).cls = RX2) : Cond.classLink (gy m).cls 9 "RugPunch$Rug" ∈ gW := by rw [h]; exact tW1 133 (by decide +kernel) rfl
theorem qX3_11 {m : GM} (h : (gy m).cls = RX3) : Cond.classLink (gy m).cls 11 "RugPunch$Script" ∈ gW := by rw [h]; exact tW1 153 (by decide +kernel) rfl
theorem qX4_25 {m : GM} (h : (gy m).cls = RX4) : Cond.classLink (gy m).cls 25 "RugPunch$Script" ∈ gW := by rw [h]; exact tW1 71 (by decide +kernel) rfl
theorem oX7_3 {m : GM} (h : (gy m).cls = RX7) : Cond.methodLink (gy m).cls 3 Lib.objectInit ∈ gW := by rw [h]; exact tW1 23 (by decide +kernel) rfl
theorem iX7_11 {m : GM} (h : (gy m).cls = RX7) : gIni m mX4_init 11 0 := ⟨kX4_init, rfl, rfl, rfl, tW1 29 (by decide +kernel) rfl, Or.inl (by rw [h]; exact tW1 28 (by decide +kernel) rfl)⟩
theorem iX7_25 {m : GM} (h : (gy m).cls = RX7) : gIni m mX2_init 25 0 := ⟨kX2_init, rfl, rfl, rfl, tW1 130 (by decide +kernel) rfl, Or.inr ⟨"RugPunch", by rw [h]; exact tN1 129 (by decide +kernel) rfl⟩⟩
theorem iX7_32 {m : GM} (h : (gy m).cls = RX7) : gIni m mX5_init 32 0 := ⟨kX5_init, rfl, rfl, rfl, tW1 75 (by decide +kernel) rfl, Or.inr ⟨"RugPunch", by rw [h]; exact tN1 146 (by decide +kernel) rfl⟩⟩
theorem iX7_39 {m : GM} (h : (gy m).cls = RX7) : gIni m mX3_init 39 0 := ⟨kX3_init, rfl, rfl, rfl, tW1 150 (by decide +kernel) rfl, Or.inr ⟨"RugPunch", by rw [h]; exact tN1 149 (by decide +kernel) rfl⟩⟩
theorem iX7_46 {m : GM} (h : (gy m).cls = RX7) : gIni m mX0_init 46 0 := ⟨kX0_init, rfl, rfl, rfl, tW1 179 (by decide +kernel) rfl, Or.inr ⟨"RugPunch", by rw [h]; exact tN1 178 (by decide +kernel) rfl⟩⟩
theorem oX0_3 {m : GM} (h : (gy m).cls = RX0) : Cond.methodLink (gy m).cls 3 Lib.objectInit ∈ gW := by rw [h]; exact tW1 181 (by decide +kernel) rfl
theorem oX1_3 {m : GM} (h : (gy m).cls = RX1) : Cond.methodLink (gy m).cls 3 Lib.objectInit ∈ gW := by rw [h]; exact tW1 37 (by decide +kernel) rfl
theorem oX2_1 {m : GM} (h : (gy m).cls = RX2) : Cond.methodLink (gy m).cls 1 Lib.objectInit ∈ gW := by rw [h]; exact tW1 132 (by decide +kernel) rfl
theorem iX2_28 {m : GM} (h : (gy m).cls = RX2) : gIni m mX4_init 28 0 := ⟨kX4_init, rfl, rfl, rfl, tW1 29 (by decide +kernel) rfl, Or.inl (by rw [h]; exact tW2 106 (by decide +kernel) rfl)⟩
theorem oX3_3 {m : GM} (h : (gy m).cls = RX3) : Cond.methodLink (gy m).cls 3 Lib.objectInit ∈ gW := by rw [h]; exact tW1 152 (by decide +kernel) rfl
theorem oX4_3 {m : GM} (h : (gy m).cls = RX4) : Cond.methodLink (gy m).cls 3 Lib.objectInit ∈ gW := by rw [h]; exact tW1 31 (by decide +kernel) rfl
theorem iX4_11 {m : GM} (h : (gy m).cls = RX4) : gIni m mX1_init 11 0 := ⟨kX1_init, rfl, rfl, rfl, tW1 35 (by decide +kernel) rfl, Or.inl (by rw [h]; exact tW1 34 (by decide +kernel) rfl)⟩
theorem iX4_20 {m : GM} (h : (gy m).cls = RX4) : gIni m mX6_init 20 0 := ⟨kX6_init, rfl, rfl, rfl, tW1 52 (by decide +kernel) rfl, Or.inl (by rw [h]; exact tW1 51 (by decide +kernel) rfl)⟩
theorem iX4_38 {m : GM} (h : (gy m).cls = RX4) : gIni m mX5_init 38 0 := ⟨kX5_init, rfl, rfl, rfl, tW1 75 (by decide +kernel) rfl, Or.inr ⟨"RugPunch", by rw [h]; exact tN1 74 (by decide +kernel) rfl⟩⟩
theorem oX5_3 {m : GM} (h : (gy m).cls = RX5) : Cond.methodLink (gy m).cls 3 Lib.objectInit ∈ gW := by rw [h]; exact tW1 77 (by decide +kernel) rfl
theorem oX6_3 {m : GM} (h : (gy m).cls = RX6) : Cond.methodLink (gy m).cls 3 Lib.objectInit ∈ gW := by rw [h]; exact tW1 54 (by decide +kernel) rfl
theorem iL_144 {m : GM} (h : (gy m).cls = RL) : gIni m mX7_init 144 0 := ⟨kX7_init, rfl, rfl, rfl, tW1 21 (by decide +kernel) rfl, Or.inl (by rw [h]; exact tW1 20 (by decide +kernel) rfl)⟩
theorem iL_147 {m : GM} (h : (gy m).cls = RL) : gIni m mX8_init 147 0 := ⟨kX8_init, rfl, rfl, rfl, tW5 136 (by decide +kernel) rfl, Or.inl (by rw [h]; exact tW5 135 (by decide +kernel) rfl)⟩
theorem oX8_1 {m : GM} (h : (gy m).cls = RX8) : Cond.methodLink (gy m).cls 1 Lib.objectInit ∈ gW := by rw [h]; exact tW5 138 (by decide +kernel) rfl
theorem zX7_120 {m : GM} (h : (gy m).cls = RX7) : Cond.constantFloat (gy m).cls 120 (1125122048) ∈ gW := by rw [h]; exact tW2 47 (by decide +kernel) rfl
theorem zX7_297 {m : GM} (h : (gy m).cls = RX7) : Cond.constantLong (gy m).cls 297 (6364136223846793005) ∈ gW := by rw [h]; exact tW5 108 (by decide +kernel) rfl
theorem zX7_299 {m : GM} (h : (gy m).cls = RX7) : Cond.constantLong (gy m).cls 299 (1442695040888963407) ∈ gW := by rw [h]; exact tW5 109 (by decide +kernel) rfl
theorem zX3_41 {m : GM} (h : (gy m).cls = RX3) : Cond.constant (gy m).cls 41 (1000000) ∈ gW := by rw [h]; exact tW4 228 (by decide +kernel) rfl
theorem zL_354 {m : GM} (h : (gy m).cls = RL) : Cond.constantLong (gy m).cls 354 (4294967295) ∈ gW := by rw [h]; exact tW7 146 (by decide +kernel) rfl
theorem zX8_51 {m : GM} (h : (gy m).cls = RX8) : Cond.constantLong (gy m).cls 51 (143) ∈ gW := by rw [h]; exact tW6 21 (by decide +kernel) rfl
theorem zX8_57 {m : GM} (h : (gy m).cls = RX8) : Cond.constantLong (gy m).cls 57 (4) ∈ gW := by rw [h]; exact tW6 71 (by decide +kernel) rfl
theorem zX8_59 {m : GM} (h : (gy m).cls = RX8) : Cond.constantLong (gy m).cls 59 (5) ∈ gW := by rw [h]; exact tW6 29 (by decide +kernel) rfl
theorem zX8_69 {m : GM} (h : (gy m).cls = RX8) : Cond.constantLong (gy m).cls 69 (11) ∈ gW := by rw [h]; exact tW6 79 (by decide +kernel) rfl
theorem zX8_144 {m : GM} (h : (gy m).cls = RX8) : Cond.constantLong (gy m).cls 144 (255) ∈ gW := by rw [h]; exact tW5 208 (by decide +kernel) rfl
theorem zX8_173 {m : GM} (h : (gy m).cls = RX8) : Cond.constantLong (gy m).cls 173 (50) ∈ gW := by rw [h]; exact tW5 236 (by decide +kernel) rfl
theorem zX8_175 {m : GM} (h : (gy m).cls = RX8) : Cond.constantLong (gy m).cls 175 (57) ∈ gW := by rw [h]; exact tW5 237 (by decide +kernel) rfl
theorem zX8_210 {m : GM} (h : (gy m).cls = RX8) : Cond.constantFloat (gy m).cls 210 (1125122048) ∈ gW := by rw [h]; exact tW6 91 (by decide +kernel) rfl
theorem zX8_214 {m : GM} (h : (gy m).cls = RX8) : Cond.constantLong (gy m).cls 214 (3) ∈ gW := by rw [h]; exact tW6 172 (by decide +kernel) rfl
theorem zX8_219 {m : GM} (h : (gy m).cls = RX8) : Cond.constantLong (gy m).cls 219 (-1) ∈ gW := by rw [h]; exact tW6 181 (by decide +kernel) rfl
theorem zX8_224 {m : GM} (h : (gy m).cls = RX8) : Cond.constantLong (gy m).cls 224 (12) ∈ gW := by rw [h]; exact tW6 215 (by decide +kernel) rfl
theorem zX8_226 {m : GM} (h : (gy m).cls = RX8) : Cond.constantLong (gy m).cls 226 (9) ∈ gW := by rw [h]; exact tW7 17 (by decide +kernel) rfl
theorem zX8_228 {m : GM} (h : (gy m).cls = RX8) : Cond.constantLong (gy m).cls 228 (9999) ∈ gW := by rw [h]; exact tW7 26 (by decide +kernel) rfl
theorem zX8_253 {m : GM} (h : (gy m).cls = RX8) : Cond.constantLong (gy m).cls 253 (60) ∈ gW := by rw [h]; exact tW7 131 (by decide +kernel) rfl
theorem zX8_255 {m : GM} (h : (gy m).cls = RX8) : Cond.constantLong (gy m).cls 255 (6364136223846793005) ∈ gW := by rw [h]; exact tW7 132 (by decide +kernel) rfl
theorem zX8_257 {m : GM} (h : (gy m).cls = RX8) : Cond.constantLong (gy m).cls 257 (1442695040888963407) ∈ gW := by rw [h]; exact tW7 133 (by decide +kernel) rfl
theorem nX7_9 {m : GM} (h : (gy m).cls = RX7) : gNW m 9 4 9 [.null, .null, .null, .int 0, .int 0, .int 0, .int 0, .int 0, .int 0] := ⟨RX4, TX4, tyX4, rfl, uX4, tyX4_ok, by decide, by rw [h]; exact tW1 26 (by decide +kernel) rfl, tW1 27 (by decide +kernel) rfl, tW1 2 (by decide +kernel) rfl⟩
theorem nX7_23 {m : GM} (h : (gy m).cls = RX7) : gNW m 23 2 3 [.null, .int 0, .int 0] := ⟨RX2, TX2, tyX2, rfl, uX2, tyX2_ok, by decide, by rw [h]; exact tW1 127 (by decide +kernel) rfl, tW1 128 (by decide +kernel) rfl, tW1 6 (by decide +kernel) rfl⟩
theorem nX7_30 {m : GM} (h : (gy m).cls = RX7) : gNW m 30 5 2 [.null, .int 0] := ⟨RX5, TX5, tyX5, rfl, uX5, tyX5_ok, by decide, by rw [h]; exact tW1 145 (by decide +kernel) rfl, tW1 73 (by decide +kernel) rfl, tW1 5 (by decide +kernel) rfl⟩
theorem nX7_37 {m : GM} (h : (gy m).cls = RX7) : gNW m 37 3 7 [.null, .null, .null, .null, .int 0, .int 0, .int 0] := ⟨RX3, TX3, tyX3, rfl, uX3, tyX3_ok, by decide, by rw [h]; exact tW1 147 (by decide +kernel) rfl, tW1 148 (by decide +kernel) rfl, tW1 7 (by decide +kernel) rfl⟩
theorem nX7_44 {m : GM} (h : (gy m).cls = RX7) : gNW m 44 0 4 [.null, .null, .int 0, .null] := ⟨RX0, TX0, tyX0, rfl, uX0, tyX0_ok, by decide, by rw [h]; exact tW1 176 (by decide +kernel) rfl, tW1 177 (by decide +kernel) rfl, tW1 8 (by decide +kernel) rfl⟩
theorem nX2_9 {m : GM} (h : (gy m).cls = RX2) : gNW m 9 4 9 [.null, .null, .null, .int 0, .int 0, .int 0, .int 0, .int 0, .int 0] := ⟨RX4, TX4, tyX4, rfl, uX4, tyX4_ok, by decide, by rw [h]; exact tW1 133 (by decide +kernel) rfl, tW1 27 (by decide +kernel) rfl, tW1 2 (by decide +kernel) rfl⟩
theorem nX4_9 {m : GM} (h : (gy m).cls = RX4) : gNW m 9 1 3 [.null, .null, .null] := ⟨RX1, TX1, tyX1, rfl, uX1, tyX1_ok, by decide, by rw [h]; exact tW1 32 (by decide +kernel) rfl, tW1 33 (by decide +kernel) rfl, tW1 3 (by decide +kernel) rfl⟩
theorem nX4_18 {m : GM} (h : (gy m).cls = RX4) : gNW m 18 6 5 [.null, .null, .null, .null, .null] := ⟨RX6, TX6, tyX6, rfl, uX6, tyX6_ok, by decide, by rw [h]; exact tW1 49 (by decide +kernel) rfl, tW1 50 (by decide +kernel) rfl, tW1 4 (by decide +kernel) rfl⟩
theorem nX4_25 {m : GM} (h : (gy m).cls = RX4) : gNW m 25 5 2 [.null, .int 0] := ⟨RX5, TX5, tyX5, rfl, uX5, tyX5_ok, by decide, by rw [h]; exact tW1 71 (by decide +kernel) rfl, tW1 73 (by decide +kernel) rfl, tW1 5 (by decide +kernel) rfl⟩
theorem nL_8 {m : GM} (h : (gy m).cls = RL) : gNW m 8 7 7 [.null, .null, .null, .null, .null, .null, .null] := ⟨RX7, TX7, tyX7, rfl, uX7, tyX7_ok, by decide, by rw [h]; exact tW1 18 (by decide +kernel) rfl, tW1 19 (by decide +kernel) rfl, tW1 1 (by decide +kernel) rfl⟩
theorem nL_145 {m : GM} (h : (gy m).cls = RL) : gNW m 145 8 20 [.int 0, .null, .null, .null, .null, .null, .null, .null, .null, .int 0, .int 0, .null, .int 0, .null, .null, .null, .int 0, .int 0, .int 0, .int 0] := ⟨RX8, TX8, tyX8, rfl, uX8, tyX8_ok, by decide, by rw [h]; exact tW5 133 (by decide +kernel) rfl, tW5 134 (by decide +kernel) rfl, tW1 9 (by decide +kernel) rfl⟩
theorem sX7_51 {m : GM} (h : (gy m).cls = RX7) : gSta m mX7_needRange 51 3 := ⟨kX7_needRange, rfl, tW2 213 (by decide +kernel) rfl, Or.inl (by rw [h]; exact tW2 212 (by decide +kernel) rfl)⟩
theorem sX7_74 {m : GM} (h : (gy m).cls = RX7) : gSta m mX7_needCell 74 1 := ⟨kX7_needCell, rfl, tW3 72 (by decide +kernel) rfl, Or.inl (by rw [h]; exact tW3 71 (by decide +kernel) rfl)⟩
theorem sX7_110 {m : GM} (h : (gy m).cls = RX7) : gSta m mX7_needColour 110 1 := ⟨kX7_needColour, rfl, tW3 129 (by decide +kernel) rfl, Or.inl (by rw [h]; exact tW3 128 (by decide +kernel) rfl)⟩
theorem sX7_139 {m : GM} (h : (gy m).cls = RX7) : gSta m mX7_beside 139 2 := ⟨kX7_beside, rfl, tW2 81 (by decide +kernel) rfl, Or.inl (by rw [h]; exact tW2 80 (by decide +kernel) rfl)⟩
theorem sX7_171 {m : GM} (h : (gy m).cls = RX7) : gSta m mX7_yarnForLoop 171 1 := ⟨kX7_yarnForLoop, rfl, tW2 155 (by decide +kernel) rfl, Or.inl (by rw [h]; exact tW3 219 (by decide +kernel) rfl)⟩
theorem sX7_177 {m : GM} (h : (gy m).cls = RX7) : gSta m mX7_needMotif 177 1 := ⟨kX7_needMotif, rfl, tW3 235 (by decide +kernel) rfl, Or.inl (by rw [h]; exact tW3 234 (by decide +kernel) rfl)⟩
theorem sX7_304 {m : GM} (h : (gy m).cls = RX7) : gSta m mX7_needSlot 304 1 := ⟨kX7_needSlot, rfl, tW5 122 (by decide +kernel) rfl, Or.inl (by rw [h]; exact tW5 121 (by decide +kernel) rfl)⟩
theorem sX0_39 {m : GM} (h : (gy m).cls = RX0) : gSta m mX7_beside 39 2 := ⟨kX7_beside, rfl, tW2 81 (by decide +kernel) rfl, Or.inr ⟨"RugPunch", by rw [h]; exact tN3 145 (by decide +kernel) rfl⟩⟩
theorem aX1_21 {m : GM} (h : (gy m).cls = RX1) : gAC m 21 := ⟨by rw [h]; exact tW2 115 (by decide +kernel) rfl, tW2 117 (by decide +kernel) rfl, tW2 116 (by decide +kernel) rfl, tW1 17 (by decide +kernel) rfl⟩
theorem sX1_34 {m : GM} (h : (gy m).cls = RX1) : gSta m mJ_max 34 2 := ⟨kJ_max, rfl, tW4 37 (by decide +kernel) rfl, Or.inl (by rw [h]; exact tW4 36 (by decide +kernel) rfl)⟩
theorem sX1_40 {m : GM} (h : (gy m).cls = RX1) : gSta m mJ_min 40 2 := ⟨kJ_min, rfl, tW4 40 (by decide +kernel) rfl, Or.inl (by rw [h]; exact tW4 39 (by decide +kernel) rfl)⟩
theorem sX1_55 {m : GM} (h : (gy m).cls = RX1) : gSta m mX7_yarnForLoop 55 1 := ⟨kX7_yarnForLoop, rfl, tW2 155 (by decide +kernel) rfl, Or.inr ⟨"RugPunch", by rw [h]; exact tN3 192 (by decide +kernel) rfl⟩⟩
theorem sX1_62 {m : GM} (h : (gy m).cls = RX1) : gSta m mJ_abs 62 1 := ⟨kJ_abs, rfl, tW5 59 (by decide +kernel) rfl, Or.inl (by rw [h]; exact tW5 58 (by decide +kernel) rfl)⟩
theorem sX2_22 {m : GM} (h : (gy m).cls = RX2) : gSta m mJ_floorMod 22 2 := ⟨kJ_floorMod, rfl, tW2 104 (by decide +kernel) rfl, Or.inl (by rw [h]; exact tW2 103 (by decide +kernel) rfl)⟩
theorem sX3_61 {m : GM} (h : (gy m).cls = RX3) : gSta m mX3_signsOf 61 1 := ⟨kX3_signsOf, rfl, tW5 0 (by decide +kernel) rfl, Or.inl (by rw [h]; exact tW4 239 (by decide +kernel) rfl)⟩
theorem sX4_75 {m : GM} (h : (gy m).cls = RX4) : gSta m mX7_yarnForLoop 75 1 := ⟨kX7_yarnForLoop, rfl, tW2 155 (by decide +kernel) rfl, Or.inr ⟨"RugPunch", by rw [h]; exact tN2 154 (by decide +kernel) rfl⟩⟩
theorem sX4_121 {m : GM} (h : (gy m).cls = RX4) : gSta m mX7_beside 121 2 := ⟨kX7_beside, rfl, tW2 81 (by decide +kernel) rfl, Or.inr ⟨"RugPunch", by rw [h]; exact tN2 202 (by decide +kernel) rfl⟩⟩
theorem sX4_124 {m : GM} (h : (gy m).cls = RX4) : gSta m mJ_floorMod 124 2 := ⟨kJ_floorMod, rfl, tW2 104 (by decide +kernel) rfl, Or.inl (by rw [h]; exact tW2 136 (by decide +kernel) rfl)⟩
theorem aX5_19 {m : GM} (h : (gy m).cls = RX5) : gAC m 19 := ⟨by rw [h]; exact tW2 131 (by decide +kernel) rfl, tW2 117 (by decide +kernel) rfl, tW2 116 (by decide +kernel) rfl, tW1 17 (by decide +kernel) rfl⟩
theorem sX5_29 {m : GM} (h : (gy m).cls = RX5) : gSta m mX5_awaitedAfter 29 3 := ⟨kX5_awaitedAfter, rfl, tW1 231 (by decide +kernel) rfl, Or.inl (by rw [h]; exact tW1 230 (by decide +kernel) rfl)⟩
theorem sX5_33 {m : GM} (h : (gy m).cls = RX5) : gSta m mX5_startOfOrder 33 2 := ⟨kX5_startOfOrder, rfl, tW1 234 (by decide +kernel) rfl, Or.inl (by rw [h]; exact tW1 233 (by decide +kernel) rfl)⟩
theorem sX5_37 {m : GM} (h : (gy m).cls = RX5) : gSta m mX5_endOfOrder 37 3 := ⟨kX5_endOfOrder, rfl, tW1 237 (by decide +kernel) rfl, Or.inl (by rw [h]; exact tW1 236 (by decide +kernel) rfl)⟩
theorem aX6_27 {m : GM} (h : (gy m).cls = RX6) : gAC m 27 := ⟨by rw [h]; exact tW2 122 (by decide +kernel) rfl, tW2 117 (by decide +kernel) rfl, tW2 116 (by decide +kernel) rfl, tW1 17 (by decide +kernel) rfl⟩
theorem sL_148 {m : GM} (h : (gy m).cls = RL) : gStaH m mL_append 148 3 := ⟨kL_append, by decide, tW2 204 (by decide +kernel) rfl, by rw [h]; exact tW2 203 (by decide +kernel) rfl⟩
theorem sL_165 {m : GM} (h : (gy m).cls = RL) : gStaH m mL_planOf 165 3 := ⟨kL_planOf, by decide, tW3 64 (by decide +kernel) rfl, by rw [h]; exact tW3 63 (by decide +kernel) rfl⟩
theorem sL_168 {m : GM} (h : (gy m).cls = RL) : gStaH m mL_loopOf 168 3 := ⟨kL_loopOf, by decide, tW3 92 (by decide +kernel) rfl, by rw [h]; exact tW3 91 (by decide +kernel) rfl⟩
theorem sL_171 {m : GM} (h : (gy m).cls = RL) : gStaH m mL_heightOf 171 3 := ⟨kL_heightOf, by decide, tW3 100 (by decide +kernel) rfl, by rw [h]; exact tW3 99 (by decide +kernel) rfl⟩
theorem sL_174 {m : GM} (h : (gy m).cls = RL) : gStaH m mL_isSkipped 174 3 := ⟨kL_isSkipped, by decide, tW3 111 (by decide +kernel) rfl, by rw [h]; exact tW3 110 (by decide +kernel) rfl⟩
theorem sL_193 {m : GM} (h : (gy m).cls = RL) : gStaH m mL_areasBySpreading 193 3 := ⟨kL_areasBySpreading, by decide, tW3 122 (by decide +kernel) rfl, by rw [h]; exact tW3 121 (by decide +kernel) rfl⟩
theorem sL_196 {m : GM} (h : (gy m).cls = RL) : gStaH m mL_areasByJoining 196 3 := ⟨kL_areasByJoining, by decide, tW3 147 (by decide +kernel) rfl, by rw [h]; exact tW3 146 (by decide +kernel) rfl⟩
theorem sL_238 {m : GM} (h : (gy m).cls = RL) : gStaH m mL_coneOf 238 3 := ⟨kL_coneOf, by decide, tW3 166 (by decide +kernel) rfl, by rw [h]; exact tW3 165 (by decide +kernel) rfl⟩
theorem sL_241 {m : GM} (h : (gy m).cls = RL) : gStaH m mL_drawnByCone 241 3 := ⟨kL_drawnByCone, by decide, tW3 174 (by decide +kernel) rfl, by rw [h]; exact tW3 173 (by decide +kernel) rfl⟩
theorem sL_244 {m : GM} (h : (gy m).cls = RL) : gStaH m mL_drawnByRug 244 3 := ⟨kL_drawnByRug, by decide, tW3 182 (by decide +kernel) rfl, by rw [h]; exact tW3 181 (by decide +kernel) rfl⟩
theorem sL_247 {m : GM} (h : (gy m).cls = RL) : gStaH m mL_wasteOf 247 3 := ⟨kL_wasteOf, by decide, tW3 198 (by decide +kernel) rfl, by rw [h]; exact tW3 197 (by decide +kernel) rfl⟩
theorem sL_250 {m : GM} (h : (gy m).cls = RL) : gStaH m mL_neededFor 250 3 := ⟨kL_neededFor, by decide, tW3 209 (by decide +kernel) rfl, by rw [h]; exact tW3 208 (by decide +kernel) rfl⟩
theorem sL_253 {m : GM} (h : (gy m).cls = RL) : gStaH m mL_untilKnot 253 3 := ⟨kL_untilKnot, by decide, tW3 221 (by decide +kernel) rfl, by rw [h]; exact tW3 220 (by decide +kernel) rfl⟩
theorem sL_260 {m : GM} (h : (gy m).cls = RL) : gStaH m mL_motifLength 260 3 := ⟨kL_motifLength, by decide, tW3 228 (by decide +kernel) rfl, by rw [h]; exact tW3 227 (by decide +kernel) rfl⟩
theorem sL_263 {m : GM} (h : (gy m).cls = RL) : gStaH m mL_motifSign 263 4 := ⟨kL_motifSign, by decide, tW4 3 (by decide +kernel) rfl, by rw [h]; exact tW4 2 (by decide +kernel) rfl⟩
theorem sL_267 {m : GM} (h : (gy m).cls = RL) : gStaH m mL_setPlan 267 4 := ⟨kL_setPlan, by decide, tW4 15 (by decide +kernel) rfl, by rw [h]; exact tW4 14 (by decide +kernel) rfl⟩
theorem sL_270 {m : GM} (h : (gy m).cls = RL) : gStaH m mL_fillPlan 270 5 := ⟨kL_fillPlan, by decide, tW4 26 (by decide +kernel) rfl, by rw [h]; exact tW4 25 (by decide +kernel) rfl⟩
theorem sL_274 {m : GM} (h : (gy m).cls = RL) : gStaH m mL_thread 274 3 := ⟨kL_thread, by decide, tW4 44 (by decide +kernel) rfl, by rw [h]; exact tW4 43 (by decide +kernel) rfl⟩
theorem sL_277 {m : GM} (h : (gy m).cls = RL) : gStaH m mL_cut 277 2 := ⟨kL_cut, by decide, tW4 70 (by decide +kernel) rfl, by rw [h]; exact tW4 69 (by decide +kernel) rfl⟩
theorem sL_281 {m : GM} (h : (gy m).cls = RL) : gStaH m mL_sew 281 3 := ⟨kL_sew, by decide, tW4 83 (by decide +kernel) rfl, by rw [h]; exact tW4 82 (by decide +kernel) rfl⟩
theorem sL_284 {m : GM} (h : (gy m).cls = RL) : gStaH m mL_jump 284 3 := ⟨kL_jump, by decide, tW4 91 (by decide +kernel) rfl, by rw [h]; exact tW4 90 (by decide +kernel) rfl⟩
theorem sL_295 {m : GM} (h : (gy m).cls = RL) : gStaH m mL_ease 295 2 := ⟨kL_ease, by decide, tW4 102 (by decide +kernel) rfl, by rw [h]; exact tW4 101 (by decide +kernel) rfl⟩
theorem sL_298 {m : GM} (h : (gy m).cls = RL) : gStaH m mL_setHeight 298 3 := ⟨kL_setHeight, by decide, tW4 117 (by decide +kernel) rfl, by rw [h]; exact tW4 116 (by decide +kernel) rfl⟩
theorem sL_301 {m : GM} (h : (gy m).cls = RL) : gStaH m mL_place 301 4 := ⟨kL_place, by decide, tW4 124 (by decide +kernel) rfl, by rw [h]; exact tW4 123 (by decide +kernel) rfl⟩
theorem sL_304 {m : GM} (h : (gy m).cls = RL) : gStaH m mL_wind 304 4 := ⟨kL_wind, by decide, tW4 132 (by decide +kernel) rfl, by rw [h]; exact tW4 131 (by decide +kernel) rfl⟩
theorem sL_307 {m : GM} (h : (gy m).cls = RL) : gStaH m mL_mend 307 3 := ⟨kL_mend, by decide, tW4 144 (by decide +kernel) rfl, by rw [h]; exact tW4 143 (by decide +kernel) rfl⟩
theorem sL_310 {m : GM} (h : (gy m).cls = RL) : gStaH m mL_unpick 310 3 := ⟨kL_unpick, by decide, tW4 162 (by decide +kernel) rfl, by rw [h]; exact tW4 161 (by decide +kernel) rfl⟩
theorem sL_313 {m : GM} (h : (gy m).cls = RL) : gStaH m mL_shear 313 3 := ⟨kL_shear, by decide, tW4 179 (by decide +kernel) rfl, by rw [h]; exact tW4 178 (by decide +kernel) rfl⟩
theorem sL_316 {m : GM} (h : (gy m).cls = RL) : gStaH m mL_store 316 3 := ⟨kL_store, by decide, tW4 190 (by decide +kernel) rfl, by rw [h]; exact tW4 189 (by decide +kernel) rfl⟩
theorem sL_319 {m : GM} (h : (gy m).cls = RL) : gStaH m mL_run 319 3 := ⟨kL_run, by decide, tW4 213 (by decide +kernel) rfl, by rw [h]; exact tW4 212 (by decide +kernel) rfl⟩
theorem sL_322 {m : GM} (h : (gy m).cls = RL) : gStaH m mL_runText 322 2 := ⟨kL_runText, by decide, tW5 18 (by decide +kernel) rfl, by rw [h]; exact tW5 17 (by decide +kernel) rfl⟩
theorem sL_325 {m : GM} (h : (gy m).cls = RL) : gStaH m mL_undo 325 2 := ⟨kL_undo, by decide, tW5 25 (by decide +kernel) rfl, by rw [h]; exact tW5 24 (by decide +kernel) rfl⟩
theorem sL_332 {m : GM} (h : (gy m).cls = RL) : gStaH m mL_whyNoMending 332 3 := ⟨kL_whyNoMending, by decide, tW5 37 (by decide +kernel) rfl, by rw [h]; exact tW5 36 (by decide +kernel) rfl⟩
theorem sL_339 {m : GM} (h : (gy m).cls = RL) : gStaH m mL_nearestByRings 339 3 := ⟨kL_nearestByRings, by decide, tW5 44 (by decide +kernel) rfl, by rw [h]; exact tW5 43 (by decide +kernel) rfl⟩
theorem sL_342 {m : GM} (h : (gy m).cls = RL) : gStaH m mL_nearestByCells 342 3 := ⟨kL_nearestByCells, by decide, tW5 66 (by decide +kernel) rfl, by rw [h]; exact tW5 65 (by decide +kernel) rfl⟩
theorem sL_345 {m : GM} (h : (gy m).cls = RL) : gStaH m mL_loopsBy 345 2 := ⟨kL_loopsBy, by decide, tW5 77 (by decide +kernel) rfl, by rw [h]; exact tW5 76 (by decide +kernel) rfl⟩
theorem sL_348 {m : GM} (h : (gy m).cls = RL) : gStaH m mL_needleBy 348 2 := ⟨kL_needleBy, by decide, tW5 88 (by decide +kernel) rfl, by rw [h]; exact tW5 87 (by decide +kernel) rfl⟩
theorem sL_351 {m : GM} (h : (gy m).cls = RL) : gStaH m mL_yarnBy 351 3 := ⟨kL_yarnBy, by decide, tW5 95 (by decide +kernel) rfl, by rw [h]; exact tW5 94 (by decide +kernel) rfl⟩
theorem sL_356 {m : GM} (h : (gy m).cls = RL) : gStaH m mL_simulate 356 4 := ⟨kL_simulate, by decide, tW5 102 (by decide +kernel) rfl, by rw [h]; exact tW5 101 (by decide +kernel) rfl⟩
theorem sL_360 {m : GM} (h : (gy m).cls = RL) : gStaH m mL_save 360 3 := ⟨kL_save, by decide, tW5 115 (by decide +kernel) rfl, by rw [h]; exact tW5 114 (by decide +kernel) rfl⟩
theorem sL_363 {m : GM} (h : (gy m).cls = RL) : gStaH m mL_restore 363 3 := ⟨kL_restore, by decide, tW5 126 (by decide +kernel) rfl, by rw [h]; exact tW5 125 (by decide +kernel) rfl⟩
theorem sX8_53 {m : GM} (h : (gy m).cls = RX8) : gSta m mX8_in 53 3 := ⟨kX8_in, rfl, tW5 210 (by decide +kernel) rfl, Or.inl (by rw [h]; exact tW5 209 (by decide +kernel) rfl)⟩
theorem sX8_61 {m : GM} (h : (gy m).cls = RX8) : gSta m mX8_hasLoop 61 2 := ⟨kX8_hasLoop, rfl, tW6 27 (by decide +kernel) rfl, Or.inl (by rw [h]; exact tW6 26 (by decide +kernel) rfl)⟩
theorem sX8_65 {m : GM} (h : (gy m).cls = RX8) : gSta m mX8_cone 65 3 := ⟨kX8_cone, rfl, tW6 133 (by decide +kernel) rfl, Or.inl (by rw [h]; exact tW6 132 (by decide +kernel) rfl)⟩
theorem sX8_71 {m : GM} (h : (gy m).cls = RX8) : gSta m mX8_drawn 71 2 := ⟨kX8_drawn, rfl, tW6 140 (by decide +kernel) rfl, Or.inl (by rw [h]; exact tW6 139 (by decide +kernel) rfl)⟩
theorem sX8_75 {m : GM} (h : (gy m).cls = RX8) : gSta m mX8_draw 75 4 := ⟨kX8_draw, rfl, tW6 205 (by decide +kernel) rfl, Or.inl (by rw [h]; exact tW6 204 (by decide +kernel) rfl)⟩
theorem sX8_79 {m : GM} (h : (gy m).cls = RX8) : gSta m mX8_goCut 79 1 := ⟨kX8_goCut, rfl, tW6 202 (by decide +kernel) rfl, Or.inl (by rw [h]; exact tW6 201 (by decide +kernel) rfl)⟩
theorem sX8_83 {m : GM} (h : (gy m).cls = RX8) : gSta m mX8_yarn 83 1 := ⟨kX8_yarn, rfl, tW6 155 (by decide +kernel) rfl, Or.inl (by rw [h]; exact tW6 154 (by decide +kernel) rfl)⟩
theorem sX8_87 {m : GM} (h : (gy m).cls = RX8) : gSta m mX8_pull 87 5 := ⟨kX8_pull, rfl, tW6 226 (by decide +kernel) rfl, Or.inl (by rw [h]; exact tW6 225 (by decide +kernel) rfl)⟩
theorem sX8_91 {m : GM} (h : (gy m).cls = RX8) : gSta m mX8_next 91 2 := ⟨kX8_next, rfl, tW6 77 (by decide +kernel) rfl, Or.inl (by rw [h]; exact tW6 76 (by decide +kernel) rfl)⟩
theorem sX8_95 {m : GM} (h : (gy m).cls = RX8) : gSta m mX8_noStitch 95 1 := ⟨kX8_noStitch, rfl, tW6 217 (by decide +kernel) rfl, Or.inl (by rw [h]; exact tW6 216 (by decide +kernel) rfl)⟩
theorem sX8_98 {m : GM} (h : (gy m).cls = RX8) : gSta m mX8_stitch 98 1 := ⟨kX8_stitch, rfl, tW6 223 (by decide +kernel) rfl, Or.inl (by rw [h]; exact tW6 222 (by decide +kernel) rfl)⟩
theorem sX8_111 {m : GM} (h : (gy m).cls = RX8) : gSta m mX8_goSew 111 2 := ⟨kX8_goSew, rfl, tW6 220 (by decide +kernel) rfl, Or.inl (by rw [h]; exact tW6 219 (by decide +kernel) rfl)⟩
theorem sX8_114 {m : GM} (h : (gy m).cls = RX8) : gSta m mX8_goJump 114 2 := ⟨kX8_goJump, rfl, tW6 233 (by decide +kernel) rfl, Or.inl (by rw [h]; exact tW6 232 (by decide +kernel) rfl)⟩
theorem sX8_121 {m : GM} (h : (gy m).cls = RX8) : gSta m mX8_goTurn 121 2 := ⟨kX8_goTurn, rfl, tW7 0 (by decide +kernel) rfl, Or.inl (by rw [h]; exact tW6 239 (by decide +kernel) rfl)⟩
theorem sX8_124 {m : GM} (h : (gy m).cls = RX8) : gSta m mX8_goEase 124 1 := ⟨kX8_goEase, rfl, tW7 11 (by decide +kernel) rfl, Or.inl (by rw [h]; exact tW7 10 (by decide +kernel) rfl)⟩
theorem sX8_127 {m : GM} (h : (gy m).cls = RX8) : gSta m mX8_goThread 127 2 := ⟨kX8_goThread, rfl, tW6 199 (by decide +kernel) rfl, Or.inl (by rw [h]; exact tW6 198 (by decide +kernel) rfl)⟩
theorem sX8_186 {m : GM} (h : (gy m).cls = RX8) : gSta m mX8_isCell 186 1 := ⟨kX8_isCell, rfl, tW6 19 (by decide +kernel) rfl, Or.inl (by rw [h]; exact tW6 18 (by decide +kernel) rfl)⟩
theorem sX8_189 {m : GM} (h : (gy m).cls = RX8) : gSta m mX8_isColour 189 1 := ⟨kX8_isColour, rfl, tW6 69 (by decide +kernel) rfl, Or.inl (by rw [h]; exact tW6 68 (by decide +kernel) rfl)⟩
theorem sX8_195 {m : GM} (h : (gy m).cls = RX8) : gSta m mX8_isMissing 195 2 := ⟨kX8_isMissing, rfl, tW6 47 (by decide +kernel) rfl, Or.inl (by rw [h]; exact tW6 46 (by decide +kernel) rfl)⟩
theorem sX8_198 {m : GM} (h : (gy m).cls = RX8) : gSta m mX8_skippedIn 198 1 := ⟨kX8_skippedIn, rfl, tW6 58 (by decide +kernel) rfl, Or.inl (by rw [h]; exact tW6 57 (by decide +kernel) rfl)⟩
theorem sX8_207 {m : GM} (h : (gy m).cls = RX8) : gSta m mX8_loops 207 1 := ⟨kX8_loops, rfl, tW6 89 (by decide +kernel) rfl, Or.inl (by rw [h]; exact tW6 88 (by decide +kernel) rfl)⟩
theorem sX8_216 {m : GM} (h : (gy m).cls = RX8) : gSta m mX8_isMotif 216 1 := ⟨kX8_isMotif, rfl, tW6 170 (by decide +kernel) rfl, Or.inl (by rw [h]; exact tW6 169 (by decide +kernel) rfl)⟩
theorem sX8_230 {m : GM} (h : (gy m).cls = RX8) : gSta m mX8_noMending 230 2 := ⟨kX8_noMending, rfl, tW7 32 (by decide +kernel) rfl, Or.inl (by rw [h]; exact tW7 31 (by decide +kernel) rfl)⟩
theorem sX8_233 {m : GM} (h : (gy m).cls = RX8) : gSta m mX8_goUnpick 233 2 := ⟨kX8_goUnpick, rfl, tW7 39 (by decide +kernel) rfl, Or.inl (by rw [h]; exact tW7 38 (by decide +kernel) rfl)⟩
theorem sX8_236 {m : GM} (h : (gy m).cls = RX8) : gSta m mX8_goShear 236 2 := ⟨kX8_goShear, rfl, tW7 46 (by decide +kernel) rfl, Or.inl (by rw [h]; exact tW7 45 (by decide +kernel) rfl)⟩
theorem sX8_242 {m : GM} (h : (gy m).cls = RX8) : gSta m mX8_copy 242 2 := ⟨kX8_copy, rfl, tW7 97 (by decide +kernel) rfl, Or.inl (by rw [h]; exact tW7 96 (by decide +kernel) rfl)⟩
theorem vX7_66 {m : GM} (h : (gy m).cls = RX7) : gVir m mX5_add 66 5 1 := ⟨kX5_add, rfl, jX5_add, by rw [h]; exact tW3 59 (by decide +kernel) rfl, _, rfl, rfl⟩
theorem vX7_70 {m : GM} (h : (gy m).cls = RX7) : gVir m mX5_firstError 70 5 0 := ⟨kX5_firstError, rfl, jX5_firstError, by rw [h]; exact tW1 226 (by decide +kernel) rfl, _, rfl, rfl⟩
theorem vX7_82 {m : GM} (h : (gy m).cls = RX7) : gVir m mX1_planAt 82 1 1 := ⟨kX1_planAt, rfl, jX1_planAt, by rw [h]; exact tW3 90 (by decide +kernel) rfl, _, rfl, rfl⟩
theorem vX7_88 {m : GM} (h : (gy m).cls = RX7) : gVir m mX1_loopAt 88 1 1 := ⟨kX1_loopAt, rfl, jX1_loopAt, by rw [h]; exact tW3 98 (by decide +kernel) rfl, _, rfl, rfl⟩
theorem vX7_91 {m : GM} (h : (gy m).cls = RX7) : gVir m mX1_heightAt 91 1 1 := ⟨kX1_heightAt, rfl, jX1_heightAt, by rw [h]; exact tW3 106 (by decide +kernel) rfl, _, rfl, rfl⟩
theorem vX7_94 {m : GM} (h : (gy m).cls = RX7) : gVir m mX1_skippedAt 94 1 1 := ⟨kX1_skippedAt, rfl, jX1_skippedAt, by rw [h]; exact tW3 117 (by decide +kernel) rfl, _, rfl, rfl⟩
theorem vX7_98 {m : GM} (h : (gy m).cls = RX7) : gVir m mX1_countRight 98 1 0 := ⟨kX1_countRight, rfl, jX1_countRight, by rw [h]; exact tW2 3 (by decide +kernel) rfl, _, rfl, rfl⟩
theorem vX7_101 {m : GM} (h : (gy m).cls = RX7) : gVir m mX1_countMissing 101 1 0 := ⟨kX1_countMissing, rfl, jX1_countMissing, by rw [h]; exact tW2 11 (by decide +kernel) rfl, _, rfl, rfl⟩
theorem vX7_104 {m : GM} (h : (gy m).cls = RX7) : gVir m mX1_countLoops 104 1 0 := ⟨kX1_countLoops, rfl, jX1_countLoops, by rw [h]; exact tW2 31 (by decide +kernel) rfl, _, rfl, rfl⟩
theorem vX7_107 {m : GM} (h : (gy m).cls = RX7) : gVir m mX1_countSkipped 107 1 0 := ⟨kX1_countSkipped, rfl, jX1_countSkipped, by rw [h]; exact tW2 39 (by decide +kernel) rfl, _, rfl, rfl⟩
theorem vX7_113 {m : GM} (h : (gy m).cls = RX7) : gVir m mX0_countSpreading 113 0 2 := ⟨kX0_countSpreading, rfl, jX0_countSpreading, by rw [h]; exact tW3 132 (by decide +kernel) rfl, _, rfl, rfl⟩
theorem vX7_117 {m : GM} (h : (gy m).cls = RX7) : gVir m mX0_countJoining 117 0 2 := ⟨kX0_countJoining, rfl, jX0_countJoining, by rw [h]; exact tW3 153 (by decide +kernel) rfl, _, rfl, rfl⟩
theorem vX7_121 {m : GM} (h : (gy m).cls = RX7) : gVir m mX1_sumHeights 121 1 0 := ⟨kX1_sumHeights, rfl, jX1_sumHeights, by rw [h]; exact tW2 52 (by decide +kernel) rfl, _, rfl, rfl⟩
theorem vX7_143 {m : GM} (h : (gy m).cls = RX7) : gVir m mX4_isTight 143 4 0 := ⟨kX4_isTight, rfl, jX4_isTight, by rw [h]; exact tW2 87 (by decide +kernel) rfl, _, rfl, rfl⟩
theorem vX7_151 {m : GM} (h : (gy m).cls = RX7) : gVir m mX6_onCone 151 6 1 := ⟨kX6_onCone, rfl, jX6_onCone, by rw [h]; exact tW3 172 (by decide +kernel) rfl, _, rfl, rfl⟩
theorem vX7_156 {m : GM} (h : (gy m).cls = RX7) : gVir m mX6_drawn 156 6 1 := ⟨kX6_drawn, rfl, jX6_drawn, by rw [h]; exact tW3 180 (by decide +kernel) rfl, _, rfl, rfl⟩
theorem vX7_159 {m : GM} (h : (gy m).cls = RX7) : gVir m mX1_yarnInLoops 159 1 1 := ⟨kX1_yarnInLoops, rfl, jX1_yarnInLoops, by rw [h]; exact tW3 188 (by decide +kernel) rfl, _, rfl, rfl⟩
theorem vX7_162 {m : GM} (h : (gy m).cls = RX7) : gVir m mX6_outsideLoops 162 6 1 := ⟨kX6_outsideLoops, rfl, jX6_outsideLoops, by rw [h]; exact tW3 193 (by decide +kernel) rfl, _, rfl, rfl⟩
theorem vX7_165 {m : GM} (h : (gy m).cls = RX7) : gVir m mX6_wasted 165 6 1 := ⟨kX6_wasted, rfl, jX6_wasted, by rw [h]; exact tW3 204 (by decide +kernel) rfl, _, rfl, rfl⟩
theorem vX7_168 {m : GM} (h : (gy m).cls = RX7) : gVir m mX1_countMissingOf 168 1 1 := ⟨kX1_countMissingOf, rfl, jX1_countMissingOf, by rw [h]; exact tW3 215 (by decide +kernel) rfl, _, rfl, rfl⟩
theorem vX7_180 {m : GM} (h : (gy m).cls = RX7) : gVir m mX4_motifAt 180 4 1 := ⟨kX4_motifAt, rfl, jX4_motifAt, by rw [h]; exact tW3 238 (by decide +kernel) rfl, _, rfl, rfl⟩
theorem vX7_189 {m : GM} (h : (gy m).cls = RX7) : gVir m mX5_signAt 189 5 1 := ⟨kX5_signAt, rfl, jX5_signAt, by rw [h]; exact tW4 10 (by decide +kernel) rfl, _, rfl, rfl⟩
theorem vX7_193 {m : GM} (h : (gy m).cls = RX7) : gVir m mX2_remember 193 2 1 := ⟨kX2_remember, rfl, jX2_remember, by rw [h]; exact tW2 99 (by decide +kernel) rfl, _, rfl, rfl⟩
theorem vX7_197 {m : GM} (h : (gy m).cls = RX7) : gVir m mX1_setPlanAt 197 1 2 := ⟨kX1_setPlanAt, rfl, jX1_setPlanAt, by rw [h]; exact tW4 21 (by decide +kernel) rfl, _, rfl, rfl⟩
theorem vX7_201 {m : GM} (h : (gy m).cls = RX7) : gVir m mX1_fillBetween 201 1 3 := ⟨kX1_fillBetween, rfl, jX1_fillBetween, by rw [h]; exact tW4 32 (by decide +kernel) rfl, _, rfl, rfl⟩
theorem vX7_205 {m : GM} (h : (gy m).cls = RX7) : gVir m mX6_hasEnd 205 6 1 := ⟨kX6_hasEnd, rfl, jX6_hasEnd, by rw [h]; exact tW4 50 (by decide +kernel) rfl, _, rfl, rfl⟩
theorem vX7_210 {m : GM} (h : (gy m).cls = RX7) : gVir m mX4_tryThread 210 4 1 := ⟨kX4_tryThread, rfl, jX4_tryThread, by rw [h]; exact tW4 56 (by decide +kernel) rfl, _, rfl, rfl⟩
theorem vX7_213 {m : GM} (h : (gy m).cls = RX7) : gVir m mX7_needThreaded 213 7 0 := ⟨kX7_needThreaded, rfl, jX7_needThreaded, by rw [h]; exact tW4 76 (by decide +kernel) rfl, _, rfl, rfl⟩
theorem vX7_216 {m : GM} (h : (gy m).cls = RX7) : gVir m mX4_tryCut 216 4 0 := ⟨kX4_tryCut, rfl, jX4_tryCut, by rw [h]; exact tW4 81 (by decide +kernel) rfl, _, rfl, rfl⟩
theorem vX7_219 {m : GM} (h : (gy m).cls = RX7) : gVir m mX4_reasonAgainstStitch 219 4 0 := ⟨kX4_reasonAgainstStitch, rfl, jX4_reasonAgainstStitch, by rw [h]; exact tW2 145 (by decide +kernel) rfl, _, rfl, rfl⟩
theorem vX7_224 {m : GM} (h : (gy m).cls = RX7) : gVir m mX4_sewUpTo 224 4 1 := ⟨kX4_sewUpTo, rfl, jX4_sewUpTo, by rw [h]; exact tW2 162 (by decide +kernel) rfl, _, rfl, rfl⟩
theorem vX7_227 {m : GM} (h : (gy m).cls = RX7) : gVir m mX4_jumpOver 227 4 1 := ⟨kX4_jumpOver, rfl, jX4_jumpOver, by rw [h]; exact tW4 97 (by decide +kernel) rfl, _, rfl, rfl⟩
theorem vX7_230 {m : GM} (h : (gy m).cls = RX7) : gVir m mX4_turnBy 230 4 1 := ⟨kX4_turnBy, rfl, jX4_turnBy, by rw [h]; exact tW2 132 (by decide +kernel) rfl, _, rfl, rfl⟩
theorem vX7_233 {m : GM} (h : (gy m).cls = RX7) : gVir m mX4_tryEase 233 4 0 := ⟨kX4_tryEase, rfl, jX4_tryEase, by rw [h]; exact tW4 108 (by decide +kernel) rfl, _, rfl, rfl⟩
theorem vX7_240 {m : GM} (h : (gy m).cls = RX7) : gVir m mX6_putOn 240 6 2 := ⟨kX6_putOn, rfl, jX6_putOn, by rw [h]; exact tW4 139 (by decide +kernel) rfl, _, rfl, rfl⟩
theorem vX7_243 {m : GM} (h : (gy m).cls = RX7) : gVir m mX4_reasonAgainstMending 243 4 1 := ⟨kX4_reasonAgainstMending, rfl, jX4_reasonAgainstMending, by rw [h]; exact tW4 150 (by decide +kernel) rfl, _, rfl, rfl⟩
theorem vX7_248 {m : GM} (h : (gy m).cls = RX7) : gVir m mX4_mendAt 248 4 1 := ⟨kX4_mendAt, rfl, jX4_mendAt, by rw [h]; exact tW4 157 (by decide +kernel) rfl, _, rfl, rfl⟩
theorem vX7_253 {m : GM} (h : (gy m).cls = RX7) : gVir m mX4_tryUnpick 253 4 1 := ⟨kX4_tryUnpick, rfl, jX4_tryUnpick, by rw [h]; exact tW4 169 (by decide +kernel) rfl, _, rfl, rfl⟩
theorem vX7_256 {m : GM} (h : (gy m).cls = RX7) : gVir m mX4_shearTo 256 4 1 := ⟨kX4_shearTo, rfl, jX4_shearTo, by rw [h]; exact tW4 185 (by decide +kernel) rfl, _, rfl, rfl⟩
theorem vX7_259 {m : GM} (h : (gy m).cls = RX7) : gVir m mX7_needMotifText 259 7 0 := ⟨kX7_needMotifText, rfl, jX7_needMotifText, by rw [h]; exact tW4 196 (by decide +kernel) rfl, _, rfl, rfl⟩
theorem vX7_262 {m : GM} (h : (gy m).cls = RX7) : gVir m mX5_hasMotifFrom 262 5 1 := ⟨kX5_hasMotifFrom, rfl, jX5_hasMotifFrom, by rw [h]; exact tW4 201 (by decide +kernel) rfl, _, rfl, rfl⟩
theorem vX7_267 {m : GM} (h : (gy m).cls = RX7) : gVir m mX4_keepMotif 267 4 2 := ⟨kX4_keepMotif, rfl, jX4_keepMotif, by rw [h]; exact tW4 211 (by decide +kernel) rfl, _, rfl, rfl⟩
theorem vX7_273 {m : GM} (h : (gy m).cls = RX7) : gVir m mX3_play 273 3 2 := ⟨kX3_play, rfl, jX3_play, by rw [h]; exact tW4 220 (by decide +kernel) rfl, _, rfl, rfl⟩
theorem vX7_282 {m : GM} (h : (gy m).cls = RX7) : gVir m mX2_takeBack 282 2 1 := ⟨kX2_takeBack, rfl, jX2_takeBack, by rw [h]; exact tW5 32 (by decide +kernel) rfl, _, rfl, rfl⟩
theorem vX7_285 {m : GM} (h : (gy m).cls = RX7) : gVir m mX4_copyFrom 285 4 1 := ⟨kX4_copyFrom, rfl, jX4_copyFrom, by rw [h]; exact tW2 161 (by decide +kernel) rfl, _, rfl, rfl⟩
theorem vX7_288 {m : GM} (h : (gy m).cls = RX7) : gVir m mX1_nearestInRings 288 1 2 := ⟨kX1_nearestInRings, rfl, jX1_nearestInRings, by rw [h]; exact tW5 50 (by decide +kernel) rfl, _, rfl, rfl⟩
theorem vX7_291 {m : GM} (h : (gy m).cls = RX7) : gVir m mX1_nearestInCells 291 1 2 := ⟨kX1_nearestInCells, rfl, jX1_nearestInCells, by rw [h]; exact tW5 72 (by decide +kernel) rfl, _, rfl, rfl⟩
theorem vX7_294 {m : GM} (h : (gy m).cls = RX7) : gVir m mX7_tryText 294 7 0 := ⟨kX7_tryText, rfl, jX7_tryText, by rw [h]; exact tW5 83 (by decide +kernel) rfl, _, rfl, rfl⟩
theorem vX7_301 {m : GM} (h : (gy m).cls = RX7) : gVir m mX7_simulateTurn 301 7 1 := ⟨kX7_simulateTurn, rfl, jX7_simulateTurn, by rw [h]; exact tW5 110 (by decide +kernel) rfl, _, rfl, rfl⟩
theorem vX0_22 {m : GM} (h : (gy m).cls = RX0) : gVir m mX1_planAt 22 1 1 := ⟨kX1_planAt, rfl, jX1_planAt, by rw [h]; exact tW3 136 (by decide +kernel) rfl, _, rfl, rfl⟩
theorem vX0_28 {m : GM} (h : (gy m).cls = RX0) : gVir m mX0_spreadFrom 28 0 1 := ⟨kX0_spreadFrom, rfl, jX0_spreadFrom, by rw [h]; exact tW3 137 (by decide +kernel) rfl, _, rfl, rfl⟩
theorem vX0_36 {m : GM} (h : (gy m).cls = RX0) : gVir m mX0_reach 36 0 1 := ⟨kX0_reach, rfl, jX0_reach, by rw [h]; exact tW3 141 (by decide +kernel) rfl, _, rfl, rfl⟩
theorem vX0_43 {m : GM} (h : (gy m).cls = RX0) : gVir m mX0_joinBeside 43 0 3 := ⟨kX0_joinBeside, rfl, jX0_joinBeside, by rw [h]; exact tW3 157 (by decide +kernel) rfl, _, rfl, rfl⟩
theorem vX0_47 {m : GM} (h : (gy m).cls = RX0) : gVir m mX0_chiefOf 47 0 1 := ⟨kX0_chiefOf, rfl, jX0_chiefOf, by rw [h]; exact tW3 161 (by decide +kernel) rfl, _, rfl, rfl⟩
theorem vX1_27 {m : GM} (h : (gy m).cls = RX1) : gVir m mX1_planAt 27 1 1 := ⟨kX1_planAt, rfl, jX1_planAt, by rw [h]; exact tW2 19 (by decide +kernel) rfl, _, rfl, rfl⟩
theorem vX1_31 {m : GM} (h : (gy m).cls = RX1) : gVir m mX1_loopAt 31 1 1 := ⟨kX1_loopAt, rfl, jX1_loopAt, by rw [h]; exact tW2 23 (by decide +kernel) rfl, _, rfl, rfl⟩
theorem vX1_43 {m : GM} (h : (gy m).cls = RX1) : gVir m mX1_setPlanAt 43 1 2 := ⟨kX1_setPlanAt, rfl, jX1_setPlanAt, by rw [h]; exact tW4 42 (by decide +kernel) rfl, _, rfl, rfl⟩
theorem vX1_47 {m : GM} (h : (gy m).cls = RX1) : gVir m mX1_putLoop 47 1 3 := ⟨kX1_putLoop, rfl, jX1_putLoop, by rw [h]; exact tW2 180 (by decide +kernel) rfl, _, rfl, rfl⟩
theorem vX1_51 {m : GM} (h : (gy m).cls = RX1) : gVir m mX1_missingAt 51 1 1 := ⟨kX1_missingAt, rfl, jX1_missingAt, by rw [h]; exact tW2 15 (by decide +kernel) rfl, _, rfl, rfl⟩
theorem vX1_58 {m : GM} (h : (gy m).cls = RX1) : gVir m mX1_firstInRing 58 1 3 := ⟨kX1_firstInRing, rfl, jX1_firstInRing, by rw [h]; exact tW5 54 (by decide +kernel) rfl, _, rfl, rfl⟩
theorem vX1_65 {m : GM} (h : (gy m).cls = RX1) : gVir m mX1_missesAt 65 1 3 := ⟨kX1_missesAt, rfl, jX1_missesAt, by rw [h]; exact tW5 61 (by decide +kernel) rfl, _, rfl, rfl⟩
theorem vX2_29 {m : GM} (h : (gy m).cls = RX2) : gVir m mX4_copyFrom 29 4 1 := ⟨kX4_copyFrom, rfl, jX4_copyFrom, by rw [h]; exact tW2 107 (by decide +kernel) rfl, _, rfl, rfl⟩
theorem vX3_37 {m : GM} (h : (gy m).cls = RX3) : gVir m mX3_enter 37 3 1 := ⟨kX3_enter, rfl, jX3_enter, by rw [h]; exact tW4 224 (by decide +kernel) rfl, _, rfl, rfl⟩
theorem vX3_45 {m : GM} (h : (gy m).cls = RX3) : gVir m mX5_signAt 45 5 1 := ⟨kX5_signAt, rfl, jX5_signAt, by rw [h]; exact tW4 229 (by decide +kernel) rfl, _, rfl, rfl⟩
theorem vX3_49 {m : GM} (h : (gy m).cls = RX3) : gVir m mX3_endGroup 49 3 1 := ⟨kX3_endGroup, rfl, jX3_endGroup, by rw [h]; exact tW4 230 (by decide +kernel) rfl, _, rfl, rfl⟩
theorem vX3_53 {m : GM} (h : (gy m).cls = RX3) : gVir m mX3_doOrder 53 3 3 := ⟨kX3_doOrder, rfl, jX3_doOrder, by rw [h]; exact tW4 234 (by decide +kernel) rfl, _, rfl, rfl⟩
theorem vX3_57 {m : GM} (h : (gy m).cls = RX3) : gVir m mX5_digitAt 57 5 1 := ⟨kX5_digitAt, rfl, jX5_digitAt, by rw [h]; exact tW4 238 (by decide +kernel) rfl, _, rfl, rfl⟩
theorem vX3_65 {m : GM} (h : (gy m).cls = RX3) : gVir m mX3_goTo 65 3 1 := ⟨kX3_goTo, rfl, jX3_goTo, by rw [h]; exact tW5 2 (by decide +kernel) rfl, _, rfl, rfl⟩
theorem vX3_68 {m : GM} (h : (gy m).cls = RX3) : gVir m mX4_sewUpTo 68 4 1 := ⟨kX4_sewUpTo, rfl, jX4_sewUpTo, by rw [h]; exact tW5 6 (by decide +kernel) rfl, _, rfl, rfl⟩
theorem vX3_73 {m : GM} (h : (gy m).cls = RX3) : gVir m mX4_jumpOver 73 4 1 := ⟨kX4_jumpOver, rfl, jX4_jumpOver, by rw [h]; exact tW5 7 (by decide +kernel) rfl, _, rfl, rfl⟩
theorem vX3_76 {m : GM} (h : (gy m).cls = RX3) : gVir m mX4_turnBy 76 4 1 := ⟨kX4_turnBy, rfl, jX4_turnBy, by rw [h]; exact tW5 8 (by decide +kernel) rfl, _, rfl, rfl⟩
theorem vX3_79 {m : GM} (h : (gy m).cls = RX3) : gVir m mX4_tryThread 79 4 1 := ⟨kX4_tryThread, rfl, jX4_tryThread, by rw [h]; exact tW5 9 (by decide +kernel) rfl, _, rfl, rfl⟩
theorem vX3_86 {m : GM} (h : (gy m).cls = RX3) : gVir m mX4_tryCut 86 4 0 := ⟨kX4_tryCut, rfl, jX4_tryCut, by rw [h]; exact tW5 10 (by decide +kernel) rfl, _, rfl, rfl⟩
theorem vX3_90 {m : GM} (h : (gy m).cls = RX3) : gVir m mX4_tryEase 90 4 0 := ⟨kX4_tryEase, rfl, jX4_tryEase, by rw [h]; exact tW5 11 (by decide +kernel) rfl, _, rfl, rfl⟩
theorem vX3_93 {m : GM} (h : (gy m).cls = RX3) : gVir m mX4_motifAt 93 4 1 := ⟨kX4_motifAt, rfl, jX4_motifAt, by rw [h]; exact tW5 12 (by decide +kernel) rfl, _, rfl, rfl⟩
theorem vX3_97 {m : GM} (h : (gy m).cls = RX3) : gVir m mX3_startGroup 97 3 2 := ⟨kX3_startGroup, rfl, jX3_startGroup, by rw [h]; exact tW5 13 (by decide +kernel) rfl, _, rfl, rfl⟩
theorem vX4_39 {m : GM} (h : (gy m).cls = RX4) : gVir m mX1_copyFrom 39 1 1 := ⟨kX1_copyFrom, rfl, jX1_copyFrom, by rw [h]; exact tW2 111 (by decide +kernel) rfl, _, rfl, rfl⟩
theorem vX4_43 {m : GM} (h : (gy m).cls = RX4) : gVir m mX6_copyFrom 43 6 1 := ⟨kX6_copyFrom, rfl, jX6_copyFrom, by rw [h]; exact tW2 118 (by decide +kernel) rfl, _, rfl, rfl⟩
theorem vX4_46 {m : GM} (h : (gy m).cls = RX4) : gVir m mX4_keepMotif 46 4 2 := ⟨kX4_keepMotif, rfl, jX4_keepMotif, by rw [h]; exact tW2 123 (by decide +kernel) rfl, _, rfl, rfl⟩
theorem vX4_62 {m : GM} (h : (gy m).cls = RX4) : gVir m mX5_copyFrom 62 5 1 := ⟨kX5_copyFrom, rfl, jX5_copyFrom, by rw [h]; exact tW2 127 (by decide +kernel) rfl, _, rfl, rfl⟩
theorem vX4_68 {m : GM} (h : (gy m).cls = RX4) : gVir m mX1_loopAt 68 1 1 := ⟨kX1_loopAt, rfl, jX1_loopAt, by rw [h]; exact tW2 149 (by decide +kernel) rfl, _, rfl, rfl⟩
theorem vX4_72 {m : GM} (h : (gy m).cls = RX4) : gVir m mX6_onCone 72 6 1 := ⟨kX6_onCone, rfl, jX6_onCone, by rw [h]; exact tW2 150 (by decide +kernel) rfl, _, rfl, rfl⟩
theorem vX4_78 {m : GM} (h : (gy m).cls = RX4) : gVir m mX1_missingAt 78 1 1 := ⟨kX1_missingAt, rfl, jX1_missingAt, by rw [h]; exact tW4 154 (by decide +kernel) rfl, _, rfl, rfl⟩
theorem vX4_82 {m : GM} (h : (gy m).cls = RX4) : gVir m mX1_planAt 82 1 1 := ⟨kX1_planAt, rfl, jX1_planAt, by rw [h]; exact tW4 155 (by decide +kernel) rfl, _, rfl, rfl⟩
theorem vX4_85 {m : GM} (h : (gy m).cls = RX4) : gVir m mX4_reasonAgainstStitch 85 4 0 := ⟨kX4_reasonAgainstStitch, rfl, jX4_reasonAgainstStitch, by rw [h]; exact tW2 166 (by decide +kernel) rfl, _, rfl, rfl⟩
theorem vX4_89 {m : GM} (h : (gy m).cls = RX4) : gVir m mX4_punch 89 4 0 := ⟨kX4_punch, rfl, jX4_punch, by rw [h]; exact tW2 167 (by decide +kernel) rfl, _, rfl, rfl⟩
theorem vX4_92 {m : GM} (h : (gy m).cls = RX4) : gVir m mX4_goOn 92 4 0 := ⟨kX4_goOn, rfl, jX4_goOn, by rw [h]; exact tW2 198 (by decide +kernel) rfl, _, rfl, rfl⟩
theorem vX4_96 {m : GM} (h : (gy m).cls = RX4) : gVir m mX6_drawn 96 6 1 := ⟨kX6_drawn, rfl, jX6_drawn, by rw [h]; exact tW2 171 (by decide +kernel) rfl, _, rfl, rfl⟩
theorem vX4_99 {m : GM} (h : (gy m).cls = RX4) : gVir m mX4_isTight 99 4 0 := ⟨kX4_isTight, rfl, jX4_isTight, by rw [h]; exact tW2 175 (by decide +kernel) rfl, _, rfl, rfl⟩
theorem vX4_102 {m : GM} (h : (gy m).cls = RX4) : gVir m mX1_putSkipped 102 1 1 := ⟨kX1_putSkipped, rfl, jX1_putSkipped, by rw [h]; exact tW2 176 (by decide +kernel) rfl, _, rfl, rfl⟩
theorem vX4_106 {m : GM} (h : (gy m).cls = RX4) : gVir m mX6_drawFloat 106 6 2 := ⟨kX6_drawFloat, rfl, jX6_drawFloat, by rw [h]; exact tW2 184 (by decide +kernel) rfl, _, rfl, rfl⟩
theorem vX4_110 {m : GM} (h : (gy m).cls = RX4) : gVir m mX1_putLoop 110 1 3 := ⟨kX1_putLoop, rfl, jX1_putLoop, by rw [h]; exact tW2 192 (by decide +kernel) rfl, _, rfl, rfl⟩
theorem vX4_114 {m : GM} (h : (gy m).cls = RX4) : gVir m mX6_draw 114 6 2 := ⟨kX6_draw, rfl, jX6_draw, by rw [h]; exact tW2 193 (by decide +kernel) rfl, _, rfl, rfl⟩
theorem vX4_118 {m : GM} (h : (gy m).cls = RX4) : gVir m mX4_feelKnot 118 4 1 := ⟨kX4_feelKnot, rfl, jX4_feelKnot, by rw [h]; exact tW2 194 (by decide +kernel) rfl, _, rfl, rfl⟩
theorem vX4_129 {m : GM} (h : (gy m).cls = RX4) : gVir m mX6_hasEnd 129 6 1 := ⟨kX6_hasEnd, rfl, jX6_hasEnd, by rw [h]; exact tW4 60 (by decide +kernel) rfl, _, rfl, rfl⟩
theorem vX4_132 {m : GM} (h : (gy m).cls = RX4) : gVir m mX4_tryCut 132 4 0 := ⟨kX4_tryCut, rfl, jX4_tryCut, by rw [h]; exact tW4 61 (by decide +kernel) rfl, _, rfl, rfl⟩
theorem vX4_135 {m : GM} (h : (gy m).cls = RX4) : gVir m mX6_drawEnd 135 6 1 := ⟨kX6_drawEnd, rfl, jX6_drawEnd, by rw [h]; exact tW4 65 (by decide +kernel) rfl, _, rfl, rfl⟩
theorem vX4_138 {m : GM} (h : (gy m).cls = RX4) : gVir m mX6_addWaste 138 6 2 := ⟨kX6_addWaste, rfl, jX6_addWaste, by rw [h]; exact tW4 112 (by decide +kernel) rfl, _, rfl, rfl⟩
theorem vX4_141 {m : GM} (h : (gy m).cls = RX4) : gVir m mX1_heightAt 141 1 1 := ⟨kX1_heightAt, rfl, jX1_heightAt, by rw [h]; exact tW4 173 (by decide +kernel) rfl, _, rfl, rfl⟩
theorem vX4_144 {m : GM} (h : (gy m).cls = RX4) : gVir m mX1_clearCell 144 1 1 := ⟨kX1_clearCell, rfl, jX1_clearCell, by rw [h]; exact tW4 174 (by decide +kernel) rfl, _, rfl, rfl⟩
theorem vX5_25 {m : GM} (h : (gy m).cls = RX5) : gVir m mX5_signAt 25 5 1 := ⟨kX5_signAt, rfl, jX5_signAt, by rw [h]; exact tW4 209 (by decide +kernel) rfl, _, rfl, rfl⟩
theorem vX5_41 {m : GM} (h : (gy m).cls = RX5) : gVir m mX5_digitAt 41 5 1 := ⟨kX5_digitAt, rfl, jX5_digitAt, by rw [h]; exact tW4 205 (by decide +kernel) rfl, _, rfl, rfl⟩
theorem vX6_33 {m : GM} (h : (gy m).cls = RX6) : gVir m mX6_onCone 33 6 1 := ⟨kX6_onCone, rfl, jX6_onCone, by rw [h]; exact tW4 54 (by decide +kernel) rfl, _, rfl, rfl⟩
theorem vX6_37 {m : GM} (h : (gy m).cls = RX6) : gVir m mX6_draw 37 6 2 := ⟨kX6_draw, rfl, jX6_draw, by rw [h]; exact tW2 188 (by decide +kernel) rfl, _, rfl, rfl⟩
theorem vL_7 {m : GM} (h : (gy m).cls = RL) : gVir m mX7_append 7 7 1 := ⟨kX7_append, rfl, jX7_append, by rw [h]; exact tW2 208 (by decide +kernel) rfl, _, rfl, rfl⟩
theorem vL_17 {m : GM} (h : (gy m).cls = RL) : gVir m mX7_planOf 17 7 1 := ⟨kX7_planOf, rfl, jX7_planOf, by rw [h]; exact tW3 67 (by decide +kernel) rfl, _, rfl, rfl⟩
theorem vL_22 {m : GM} (h : (gy m).cls = RL) : gVir m mX7_loopOf 22 7 1 := ⟨kX7_loopOf, rfl, jX7_loopOf, by rw [h]; exact tW3 94 (by decide +kernel) rfl, _, rfl, rfl⟩
theorem vL_25 {m : GM} (h : (gy m).cls = RL) : gVir m mX7_heightOf 25 7 1 := ⟨kX7_heightOf, rfl, jX7_heightOf, by rw [h]; exact tW3 102 (by decide +kernel) rfl, _, rfl, rfl⟩
theorem vL_28 {m : GM} (h : (gy m).cls = RL) : gVir m mX7_isSkipped 28 7 1 := ⟨kX7_isSkipped, rfl, jX7_isSkipped, by rw [h]; exact tW3 113 (by decide +kernel) rfl, _, rfl, rfl⟩
theorem vL_32 {m : GM} (h : (gy m).cls = RL) : gVir m mX7_areasBySpreading 32 7 1 := ⟨kX7_areasBySpreading, rfl, jX7_areasBySpreading, by rw [h]; exact tW3 124 (by decide +kernel) rfl, _, rfl, rfl⟩
theorem vL_35 {m : GM} (h : (gy m).cls = RL) : gVir m mX7_areasByJoining 35 7 1 := ⟨kX7_areasByJoining, rfl, jX7_areasByJoining, by rw [h]; exact tW3 149 (by decide +kernel) rfl, _, rfl, rfl⟩
theorem vL_38 {m : GM} (h : (gy m).cls = RL) : gVir m mX7_coneOf 38 7 1 := ⟨kX7_coneOf, rfl, jX7_coneOf, by rw [h]; exact tW3 168 (by decide +kernel) rfl, _, rfl, rfl⟩
theorem vL_41 {m : GM} (h : (gy m).cls = RL) : gVir m mX7_drawnByCone 41 7 1 := ⟨kX7_drawnByCone, rfl, jX7_drawnByCone, by rw [h]; exact tW3 176 (by decide +kernel) rfl, _, rfl, rfl⟩
theorem vL_44 {m : GM} (h : (gy m).cls = RL) : gVir m mX7_drawnByRug 44 7 1 := ⟨kX7_drawnByRug, rfl, jX7_drawnByRug, by rw [h]; exact tW3 184 (by decide +kernel) rfl, _, rfl, rfl⟩
theorem vL_47 {m : GM} (h : (gy m).cls = RL) : gVir m mX7_wasteOf 47 7 1 := ⟨kX7_wasteOf, rfl, jX7_wasteOf, by rw [h]; exact tW3 200 (by decide +kernel) rfl, _, rfl, rfl⟩
theorem vL_50 {m : GM} (h : (gy m).cls = RL) : gVir m mX7_neededFor 50 7 1 := ⟨kX7_neededFor, rfl, jX7_neededFor, by rw [h]; exact tW3 211 (by decide +kernel) rfl, _, rfl, rfl⟩
theorem vL_53 {m : GM} (h : (gy m).cls = RL) : gVir m mX7_untilKnot 53 7 1 := ⟨kX7_untilKnot, rfl, jX7_untilKnot, by rw [h]; exact tW3 223 (by decide +kernel) rfl, _, rfl, rfl⟩
theorem vL_56 {m : GM} (h : (gy m).cls = RL) : gVir m mX7_motifLength 56 7 1 := ⟨kX7_motifLength, rfl, jX7_motifLength, by rw [h]; exact tW3 230 (by decide +kernel) rfl, _, rfl, rfl⟩
theorem vL_59 {m : GM} (h : (gy m).cls = RL) : gVir m mX7_motifSign 59 7 2 := ⟨kX7_motifSign, rfl, jX7_motifSign, by rw [h]; exact tW4 5 (by decide +kernel) rfl, _, rfl, rfl⟩
theorem vL_63 {m : GM} (h : (gy m).cls = RL) : gVir m mX7_setPlan 63 7 2 := ⟨kX7_setPlan, rfl, jX7_setPlan, by rw [h]; exact tW4 17 (by decide +kernel) rfl, _, rfl, rfl⟩
theorem vL_66 {m : GM} (h : (gy m).cls = RL) : gVir m mX7_fillPlan 66 7 3 := ⟨kX7_fillPlan, rfl, jX7_fillPlan, by rw [h]; exact tW4 28 (by decide +kernel) rfl, _, rfl, rfl⟩
theorem vL_70 {m : GM} (h : (gy m).cls = RL) : gVir m mX7_thread 70 7 1 := ⟨kX7_thread, rfl, jX7_thread, by rw [h]; exact tW4 46 (by decide +kernel) rfl, _, rfl, rfl⟩
theorem vL_73 {m : GM} (h : (gy m).cls = RL) : gVir m mX7_cut 73 7 0 := ⟨kX7_cut, rfl, jX7_cut, by rw [h]; exact tW4 72 (by decide +kernel) rfl, _, rfl, rfl⟩
theorem vL_77 {m : GM} (h : (gy m).cls = RL) : gVir m mX7_sew 77 7 1 := ⟨kX7_sew, rfl, jX7_sew, by rw [h]; exact tW4 85 (by decide +kernel) rfl, _, rfl, rfl⟩
theorem vL_80 {m : GM} (h : (gy m).cls = RL) : gVir m mX7_jump 80 7 1 := ⟨kX7_jump, rfl, jX7_jump, by rw [h]; exact tW4 93 (by decide +kernel) rfl, _, rfl, rfl⟩
theorem vL_83 {m : GM} (h : (gy m).cls = RL) : gVir m mX7_ease 83 7 0 := ⟨kX7_ease, rfl, jX7_ease, by rw [h]; exact tW4 104 (by decide +kernel) rfl, _, rfl, rfl⟩
theorem vL_86 {m : GM} (h : (gy m).cls = RL) : gVir m mX7_setHeight 86 7 1 := ⟨kX7_setHeight, rfl, jX7_setHeight, by rw [h]; exact tW4 119 (by decide +kernel) rfl, _, rfl, rfl⟩
theorem vL_89 {m : GM} (h : (gy m).cls = RL) : gVir m mX7_place 89 7 2 := ⟨kX7_place, rfl, jX7_place, by rw [h]; exact tW4 126 (by decide +kernel) rfl, _, rfl, rfl⟩
theorem vL_92 {m : GM} (h : (gy m).cls = RL) : gVir m mX7_wind 92 7 2 := ⟨kX7_wind, rfl, jX7_wind, by rw [h]; exact tW4 134 (by decide +kernel) rfl, _, rfl, rfl⟩
theorem vL_95 {m : GM} (h : (gy m).cls = RL) : gVir m mX7_mend 95 7 1 := ⟨kX7_mend, rfl, jX7_mend, by rw [h]; exact tW4 146 (by decide +kernel) rfl, _, rfl, rfl⟩
theorem vL_98 {m : GM} (h : (gy m).cls = RL) : gVir m mX7_unpick 98 7 1 := ⟨kX7_unpick, rfl, jX7_unpick, by rw [h]; exact tW4 164 (by decide +kernel) rfl, _, rfl, rfl⟩
theorem vL_101 {m : GM} (h : (gy m).cls = RL) : gVir m mX7_shear 101 7 1 := ⟨kX7_shear, rfl, jX7_shear, by rw [h]; exact tW4 181 (by decide +kernel) rfl, _, rfl, rfl⟩
theorem vL_104 {m : GM} (h : (gy m).cls = RL) : gVir m mX7_store 104 7 1 := ⟨kX7_store, rfl, jX7_store, by rw [h]; exact tW4 192 (by decide +kernel) rfl, _, rfl, rfl⟩
theorem vL_107 {m : GM} (h : (gy m).cls = RL) : gVir m mX7_run 107 7 1 := ⟨kX7_run, rfl, jX7_run, by rw [h]; exact tW4 215 (by decide +kernel) rfl, _, rfl, rfl⟩
theorem vL_110 {m : GM} (h : (gy m).cls = RL) : gVir m mX7_runText 110 7 0 := ⟨kX7_runText, rfl, jX7_runText, by rw [h]; exact tW5 20 (by decide +kernel) rfl, _, rfl, rfl⟩
theorem vL_113 {m : GM} (h : (gy m).cls = RL) : gVir m mX7_undo 113 7 0 := ⟨kX7_undo, rfl, jX7_undo, by rw [h]; exact tW5 27 (by decide +kernel) rfl, _, rfl, rfl⟩
theorem vL_116 {m : GM} (h : (gy m).cls = RL) : gVir m mX7_whyNoMending 116 7 1 := ⟨kX7_whyNoMending, rfl, jX7_whyNoMending, by rw [h]; exact tW5 39 (by decide +kernel) rfl, _, rfl, rfl⟩
theorem vL_119 {m : GM} (h : (gy m).cls = RL) : gVir m mX7_nearestByRings 119 7 1 := ⟨kX7_nearestByRings, rfl, jX7_nearestByRings, by rw [h]; exact tW5 46 (by decide +kernel) rfl, _, rfl, rfl⟩
theorem vL_122 {m : GM} (h : (gy m).cls = RL) : gVir m mX7_nearestByCells 122 7 1 := ⟨kX7_nearestByCells, rfl, jX7_nearestByCells, by rw [h]; exact tW5 68 (by decide +kernel) rfl, _, rfl, rfl⟩
theorem vL_125 {m : GM} (h : (gy m).cls = RL) : gVir m mX7_loopsBy 125 7 0 := ⟨kX7_loopsBy, rfl, jX7_loopsBy, by rw [h]; exact tW5 79 (by decide +kernel) rfl, _, rfl, rfl⟩
theorem vL_128 {m : GM} (h : (gy m).cls = RL) : gVir m mX7_needleBy 128 7 0 := ⟨kX7_needleBy, rfl, jX7_needleBy, by rw [h]; exact tW5 90 (by decide +kernel) rfl, _, rfl, rfl⟩
theorem vL_131 {m : GM} (h : (gy m).cls = RL) : gVir m mX7_yarnBy 131 7 1 := ⟨kX7_yarnBy, rfl, jX7_yarnBy, by rw [h]; exact tW5 97 (by decide +kernel) rfl, _, rfl, rfl⟩
theorem vL_134 {m : GM} (h : (gy m).cls = RL) : gVir m mX7_simulate 134 7 2 := ⟨kX7_simulate, rfl, jX7_simulate, by rw [h]; exact tW5 104 (by decide +kernel) rfl, _, rfl, rfl⟩
theorem vL_138 {m : GM} (h : (gy m).cls = RL) : gVir m mX7_save 138 7 1 := ⟨kX7_save, rfl, jX7_save, by rw [h]; exact tW5 117 (by decide +kernel) rfl, _, rfl, rfl⟩
theorem vL_141 {m : GM} (h : (gy m).cls = RL) : gVir m mX7_restore 141 7 1 := ⟨kX7_restore, rfl, jX7_restore, by rw [h]; exact tW5 128 (by decide +kernel) rfl, _, rfl, rfl⟩
theorem vL_153 {m : GM} (h : (gy m).cls = RL) : gVir m mX8_append 153 8 1 := ⟨kX8_append, rfl, jX8_append, by rw [h]; exact tW5 204 (by decide +kernel) rfl, _, rfl, rfl⟩
theorem vL_154 {m : GM} (h : (gy m).cls = RL) : gVir m mX8_thrown 154 8 0 := ⟨kX8_thrown, rfl, jX8_thrown, by rw [h]; exact tW5 200 (by decide +kernel) rfl, _, rfl, rfl⟩
theorem vL_157 {m : GM} (h : (gy m).cls = RL) : gVir m mX7_clearText 157 7 0 := ⟨kX7_clearText, rfl, jX7_clearText, by rw [h]; exact tW1 218 (by decide +kernel) rfl, _, rfl, rfl⟩
theorem vL_160 {m : GM} (h : (gy m).cls = RL) : gVir m mX8_clearText 160 8 0 := ⟨kX8_clearText, rfl, jX8_clearText, by rw [h]; exact tW5 216 (by decide +kernel) rfl, _, rfl, rfl⟩
theorem vL_161 {m : GM} (h : (gy m).cls = RL) : gVir m mX7_errorPosition 161 7 0 := ⟨kX7_errorPosition, rfl, jX7_errorPosition, by rw [h]; exact tW1 222 (by decide +kernel) rfl, _, rfl, rfl⟩
theorem vL_164 {m : GM} (h : (gy m).cls = RL) : gVir m mX8_errorPosition 164 8 0 := ⟨kX8_errorPosition, rfl, jX8_errorPosition, by rw [h]; exact tW5 220 (by decide +kernel) rfl, _, rfl, rfl⟩
theorem vL_167 {m : GM} (h : (gy m).cls = RL) : gVir m mX8_planOf 167 8 1 := ⟨kX8_planOf, rfl, jX8_planOf, by rw [h]; exact tW6 10 (by decide +kernel) rfl, _, rfl, rfl⟩
theorem vL_170 {m : GM} (h : (gy m).cls = RL) : gVir m mX8_loopOf 170 8 1 := ⟨kX8_loopOf, rfl, jX8_loopOf, by rw [h]; exact tW6 22 (by decide +kernel) rfl, _, rfl, rfl⟩
theorem vL_173 {m : GM} (h : (gy m).cls = RL) : gVir m mX8_heightOf 173 8 1 := ⟨kX8_heightOf, rfl, jX8_heightOf, by rw [h]; exact tW6 30 (by decide +kernel) rfl, _, rfl, rfl⟩
theorem vL_176 {m : GM} (h : (gy m).cls = RL) : gVir m mX8_isSkipped 176 8 1 := ⟨kX8_isSkipped, rfl, jX8_isSkipped, by rw [h]; exact tW6 34 (by decide +kernel) rfl, _, rfl, rfl⟩
theorem vL_177 {m : GM} (h : (gy m).cls = RL) : gVir m mX7_right 177 7 0 := ⟨kX7_right, rfl, jX7_right, by rw [h]; exact tW1 239 (by decide +kernel) rfl, _, rfl, rfl⟩
theorem vL_180 {m : GM} (h : (gy m).cls = RL) : gVir m mX8_right 180 8 0 := ⟨kX8_right, rfl, jX8_right, by rw [h]; exact tW6 38 (by decide +kernel) rfl, _, rfl, rfl⟩
theorem vL_181 {m : GM} (h : (gy m).cls = RL) : gVir m mX7_missing 181 7 0 := ⟨kX7_missing, rfl, jX7_missing, by rw [h]; exact tW2 7 (by decide +kernel) rfl, _, rfl, rfl⟩
theorem vL_184 {m : GM} (h : (gy m).cls = RL) : gVir m mX8_missing 184 8 0 := ⟨kX8_missing, rfl, jX8_missing, by rw [h]; exact tW6 42 (by decide +kernel) rfl, _, rfl, rfl⟩
theorem vL_185 {m : GM} (h : (gy m).cls = RL) : gVir m mX7_wrong 185 7 0 := ⟨kX7_wrong, rfl, jX7_wrong, by rw [h]; exact tW2 27 (by decide +kernel) rfl, _, rfl, rfl⟩
theorem vL_188 {m : GM} (h : (gy m).cls = RL) : gVir m mX8_wrong 188 8 0 := ⟨kX8_wrong, rfl, jX8_wrong, by rw [h]; exact tW6 49 (by decide +kernel) rfl, _, rfl, rfl⟩
theorem vL_189 {m : GM} (h : (gy m).cls = RL) : gVir m mX7_skipped 189 7 0 := ⟨kX7_skipped, rfl, jX7_skipped, by rw [h]; exact tW2 35 (by decide +kernel) rfl, _, rfl, rfl⟩
theorem vL_192 {m : GM} (h : (gy m).cls = RL) : gVir m mX8_skipped 192 8 0 := ⟨kX8_skipped, rfl, jX8_skipped, by rw [h]; exact tW6 53 (by decide +kernel) rfl, _, rfl, rfl⟩
theorem vL_195 {m : GM} (h : (gy m).cls = RL) : gVir m mX8_areasBySpreading 195 8 1 := ⟨kX8_areasBySpreading, rfl, jX8_areasBySpreading, by rw [h]; exact tW6 60 (by decide +kernel) rfl, _, rfl, rfl⟩
theorem vL_198 {m : GM} (h : (gy m).cls = RL) : gVir m mX8_areasByJoining 198 8 1 := ⟨kX8_areasByJoining, rfl, jX8_areasByJoining, by rw [h]; exact tW6 80 (by decide +kernel) rfl, _, rfl, rfl⟩
theorem vL_199 {m : GM} (h : (gy m).cls = RL) : gVir m mX7_density 199 7 0 := ⟨kX7_density, rfl, jX7_density, by rw [h]; exact tW2 43 (by decide +kernel) rfl, _, rfl, rfl⟩
theorem vL_203 {m : GM} (h : (gy m).cls = RL) : gVir m mX8_density 203 8 0 := ⟨kX8_density, rfl, jX8_density, by rw [h]; exact tW6 84 (by decide +kernel) rfl, _, rfl, rfl⟩
theorem vL_204 {m : GM} (h : (gy m).cls = RL) : gVir m mX7_meanHeight 204 7 0 := ⟨kX7_meanHeight, rfl, jX7_meanHeight, by rw [h]; exact tW2 48 (by decide +kernel) rfl, _, rfl, rfl⟩
theorem vL_208 {m : GM} (h : (gy m).cls = RL) : gVir m mX8_meanHeight 208 8 0 := ⟨kX8_meanHeight, rfl, jX8_meanHeight, by rw [h]; exact tW6 92 (by decide +kernel) rfl, _, rfl, rfl⟩
theorem vL_209 {m : GM} (h : (gy m).cls = RL) : gVir m mX7_needle 209 7 0 := ⟨kX7_needle, rfl, jX7_needle, by rw [h]; exact tW2 56 (by decide +kernel) rfl, _, rfl, rfl⟩
theorem vL_212 {m : GM} (h : (gy m).cls = RL) : gVir m mX8_needle 212 8 0 := ⟨kX8_needle, rfl, jX8_needle, by rw [h]; exact tW6 96 (by decide +kernel) rfl, _, rfl, rfl⟩
theorem vL_213 {m : GM} (h : (gy m).cls = RL) : gVir m mX7_heading 213 7 0 := ⟨kX7_heading, rfl, jX7_heading, by rw [h]; exact tW2 60 (by decide +kernel) rfl, _, rfl, rfl⟩
theorem vL_216 {m : GM} (h : (gy m).cls = RL) : gVir m mX8_heading 216 8 0 := ⟨kX8_heading, rfl, jX8_heading, by rw [h]; exact tW6 104 (by decide +kernel) rfl, _, rfl, rfl⟩
theorem vL_217 {m : GM} (h : (gy m).cls = RL) : gVir m mX7_threaded 217 7 0 := ⟨kX7_threaded, rfl, jX7_threaded, by rw [h]; exact tW2 64 (by decide +kernel) rfl, _, rfl, rfl⟩
theorem vL_220 {m : GM} (h : (gy m).cls = RL) : gVir m mX8_threaded 220 8 0 := ⟨kX8_threaded, rfl, jX8_threaded, by rw [h]; exact tW6 108 (by decide +kernel) rfl, _, rfl, rfl⟩
theorem vL_221 {m : GM} (h : (gy m).cls = RL) : gVir m mX7_height 221 7 0 := ⟨kX7_height, rfl, jX7_height, by rw [h]; exact tW2 68 (by decide +kernel) rfl, _, rfl, rfl⟩
theorem vL_224 {m : GM} (h : (gy m).cls = RL) : gVir m mX8_height 224 8 0 := ⟨kX8_height, rfl, jX8_height, by rw [h]; exact tW6 112 (by decide +kernel) rfl, _, rfl, rfl⟩
theorem vL_225 {m : GM} (h : (gy m).cls = RL) : gVir m mX7_tension 225 7 0 := ⟨kX7_tension, rfl, jX7_tension, by rw [h]; exact tW2 72 (by decide +kernel) rfl, _, rfl, rfl⟩
theorem vL_228 {m : GM} (h : (gy m).cls = RL) : gVir m mX8_tension 228 8 0 := ⟨kX8_tension, rfl, jX8_tension, by rw [h]; exact tW6 116 (by decide +kernel) rfl, _, rfl, rfl⟩
theorem vL_229 {m : GM} (h : (gy m).cls = RL) : gVir m mX7_canGo 229 7 0 := ⟨kX7_canGo, rfl, jX7_canGo, by rw [h]; exact tW2 76 (by decide +kernel) rfl, _, rfl, rfl⟩
theorem vL_233 {m : GM} (h : (gy m).cls = RL) : gVir m mX8_canGo 233 8 0 := ⟨kX8_canGo, rfl, jX8_canGo, by rw [h]; exact tW6 120 (by decide +kernel) rfl, _, rfl, rfl⟩
theorem vL_234 {m : GM} (h : (gy m).cls = RL) : gVir m mX7_wouldSkip 234 7 0 := ⟨kX7_wouldSkip, rfl, jX7_wouldSkip, by rw [h]; exact tW2 83 (by decide +kernel) rfl, _, rfl, rfl⟩
theorem vL_237 {m : GM} (h : (gy m).cls = RL) : gVir m mX8_wouldSkip 237 8 0 := ⟨kX8_wouldSkip, rfl, jX8_wouldSkip, by rw [h]; exact tW6 124 (by decide +kernel) rfl, _, rfl, rfl⟩
theorem vL_240 {m : GM} (h : (gy m).cls = RL) : gVir m mX8_coneOf 240 8 1 := ⟨kX8_coneOf, rfl, jX8_coneOf, by rw [h]; exact tW6 128 (by decide +kernel) rfl, _, rfl, rfl⟩
theorem vL_243 {m : GM} (h : (gy m).cls = RL) : gVir m mX8_drawnByCone 243 8 1 := ⟨kX8_drawnByCone, rfl, jX8_drawnByCone, by rw [h]; exact tW6 135 (by decide +kernel) rfl, _, rfl, rfl⟩
theorem vL_246 {m : GM} (h : (gy m).cls = RL) : gVir m mX8_drawnByRug 246 8 1 := ⟨kX8_drawnByRug, rfl, jX8_drawnByRug, by rw [h]; exact tW6 142 (by decide +kernel) rfl, _, rfl, rfl⟩
theorem vL_249 {m : GM} (h : (gy m).cls = RL) : gVir m mX8_wasteOf 249 8 1 := ⟨kX8_wasteOf, rfl, jX8_wasteOf, by rw [h]; exact tW6 146 (by decide +kernel) rfl, _, rfl, rfl⟩
theorem vL_252 {m : GM} (h : (gy m).cls = RL) : gVir m mX8_neededFor 252 8 1 := ⟨kX8_neededFor, rfl, jX8_neededFor, by rw [h]; exact tW6 150 (by decide +kernel) rfl, _, rfl, rfl⟩
theorem vL_255 {m : GM} (h : (gy m).cls = RL) : gVir m mX8_untilKnot 255 8 1 := ⟨kX8_untilKnot, rfl, jX8_untilKnot, by rw [h]; exact tW6 157 (by decide +kernel) rfl, _, rfl, rfl⟩
theorem vL_256 {m : GM} (h : (gy m).cls = RL) : gVir m mX7_knots 256 7 0 := ⟨kX7_knots, rfl, jX7_knots, by rw [h]; exact tW2 91 (by decide +kernel) rfl, _, rfl, rfl⟩
theorem vL_259 {m : GM} (h : (gy m).cls = RL) : gVir m mX8_knots 259 8 0 := ⟨kX8_knots, rfl, jX8_knots, by rw [h]; exact tW6 161 (by decide +kernel) rfl, _, rfl, rfl⟩
theorem vL_262 {m : GM} (h : (gy m).cls = RL) : gVir m mX8_motifLength 262 8 1 := ⟨kX8_motifLength, rfl, jX8_motifLength, by rw [h]; exact tW6 165 (by decide +kernel) rfl, _, rfl, rfl⟩
theorem vL_266 {m : GM} (h : (gy m).cls = RL) : gVir m mX8_motifSign 266 8 2 := ⟨kX8_motifSign, rfl, jX8_motifSign, by rw [h]; exact tW6 173 (by decide +kernel) rfl, _, rfl, rfl⟩
theorem vL_269 {m : GM} (h : (gy m).cls = RL) : gVir m mX8_setPlan 269 8 2 := ⟨kX8_setPlan, rfl, jX8_setPlan, by rw [h]; exact tW6 177 (by decide +kernel) rfl, _, rfl, rfl⟩
theorem vL_273 {m : GM} (h : (gy m).cls = RL) : gVir m mX8_fillPlan 273 8 3 := ⟨kX8_fillPlan, rfl, jX8_fillPlan, by rw [h]; exact tW6 190 (by decide +kernel) rfl, _, rfl, rfl⟩
theorem vL_276 {m : GM} (h : (gy m).cls = RL) : gVir m mX8_thread 276 8 1 := ⟨kX8_thread, rfl, jX8_thread, by rw [h]; exact tW6 194 (by decide +kernel) rfl, _, rfl, rfl⟩
theorem vL_280 {m : GM} (h : (gy m).cls = RL) : gVir m mX8_cut 280 8 0 := ⟨kX8_cut, rfl, jX8_cut, by rw [h]; exact tW6 207 (by decide +kernel) rfl, _, rfl, rfl⟩
theorem vL_283 {m : GM} (h : (gy m).cls = RL) : gVir m mX8_sew 283 8 1 := ⟨kX8_sew, rfl, jX8_sew, by rw [h]; exact tW6 211 (by decide +kernel) rfl, _, rfl, rfl⟩
theorem vL_286 {m : GM} (h : (gy m).cls = RL) : gVir m mX8_jump 286 8 1 := ⟨kX8_jump, rfl, jX8_jump, by rw [h]; exact tW6 228 (by decide +kernel) rfl, _, rfl, rfl⟩
theorem vL_287 {m : GM} (h : (gy m).cls = RL) : gVir m mX7_turnLeft 287 7 0 := ⟨kX7_turnLeft, rfl, jX7_turnLeft, by rw [h]; exact tW2 95 (by decide +kernel) rfl, _, rfl, rfl⟩
theorem vL_290 {m : GM} (h : (gy m).cls = RL) : gVir m mX8_turnLeft 290 8 0 := ⟨kX8_turnLeft, rfl, jX8_turnLeft, by rw [h]; exact tW6 235 (by decide +kernel) rfl, _, rfl, rfl⟩
theorem vL_291 {m : GM} (h : (gy m).cls = RL) : gVir m mX7_turnRight 291 7 0 := ⟨kX7_turnRight, rfl, jX7_turnRight, by rw [h]; exact tW2 137 (by decide +kernel) rfl, _, rfl, rfl⟩
theorem vL_294 {m : GM} (h : (gy m).cls = RL) : gVir m mX8_turnRight 294 8 0 := ⟨kX8_turnRight, rfl, jX8_turnRight, by rw [h]; exact tW7 2 (by decide +kernel) rfl, _, rfl, rfl⟩
theorem vL_297 {m : GM} (h : (gy m).cls = RL) : gVir m mX8_ease 297 8 0 := ⟨kX8_ease, rfl, jX8_ease, by rw [h]; exact tW7 6 (by decide +kernel) rfl, _, rfl, rfl⟩
theorem vL_300 {m : GM} (h : (gy m).cls = RL) : gVir m mX8_setHeight 300 8 1 := ⟨kX8_setHeight, rfl, jX8_setHeight, by rw [h]; exact tW7 13 (by decide +kernel) rfl, _, rfl, rfl⟩
theorem vL_303 {m : GM} (h : (gy m).cls = RL) : gVir m mX8_place 303 8 2 := ⟨kX8_place, rfl, jX8_place, by rw [h]; exact tW7 18 (by decide +kernel) rfl, _, rfl, rfl⟩
theorem vL_306 {m : GM} (h : (gy m).cls = RL) : gVir m mX8_wind 306 8 2 := ⟨kX8_wind, rfl, jX8_wind, by rw [h]; exact tW7 22 (by decide +kernel) rfl, _, rfl, rfl⟩
theorem vL_309 {m : GM} (h : (gy m).cls = RL) : gVir m mX8_mend 309 8 1 := ⟨kX8_mend, rfl, jX8_mend, by rw [h]; exact tW7 27 (by decide +kernel) rfl, _, rfl, rfl⟩
theorem vL_312 {m : GM} (h : (gy m).cls = RL) : gVir m mX8_unpick 312 8 1 := ⟨kX8_unpick, rfl, jX8_unpick, by rw [h]; exact tW7 34 (by decide +kernel) rfl, _, rfl, rfl⟩
theorem vL_315 {m : GM} (h : (gy m).cls = RL) : gVir m mX8_shear 315 8 1 := ⟨kX8_shear, rfl, jX8_shear, by rw [h]; exact tW7 41 (by decide +kernel) rfl, _, rfl, rfl⟩
theorem vL_318 {m : GM} (h : (gy m).cls = RL) : gVir m mX8_store 318 8 1 := ⟨kX8_store, rfl, jX8_store, by rw [h]; exact tW7 48 (by decide +kernel) rfl, _, rfl, rfl⟩
theorem vL_321 {m : GM} (h : (gy m).cls = RL) : gVir m mX8_run 321 8 1 := ⟨kX8_run, rfl, jX8_run, by rw [h]; exact tW7 52 (by decide +kernel) rfl, _, rfl, rfl⟩
theorem vL_324 {m : GM} (h : (gy m).cls = RL) : gVir m mX8_runText 324 8 0 := ⟨kX8_runText, rfl, jX8_runText, by rw [h]; exact tW7 76 (by decide +kernel) rfl, _, rfl, rfl⟩
theorem vL_327 {m : GM} (h : (gy m).cls = RL) : gVir m mX8_undo 327 8 0 := ⟨kX8_undo, rfl, jX8_undo, by rw [h]; exact tW7 80 (by decide +kernel) rfl, _, rfl, rfl⟩
theorem vL_328 {m : GM} (h : (gy m).cls = RL) : gVir m mX7_whyNoStitch 328 7 0 := ⟨kX7_whyNoStitch, rfl, jX7_whyNoStitch, by rw [h]; exact tW2 141 (by decide +kernel) rfl, _, rfl, rfl⟩
theorem vL_331 {m : GM} (h : (gy m).cls = RL) : gVir m mX8_whyNoStitch 331 8 0 := ⟨kX8_whyNoStitch, rfl, jX8_whyNoStitch, by rw [h]; exact tW7 84 (by decide +kernel) rfl, _, rfl, rfl⟩
theorem vL_334 {m : GM} (h : (gy m).cls = RL) : gVir m mX8_whyNoMending 334 8 1 := ⟨kX8_whyNoMending, rfl, jX8_whyNoMending, by rw [h]; exact tW7 88 (by decide +kernel) rfl, _, rfl, rfl⟩
theorem vL_335 {m : GM} (h : (gy m).cls = RL) : gVir m mX7_couldSew 335 7 0 := ⟨kX7_couldSew, rfl, jX7_couldSew, by rw [h]; exact tW2 157 (by decide +kernel) rfl, _, rfl, rfl⟩
theorem vL_338 {m : GM} (h : (gy m).cls = RL) : gVir m mX8_couldSew 338 8 0 := ⟨kX8_couldSew, rfl, jX8_couldSew, by rw [h]; exact tW7 92 (by decide +kernel) rfl, _, rfl, rfl⟩
theorem vL_341 {m : GM} (h : (gy m).cls = RL) : gVir m mX8_nearestByRings 341 8 1 := ⟨kX8_nearestByRings, rfl, jX8_nearestByRings, by rw [h]; exact tW7 99 (by decide +kernel) rfl, _, rfl, rfl⟩
theorem vL_344 {m : GM} (h : (gy m).cls = RL) : gVir m mX8_nearestByCells 344 8 1 := ⟨kX8_nearestByCells, rfl, jX8_nearestByCells, by rw [h]; exact tW7 107 (by decide +kernel) rfl, _, rfl, rfl⟩
theorem vL_347 {m : GM} (h : (gy m).cls = RL) : gVir m mX8_loopsBy 347 8 0 := ⟨kX8_loopsBy, rfl, jX8_loopsBy, by rw [h]; exact tW7 111 (by decide +kernel) rfl, _, rfl, rfl⟩
theorem vL_350 {m : GM} (h : (gy m).cls = RL) : gVir m mX8_needleBy 350 8 0 := ⟨kX8_needleBy, rfl, jX8_needleBy, by rw [h]; exact tW7 119 (by decide +kernel) rfl, _, rfl, rfl⟩
theorem vL_353 {m : GM} (h : (gy m).cls = RL) : gVir m mX8_yarnBy 353 8 1 := ⟨kX8_yarnBy, rfl, jX8_yarnBy, by rw [h]; exact tW7 123 (by decide +kernel) rfl, _, rfl, rfl⟩
theorem vL_359 {m : GM} (h : (gy m).cls = RL) : gVir m mX8_simulate 359 8 2 := ⟨kX8_simulate, rfl, jX8_simulate, by rw [h]; exact tW7 127 (by decide +kernel) rfl, _, rfl, rfl⟩
theorem vL_362 {m : GM} (h : (gy m).cls = RL) : gVir m mX8_save 362 8 1 := ⟨kX8_save, rfl, jX8_save, by rw [h]; exact tW7 138 (by decide +kernel) rfl, _, rfl, rfl⟩
theorem vL_365 {m : GM} (h : (gy m).cls = RL) : gVir m mX8_restore 365 8 1 := ⟨kX8_restore, rfl, jX8_restore, by rw [h]; exact tW7 142 (by decide +kernel) rfl, _, rfl, rfl⟩
theorem vX8_108 {m : GM} (h : (gy m).cls = RX8) : gVir m mX8_sign 108 8 3 := ⟨kX8_sign, rfl, jX8_sign, by rw [h]; exact tW7 68 (by decide +kernel) rfl, _, rfl, rfl⟩
theorem vX8_117 {m : GM} (h : (gy m).cls = RX8) : gVir m mX8_fails 117 8 1 := ⟨kX8_fails, rfl, jX8_fails, by rw [h]; exact tW7 72 (by decide +kernel) rfl, _, rfl, rfl⟩
theorem vX8_130 {m : GM} (h : (gy m).cls = RX8) : gVir m mX8_push 130 8 4 := ⟨kX8_push, rfl, jX8_push, by rw [h]; exact tW7 60 (by decide +kernel) rfl, _, rfl, rfl⟩
theorem vX8_134 {m : GM} (h : (gy m).cls = RX8) : gVir m mX8_order 134 8 1 := ⟨kX8_order, rfl, jX8_order, by rw [h]; exact tW7 64 (by decide +kernel) rfl, _, rfl, rfl⟩
theorem vX8_141 {m : GM} (h : (gy m).cls = RX8) : gVir m mX8_remember 141 8 0 := ⟨kX8_remember, rfl, jX8_remember, by rw [h]; exact tW6 186 (by decide +kernel) rfl, _, rfl, rfl⟩
theorem vX8_149 {m : GM} (h : (gy m).cls = RX8) : gVir m mX8_refused 149 8 1 := ⟨kX8_refused, rfl, jX8_refused, by rw [h]; exact tW5 212 (by decide +kernel) rfl, _, rfl, rfl⟩
theorem vX8_160 {m : GM} (h : (gy m).cls = RX8) : gVir m mX8_here 160 8 0 := ⟨kX8_here, rfl, jX8_here, by rw [h]; exact tW5 232 (by decide +kernel) rfl, _, rfl, rfl⟩
theorem vX8_164 {m : GM} (h : (gy m).cls = RX8) : gVir m mX8_take 164 8 1 := ⟨kX8_take, rfl, jX8_take, by rw [h]; exact tW6 2 (by decide +kernel) rfl, _, rfl, rfl⟩
theorem vX8_167 {m : GM} (h : (gy m).cls = RX8) : gVir m mX8_digit 167 8 2 := ⟨kX8_digit, rfl, jX8_digit, by rw [h]; exact tW6 6 (by decide +kernel) rfl, _, rfl, rfl⟩
theorem vX8_177 {m : GM} (h : (gy m).cls = RX8) : gVir m mX8_readPlain 177 8 0 := ⟨kX8_readPlain, rfl, jX8_readPlain, by rw [h]; exact tW5 238 (by decide +kernel) rfl, _, rfl, rfl⟩
theorem vX8_180 {m : GM} (h : (gy m).cls = RX8) : gVir m mX8_readOrder 180 8 0 := ⟨kX8_readOrder, rfl, jX8_readOrder, by rw [h]; exact tW5 228 (by decide +kernel) rfl, _, rfl, rfl⟩
theorem vX8_183 {m : GM} (h : (gy m).cls = RX8) : gVir m mX8_readAll 183 8 0 := ⟨kX8_readAll, rfl, jX8_readAll, by rw [h]; exact tW5 224 (by decide +kernel) rfl, _, rfl, rfl⟩
theorem vX8_192 {m : GM} (h : (gy m).cls = RX8) : gVir m mX8_noCell 192 8 1 := ⟨kX8_noCell, rfl, jX8_noCell, by rw [h]; exact tW6 14 (by decide +kernel) rfl, _, rfl, rfl⟩
theorem vX8_201 {m : GM} (h : (gy m).cls = RX8) : gVir m mX8_noColour 201 8 1 := ⟨kX8_noColour, rfl, jX8_noColour, by rw [h]; exact tW6 64 (by decide +kernel) rfl, _, rfl, rfl⟩
theorem vX8_204 {m : GM} (h : (gy m).cls = RX8) : gVir m mX8_areas 204 8 1 := ⟨kX8_areas, rfl, jX8_areas, by rw [h]; exact tW6 72 (by decide +kernel) rfl, _, rfl, rfl⟩
theorem vX8_211 {m : GM} (h : (gy m).cls = RX8) : gVir m mX8_tell 211 8 1 := ⟨kX8_tell, rfl, jX8_tell, by rw [h]; exact tW6 100 (by decide +kernel) rfl, _, rfl, rfl⟩
theorem vX8_221 {m : GM} (h : (gy m).cls = RX8) : gVir m mX8_change 221 8 2 := ⟨kX8_change, rfl, jX8_change, by rw [h]; exact tW6 182 (by decide +kernel) rfl, _, rfl, rfl⟩
theorem vX8_239 {m : GM} (h : (gy m).cls = RX8) : gVir m mX8_goRun 239 8 3 := ⟨kX8_goRun, rfl, jX8_goRun, by rw [h]; exact tW7 56 (by decide +kernel) rfl, _, rfl, rfl⟩
theorem vX8_246 {m : GM} (h : (gy m).cls = RX8) : gVir m mX8_nearest 246 8 1 := ⟨kX8_nearest, rfl, jX8_nearest, by rw [h]; exact tW7 103 (by decide +kernel) rfl, _, rfl, rfl⟩
theorem vX8_249 {m : GM} (h : (gy m).cls = RX8) : gVir m mX8_tried 249 8 0 := ⟨kX8_tried, rfl, jX8_tried, by rw [h]; exact tW7 115 (by decide +kernel) rfl, _, rfl, rfl⟩
theorem vX8_259 {m : GM} (h : (gy m).cls = RX8) : gVir m mX8_stir 259 8 1 := ⟨kX8_stir, rfl, jX8_stir, by rw [h]; exact tW7 134 (by decide +kernel) rfl, _, rfl, rfl⟩
theorem gOI : Cond.instanceMethod Lib.objectInit ∈ gW := tW1 24 (by decide +kernel) rfl
theorem gOC : Cond.code Lib.objectInit ⟨#[0xb1]⟩ 1 none ∈ gW := tW1 25 rfl rfl
theorem gA_int : Cond.arrayClass .int ∈ gW := tW1 48 (by decide +kernel) rfl
theorem gA_char : Cond.arrayClass .char ∈ gW := tW1 88 (by decide +kernel) rfl
theorem gA_boolean : Cond.arrayClass .boolean ∈ gW := tW1 195 (by decide +kernel) rfl
theorem gA_long : Cond.arrayClass .long ∈ gW := tW7 147 (by decide +kernel) rfl
abbrev IAE : String := "java/lang/IllegalArgumentException"
theorem gK_IAE : Cond.castable IAE IAE ∈ gO := tO2 217 (by decide +kernel) rfl
abbrev ISE : String := "java/lang/IllegalStateException"
theorem gK_ISE : Cond.castable ISE ISE ∈ gO := tO3 45 (by decide +kernel) rfl
abbrev IOE : String := "java/lang/IndexOutOfBoundsException"
theorem gK_IOE : Cond.castable IOE IOE ∈ gO := tO3 76 (by decide +kernel) rfl
theorem tX7_61 {m : GM} (h : (gy m).cls = RX7) : gTH m 59 61 63 "java/lang/IllegalStateException" "the text is full" := by
  unfold gTH
  rw [h]
  refine ⟨tW3 43 (by decide +kernel) rfl, tW1 14 (by decide +kernel) rfl, tSi (tt3 52 (by decide +kernel)), fun w hw => ?_, by decide, by decide +kernel⟩
  have h1 := (by decide +kernel : ∀ w ∈ vx_atS RX7 63 "java/lang/IllegalStateException" gXn, w ∈ tables_1 ∧ (goodWord w || gothr w) = true) w hw
  rcases Bool.or_eq_true_iff.mp h1.2 with h2 | h2
  · exact Or.inl (tWi h1.1 h2)
  · exact Or.inr (tOi h1.1 h2)
theorem tX7_208 {m : GM} (h : (gy m).cls = RX7) : gTH m 59 208 63 "java/lang/IllegalStateException" "the cone has too little for an end" := by
  unfold gTH
  rw [h]
  refine ⟨tW3 43 (by decide +kernel) rfl, tW1 14 (by decide +kernel) rfl, tSi (tt4 55 (by decide +kernel)), fun w hw => ?_, by decide, by decide +kernel⟩
  have h1 := (by decide +kernel : ∀ w ∈ vx_atS RX7 63 "java/lang/IllegalStateException" gXn, w ∈ tables_1 ∧ (goodWord w || gothr w) = true) w hw
  rcases Bool.or_eq_true_iff.mp h1.2 with h2 | h2
  · exact Or.inl (tWi h1.1 h2)
  · exact Or.inr (tOi h1.1 h2)
theorem tX7_222 {m : GM} (h : (gy m).cls = RX7) : gTH m 59 222 63 "java/lang/IllegalStateException" "no stitch can be done" := by
  unfold gTH
  rw [h]
  refine ⟨tW3 43 (by decide +kernel) rfl, tW1 14 (by decide +kernel) rfl, tSi (tt4 89 (by decide +kernel)), fun w hw => ?_, by decide, by decide +kernel⟩
  have h1 := (by decide +kernel : ∀ w ∈ vx_atS RX7 63 "java/lang/IllegalStateException" gXn, w ∈ tables_1 ∧ (goodWord w || gothr w) = true) w hw
  rcases Bool.or_eq_true_iff.mp h1.2 with h2 | h2
  · exact Or.inl (tWi h1.1 h2)
  · exact Or.inr (tOi h1.1 h2)
theorem tX7_236 {m : GM} (h : (gy m).cls = RX7) : gTH m 59 236 63 "java/lang/IllegalStateException" "the needle is threaded" := by
  unfold gTH
  rw [h]
  refine ⟨tW3 43 (by decide +kernel) rfl, tW1 14 (by decide +kernel) rfl, tSi (tt4 130 (by decide +kernel)), fun w hw => ?_, by decide, by decide +kernel⟩
  have h1 := (by decide +kernel : ∀ w ∈ vx_atS RX7 63 "java/lang/IllegalStateException" gXn, w ∈ tables_1 ∧ (goodWord w || gothr w) = true) w hw
  rcases Bool.or_eq_true_iff.mp h1.2 with h2 | h2
  · exact Or.inl (tWi h1.1 h2)
  · exact Or.inr (tOi h1.1 h2)
theorem tX7_238 {m : GM} (h : (gy m).cls = RX7) : gTH m 59 238 63 "java/lang/IllegalStateException" "the cone cannot hold so much" := by
  unfold gTH
  rw [h]
  refine ⟨tW3 43 (by decide +kernel) rfl, tW1 14 (by decide +kernel) rfl, tSi (tt4 138 (by decide +kernel)), fun w hw => ?_, by decide, by decide +kernel⟩
  have h1 := (by decide +kernel : ∀ w ∈ vx_atS RX7 63 "java/lang/IllegalStateException" gXn, w ∈ tables_1 ∧ (goodWord w || gothr w) = true) w hw
  rcases Bool.or_eq_true_iff.mp h1.2 with h2 | h2
  · exact Or.inl (tWi h1.1 h2)
  · exact Or.inr (tOi h1.1 h2)
theorem tX7_246 {m : GM} (h : (gy m).cls = RX7) : gTH m 59 246 63 "java/lang/IllegalStateException" "the cell cannot be mended" := by
  unfold gTH
  rw [h]
  refine ⟨tW3 43 (by decide +kernel) rfl, tW1 14 (by decide +kernel) rfl, tSi (tt4 156 (by decide +kernel)), fun w hw => ?_, by decide, by decide +kernel⟩
  have h1 := (by decide +kernel : ∀ w ∈ vx_atS RX7 63 "java/lang/IllegalStateException" gXn, w ∈ tables_1 ∧ (goodWord w || gothr w) = true) w hw
  rcases Bool.or_eq_true_iff.mp h1.2 with h2 | h2
  · exact Or.inl (tWi h1.1 h2)
  · exact Or.inr (tOi h1.1 h2)
theorem tX7_251 {m : GM} (h : (gy m).cls = RX7) : gTH m 59 251 63 "java/lang/IllegalStateException" "the cell has no loop" := by
  unfold gTH
  rw [h]
  refine ⟨tW3 43 (by decide +kernel) rfl, tW1 14 (by decide +kernel) rfl, tSi (tt4 168 (by decide +kernel)), fun w hw => ?_, by decide, by decide +kernel⟩
  have h1 := (by decide +kernel : ∀ w ∈ vx_atS RX7 63 "java/lang/IllegalStateException" gXn, w ∈ tables_1 ∧ (goodWord w || gothr w) = true) w hw
  rcases Bool.or_eq_true_iff.mp h1.2 with h2 | h2
  · exact Or.inl (tWi h1.1 h2)
  · exact Or.inr (tOi h1.1 h2)
theorem tX7_265 {m : GM} (h : (gy m).cls = RX7) : gTH m 59 265 63 "java/lang/IllegalStateException" "a motif in the text has not a lower number" := by
  unfold gTH
  rw [h]
  refine ⟨tW3 43 (by decide +kernel) rfl, tW1 14 (by decide +kernel) rfl, tSi (tt4 210 (by decide +kernel)), fun w hw => ?_, by decide, by decide +kernel⟩
  have h1 := (by decide +kernel : ∀ w ∈ vx_atS RX7 63 "java/lang/IllegalStateException" gXn, w ∈ tables_1 ∧ (goodWord w || gothr w) = true) w hw
  rcases Bool.or_eq_true_iff.mp h1.2 with h2 | h2
  · exact Or.inl (tWi h1.1 h2)
  · exact Or.inr (tOi h1.1 h2)
theorem tX7_271 {m : GM} (h : (gy m).cls = RX7) : gTH m 59 271 63 "java/lang/IllegalStateException" "no motif is stored with this number" := by
  unfold gTH
  rw [h]
  refine ⟨tW3 43 (by decide +kernel) rfl, tW1 14 (by decide +kernel) rfl, tSi (tt4 219 (by decide +kernel)), fun w hw => ?_, by decide, by decide +kernel⟩
  have h1 := (by decide +kernel : ∀ w ∈ vx_atS RX7 63 "java/lang/IllegalStateException" gXn, w ∈ tables_1 ∧ (goodWord w || gothr w) = true) w hw
  rcases Bool.or_eq_true_iff.mp h1.2 with h2 | h2
  · exact Or.inl (tWi h1.1 h2)
  · exact Or.inr (tOi h1.1 h2)
theorem tX7_280 {m : GM} (h : (gy m).cls = RX7) : gTH m 59 280 63 "java/lang/IllegalStateException" "no state is remembered" := by
  unfold gTH
  rw [h]
  refine ⟨tW3 43 (by decide +kernel) rfl, tW1 14 (by decide +kernel) rfl, tSi (tt5 31 (by decide +kernel)), fun w hw => ?_, by decide, by decide +kernel⟩
  have h1 := (by decide +kernel : ∀ w ∈ vx_atS RX7 63 "java/lang/IllegalStateException" gXn, w ∈ tables_1 ∧ (goodWord w || gothr w) = true) w hw
  rcases Bool.or_eq_true_iff.mp h1.2 with h2 | h2
  · exact Or.inl (tWi h1.1 h2)
  · exact Or.inr (tOi h1.1 h2)
theorem tX7_307 {m : GM} (h : (gy m).cls = RX7) : gTH m 59 307 63 "java/lang/IllegalStateException" "nothing has been saved in the slot" := by
  unfold gTH
  rw [h]
  refine ⟨tW3 43 (by decide +kernel) rfl, tW1 14 (by decide +kernel) rfl, tSi (tt5 132 (by decide +kernel)), fun w hw => ?_, by decide, by decide +kernel⟩
  have h1 := (by decide +kernel : ∀ w ∈ vx_atS RX7 63 "java/lang/IllegalStateException" gXn, w ∈ tables_1 ∧ (goodWord w || gothr w) = true) w hw
  rcases Bool.or_eq_true_iff.mp h1.2 with h2 | h2
  · exact Or.inl (tWi h1.1 h2)
  · exact Or.inr (tOi h1.1 h2)
theorem tX7_309 {m : GM} (h : (gy m).cls = RX7) : gTH m 59 309 63 "java/lang/IllegalStateException" "the needle is not threaded" := by
  unfold gTH
  rw [h]
  refine ⟨tW3 43 (by decide +kernel) rfl, tW1 14 (by decide +kernel) rfl, tSi (tt4 80 (by decide +kernel)), fun w hw => ?_, by decide, by decide +kernel⟩
  have h1 := (by decide +kernel : ∀ w ∈ vx_atS RX7 63 "java/lang/IllegalStateException" gXn, w ∈ tables_1 ∧ (goodWord w || gothr w) = true) w hw
  rcases Bool.or_eq_true_iff.mp h1.2 with h2 | h2
  · exact Or.inl (tWi h1.1 h2)
  · exact Or.inr (tOi h1.1 h2)
theorem tX7_311 {m : GM} (h : (gy m).cls = RX7) : gTH m 59 311 63 "java/lang/IllegalStateException" "the text is not a motif" := by
  unfold gTH
  rw [h]
  refine ⟨tW3 43 (by decide +kernel) rfl, tW1 14 (by decide +kernel) rfl, tSi (tt4 200 (by decide +kernel)), fun w hw => ?_, by decide, by decide +kernel⟩
  have h1 := (by decide +kernel : ∀ w ∈ vx_atS RX7 63 "java/lang/IllegalStateException" gXn, w ∈ tables_1 ∧ (goodWord w || gothr w) = true) w hw
  rcases Bool.or_eq_true_iff.mp h1.2 with h2 | h2
  · exact Or.inl (tWi h1.1 h2)
  · exact Or.inr (tOi h1.1 h2)
theorem tX7_186 {m : GM} (h : (gy m).cls = RX7) : gTH m 184 186 188 "java/lang/IndexOutOfBoundsException" "the motif has no such place" := by
  unfold gTH
  rw [h]
  refine ⟨tW3 74 (by decide +kernel) rfl, tW1 15 (by decide +kernel) rfl, tSi (tt4 9 (by decide +kernel)), fun w hw => ?_, by decide, by decide +kernel⟩
  have h1 := (by decide +kernel : ∀ w ∈ vx_atS RX7 188 "java/lang/IndexOutOfBoundsException" gXn, w ∈ tables_1 ∧ (goodWord w || gothr w) = true) w hw
  rcases Bool.or_eq_true_iff.mp h1.2 with h2 | h2
  · exact Or.inl (tWi h1.1 h2)
  · exact Or.inr (tOi h1.1 h2)
theorem tX7_313 {m : GM} (h : (gy m).cls = RX7) : gTH m 184 313 188 "java/lang/IndexOutOfBoundsException" "there is no such cell" := by
  unfold gTH
  rw [h]
  refine ⟨tW3 74 (by decide +kernel) rfl, tW1 15 (by decide +kernel) rfl, tSi (tt3 83 (by decide +kernel)), fun w hw => ?_, by decide, by decide +kernel⟩
  have h1 := (by decide +kernel : ∀ w ∈ vx_atS RX7 188 "java/lang/IndexOutOfBoundsException" gXn, w ∈ tables_1 ∧ (goodWord w || gothr w) = true) w hw
  rcases Bool.or_eq_true_iff.mp h1.2 with h2 | h2
  · exact Or.inl (tWi h1.1 h2)
  · exact Or.inr (tOi h1.1 h2)
theorem tX7_315 {m : GM} (h : (gy m).cls = RX7) : gTH m 184 315 188 "java/lang/IndexOutOfBoundsException" "there is no such colour" := by
  unfold gTH
  rw [h]
  refine ⟨tW3 74 (by decide +kernel) rfl, tW1 15 (by decide +kernel) rfl, tSi (tt3 131 (by decide +kernel)), fun w hw => ?_, by decide, by decide +kernel⟩
  have h1 := (by decide +kernel : ∀ w ∈ vx_atS RX7 188 "java/lang/IndexOutOfBoundsException" gXn, w ∈ tables_1 ∧ (goodWord w || gothr w) = true) w hw
  rcases Bool.or_eq_true_iff.mp h1.2 with h2 | h2
  · exact Or.inl (tWi h1.1 h2)
  · exact Or.inr (tOi h1.1 h2)
theorem tX7_317 {m : GM} (h : (gy m).cls = RX7) : gTH m 184 317 188 "java/lang/IndexOutOfBoundsException" "a motif's number is 0 to 3" := by
  unfold gTH
  rw [h]
  refine ⟨tW3 74 (by decide +kernel) rfl, tW1 15 (by decide +kernel) rfl, tSi (tt3 237 (by decide +kernel)), fun w hw => ?_, by decide, by decide +kernel⟩
  have h1 := (by decide +kernel : ∀ w ∈ vx_atS RX7 188 "java/lang/IndexOutOfBoundsException" gXn, w ∈ tables_1 ∧ (goodWord w || gothr w) = true) w hw
  rcases Bool.or_eq_true_iff.mp h1.2 with h2 | h2
  · exact Or.inl (tWi h1.1 h2)
  · exact Or.inr (tOi h1.1 h2)
theorem tX7_319 {m : GM} (h : (gy m).cls = RX7) : gTH m 184 319 188 "java/lang/IndexOutOfBoundsException" "there is no such save slot" := by
  unfold gTH
  rw [h]
  refine ⟨tW3 74 (by decide +kernel) rfl, tW1 15 (by decide +kernel) rfl, tSi (tt5 124 (by decide +kernel)), fun w hw => ?_, by decide, by decide +kernel⟩
  have h1 := (by decide +kernel : ∀ w ∈ vx_atS RX7 188 "java/lang/IndexOutOfBoundsException" gXn, w ∈ tables_1 ∧ (goodWord w || gothr w) = true) w hw
  rcases Bool.or_eq_true_iff.mp h1.2 with h2 | h2
  · exact Or.inl (tWi h1.1 h2)
  · exact Or.inr (tOi h1.1 h2)
theorem tX7_323 {m : GM} (h : (gy m).cls = RX7) : gTH m 321 323 325 "java/lang/IllegalArgumentException" "an argument is out of its range" := by
  unfold gTH
  rw [h]
  refine ⟨tW2 215 (by decide +kernel) rfl, tW1 13 (by decide +kernel) rfl, tSi (tt3 16 (by decide +kernel)), fun w hw => ?_, by decide, by decide +kernel⟩
  have h1 := (by decide +kernel : ∀ w ∈ vx_atS RX7 325 "java/lang/IllegalArgumentException" gXn, w ∈ tables_1 ∧ (goodWord w || gothr w) = true) w hw
  rcases Bool.or_eq_true_iff.mp h1.2 with h2 | h2
  · exact Or.inl (tWi h1.1 h2)
  · exact Or.inr (tOi h1.1 h2)
end
