section
/-! ===== BEGIN words of one list among another's, by their places ===== -/
theorem goodIn_r {big : List Cond} (ws : List Cond) (ps : List Nat) (hp : ws = ps.filterMap (fun i => big[i]?)) (h : ws.all goodWord = true) : GoodIn big ws := by
  intro w hw
  have h1 := List.all_eq_true.mp h w hw
  rw [hp] at hw
  obtain ⟨i, -, hi⟩ := List.mem_filterMap.mp hw
  have hm : w ∈ big := by first | exact List.mem_of_getElem? hi | exact List.getElem?_mem hi
  exact ⟨hm, good_of_word h1⟩
theorem goodIn_app {big a b : List Cond} (ha : GoodIn big a) (hb : GoodIn big b) : GoodIn big (a ++ b) := fun w h => (List.mem_append.mp h).elim (ha w) (hb w)
theorem goodIn_ca {big a b : List Cond} {c : Cond} (ha : GoodIn big (c :: a)) (hb : GoodIn big b) : GoodIn big (c :: (a ++ b)) := fun w h => (List.mem_cons.mp h).elim (fun e => ha w (List.mem_cons.mpr (Or.inl e))) (fun h => (List.mem_append.mp h).elim (fun h => ha w (List.mem_cons.mpr (Or.inr h))) (hb w))
theorem goodIn_sub {big ws : List Cond} (hm : ∀ w ∈ ws, w ∈ big) (h : ws.all goodWord = true) : GoodIn big ws := fun w hw => ⟨hm w hw, good_of_word (List.all_eq_true.mp h w hw)⟩
/-! ===== END ===== -/
/-! ===== BEGIN exceptions that leave a method, and their catching by the caller (launches without stack traces) ===== -/
section VXA
/-! The laws vx_back, vx_callV, vx_callS, vx_callSW, vx_throw0, vx_throwS follow proofs of the library, with one case more: JvmDerived/Free/Laws.lean (Back.of_free), Shelf42/LK1.lean (callV, callS), Shelf/KitTraced.lean (throwNew0V, throwNewS). -/
/-- where a method has thrown q: the class by its name, the cell, what was written, the world -/
def vx_T (XC : String → State → State → Prop) (st : State) (q : Addr) (t : State) (mc ms : Nat) (free : Addr → Prop) : Prop :=
  ∃ (E : String) (ce : Cell) (L : List Loc), XC E st t ∧ t.heap[q]? = some ce ∧ ce.vm = .none ∧ st.vm.findClass E = some ce.cls ∧ st.WarmedH t.vm ∧ st.sameButNew ({ t with vm := st.vm } : State) L mc ms ∧ ∀ z ∈ L, free z.base
def vx_Q (Qc : Array Value → State → Outcome → State → Prop) (XC : String → State → State → Prop) (mc ms : Nat) (free : Addr → Prop) : Array Value → State → Outcome → State → Prop := fun a st o t =>
  (Qc a st o t ∧ ∃ L, FrameEnd st o t L mc ms ∧ ∀ q ∈ L, free q.base) ∨ ∃ q, o = .threw q ∧ vx_T XC st q t mc ms free
/-- a callee that returns or throws -/
def vx_Met (l : Launch) (y : MethodName) (ws : List Cond) (rm : Room) (Pc : Array Value → State → Prop) (Qc : Array Value → State → Outcome → State → Prop) (XC : String → State → State → Prop) (mc ms : Nat) (free : Addr → Prop) : Prop :=
  MetFree l y (headSpec ws rm) Pc (fun _ _ _ _ _ => True) (vx_Q Qc XC mc ms free)
def vx_Post (XC : String → State → State → Prop) (mc ms : Nat) (free : Addr → Prop) : Pt → Array Value → Addr → Pt → Prop := fun A a q B =>
  ∃ (g : JFrame) (mk : MethodId) (t : State) (L : List Loc) (E : String) (ce : Cell), B.U.heap = t.heap ∧ B.U.vm = t.vm ∧ XC E (A.U.calling g mk a) t ∧ t.heap[q]? = some ce ∧ ce.vm = .none ∧ A.U.vm.findClass E = some ce.cls ∧ B.locs = A.locs ++ L ∧ (∀ z ∈ L, free z.base) ∧ B.cells = A.cells + mc ∧ B.slots = A.slots + ms
def vx_Back (l : Launch) (R : Room) (p : Program) (e : Env) (below : List Frame) (s : State) (sargs : Array Value) (y : MethodName) (len W9 : Nat)
    (Pre : Pt → Array Value → Prop) (Post : Pt → Array Value → Option Value → Pt → Prop) (PostX : Pt → Array Value → Addr → Pt → Prop) : Prop :=
  ∀ (m : MethodId) (meth : Method) (c : Code) (A : Pt) (g : JFrame) (ig : Instr) (mk : MethodId) (a : Array Value),
    Stand p l e R s m sargs below meth c A.U A.locs A.cells A.slots → g.method = m → g.locals.size = c.maxLocals → decode c.code g.pc = .ok (ig, len) →
    2 * g.monitorRoom + (g.stack.map fun v => v.category).sum ≤ W9 → A.U.methodNamed? y = some mk → Pre A a →
    (∃ (v : Option Value) (B : Pt), Stand p l e R s m sargs below meth c B.U B.locs B.cells B.slots ∧ Post A a v B ∧
      Steps p.tables e below (doInvoke e (A.U.setTop g) [] mk a).1 (B.U.setTop { g with pc := g.pc + len, stack := v.toList ++ g.stack })) ∨
    (∃ (q : Addr) (B : Pt), Stand p l e R s m sargs below meth c B.U B.locs B.cells B.slots ∧ PostX A a q B ∧
      Steps p.tables e below (doInvoke e (A.U.setTop g) [] mk a).1 ((B.U.setTop g).pushFrame (.throwing q)))
section Payer
variable {l : Launch} {R : Room} {p : Program} {e : Env} {below : List Frame} {s : State} {sargs : Array Value} {y : MethodName} {len W9 : Nat}
theorem vx_back {ws : List Cond} {rm : Room} {Pc : Array Value → State → Prop} {Qc : Array Value → State → Outcome → State → Prop} {XC : String → State → State → Prop} {mc ms : Nat} {free : Addr → Prop} {bytes : ByteArray} {maxL : Nat} {ret : Option FieldType}
    (hM : vx_Met l y ws rm Pc Qc XC mc ms free) (hblind : FrameBlind Pc) (hrc : rm.cells = mc) (hrs : rm.slots = ms)
    (hframes : rm.frames + 1 ≤ R.frames) (hlocals : W9 + (maxL + 11) + rm.locals ≤ R.locals)
    (hws : ∀ w ∈ ws, ∀ a' U, s.WarmedH U.vm → w.before a' U = true) (hcode : Cond.code y bytes maxL ret ∈ ws) (hinit : ∀ a' U, s.WarmedH U.vm → (Cond.initialized y.cls).before a' U = true) :
    vx_Back l R p e below s sargs y len W9 (PreOf R mc ms Pc) (PostOf Qc mc ms free) (vx_Post XC mc ms free) := by
  intro m meth c A g ig mk a X hg hsize hdg hW hn hp
  have h1 : (headSpec ws rm).pre.before a A.U = true := atoms_intro fun w hw => hws w hw _ _ X.warmed
  have h2 : (Cond.code y bytes maxL ret).before a A.U = true := hws _ hcode _ _ X.warmed
  have h3 : (Cond.initialized y.cls).before a A.U = true := hinit _ _ X.warmed
  have h4 : A.cells + (headSpec ws rm).room.cells ≤ R.cells := by rw [show (headSpec ws rm).room.cells = mc from hrc]; exact hp.1
  have h5 : A.slots + (headSpec ws rm).room.slots ≤ R.slots := by rw [show (headSpec ws rm).room.slots = ms from hrs]; exact hp.2.1
  have hPc : Pc a (A.U.calling g mk a) := hblind _ _ _ _ hp.2.2
  obtain ⟨U, Ls, c0, s0⟩ := A
  dsimp only [Pt.U, Pt.locs, Pt.cells, Pt.slots] at h1 h2 h3 h4 h5 X hn hPc ⊢
  obtain ⟨methY, cY, hmY, hcY, -, hlY, -, -, -, -⟩ := Cond.code_spec hn h2
  obtain ⟨kY, hkY, -⟩ := className_of_methodNamed hn
  have hinitY : kY.init = .initialized := Cond.initialized_spec (findClass_of_methodNamed hn) hkY h3
  have h : At U g.method c below := by rw [hg]; exact X.here
  have hlocals9 : W9 + (maxL + 11) + (headSpec ws rm).room.locals ≤ R.locals := hlocals
  have happ : (headSpec ws rm).appliesLoose y e.platform (U.calling g mk a) = true :=
    Spec.appliesLoose_calling (g := g) h hdg hn hkY hinitY
      (X.room_calling (g := g) (R' := (headSpec ws rm).room) hsize hmY hcY hframes (by rw [hlY]; omega) h4 h5) h1
  obtain ⟨mid, hmid⟩ := h.above
  have hfr : (U.setTop g).frames = (.java g :: mid) ++ below := by rw [State.frames_setTop' g h.top, hmid]; rfl
  obtain ⟨o, s₂, hsteps, -, hend, hq⟩ := Steps.callFree hM p X.admits X.cas X.clock (acts := []) hfr happ hPc trivial
  have hq' : vx_Q Qc XC mc ms free a (U.calling g mk a) o s₂ := hq
  rw [State.frames_setTop' g h.top] at hend
  obtain ⟨g₀, hg0⟩ := Option.isSome_iff_exists.mp h.top
  obtain ⟨r, hr⟩ := State.topJava?_eq_some.mp hg0
  have hr' : (({ U with heap := s₂.heap, slotsUsed := s₂.slotsUsed } : State).setVm s₂.vm).frames = .java g₀ :: r := hr
  rcases hq' with ⟨hqc, L, hfe, hL⟩ | ⟨q, rfl, E, ce, L, hx, hce, hcv, hcl, hW₂, hsm, hL⟩
  · obtain ⟨⟨v, rfl⟩, hW₂, e2, q2, q3, q4, q5, q6⟩ := id hfe
    have e3 : s₂ = ({ (U.calling g mk a).setFrames s₂.frames with heap := s₂.heap, slotsUsed := s₂.slotsUsed } : State).setVm s₂.vm := by
      have : s₂ = ({ s₂ with vm := (U.calling g mk a).vm } : State).setVm s₂.vm := rfl
      rw [e2] at this
      exact this
    obtain ⟨c₂, i₂, len₂, hc₂, hd₂, hf₂⟩ := hend
    have hW' : U.WarmedH s₂.vm := hW₂
    have hcc : c₂ = c := by
      have h1 : s₂.code? g.method = U.code? g.method := by
        rw [State.code?_eq, State.code?_eq, hW'.alike.method?]
      exact Option.some.inj (hc₂.symm.trans (h1.trans h.code))
    subst hcc
    have hlen : len₂ = len := by rw [hdg] at hd₂; cases hd₂; rfl
    subst hlen
    have hs₂ : s₂ = (({ U with heap := s₂.heap, slotsUsed := s₂.slotsUsed } : State).setVm s₂.vm).setTop { g with pc := g.pc + len₂, stack := v.toList ++ g.stack } := by
      refine e3.trans ?_
      rw [hf₂, State.calling_eq h.top, State.setFrames_setFrames, State.setTop_of_frames _ hr', hr]
      rfl
    have hsame : U.sameButNew ({ U with heap := s₂.heap, slotsUsed := s₂.slotsUsed } : State) L mc ms := by
      refine ⟨?_, q2, q3, q4, q5, q6⟩
      obtain ⟨t, ht, -⟩ := State.frames_cons hr
      show ({ U with heap := s₂.heap, slotsUsed := s₂.slotsUsed } : State) = { U.setFrames U.frames with heap := s₂.heap, slotsUsed := s₂.slotsUsed }
      rw [State.setFrames_self ht]
    subst hg
    refine Or.inl ⟨v, ⟨(({ U with heap := s₂.heap, slotsUsed := s₂.slotsUsed } : State).setVm s₂.vm), Ls ++ L, c0 + mc, s0 + ms⟩,
      ⟨X.admits, X.cas, X.clock, X.frames, X.room, X.hears, X.method, X.code, (X.here.setHeapUsed s₂.heap s₂.slotsUsed).setVm hW'.alike, X.tail, State.WarmedH.trans X.warmed hW', X.limits, X.bytes, X.same.trans (hsame.setVm s.vm)⟩,
      ⟨g, mk, s₂, L, rfl, rfl, hqc, rfl, hL, rfl, rfl⟩, ?_⟩
    show Steps p.tables e below _ ((({ U with heap := s₂.heap, slotsUsed := s₂.slotsUsed } : State).setVm s₂.vm).setTop { g with pc := g.pc + len₂, stack := v.toList ++ g.stack })
    rw [← hs₂]
    exact hsteps
  · obtain ⟨e2, q2, q3, q4, q5, q6⟩ := id hsm
    have e3 : s₂ = ({ (U.calling g mk a).setFrames s₂.frames with heap := s₂.heap, slotsUsed := s₂.slotsUsed } : State).setVm s₂.vm := by
      have : s₂ = ({ s₂ with vm := (U.calling g mk a).vm } : State).setVm s₂.vm := rfl
      rw [e2] at this
      exact this
    have hf₂ : s₂.frames = .throwing q :: .java g :: U.frames.tail := hend
    have hW' : U.WarmedH s₂.vm := hW₂
    have hs₂ : s₂ = ((({ U with heap := s₂.heap, slotsUsed := s₂.slotsUsed } : State).setVm s₂.vm).setTop g).pushFrame (.throwing q) := by
      refine e3.trans ?_
      rw [hf₂, State.calling_eq h.top, State.setFrames_setFrames, State.pushFrame, State.frames_setTop _ hr', State.setTop_of_frames _ hr', State.setFrames_setFrames, hr]
      rfl
    have hsame : U.sameButNew ({ U with heap := s₂.heap, slotsUsed := s₂.slotsUsed } : State) L mc ms := by
      refine ⟨?_, q2, q3, q4, q5, q6⟩
      obtain ⟨t, ht, -⟩ := State.frames_cons hr
      show ({ U with heap := s₂.heap, slotsUsed := s₂.slotsUsed } : State) = { U.setFrames U.frames with heap := s₂.heap, slotsUsed := s₂.slotsUsed }
      rw [State.setFrames_self ht]
    subst hg
    refine Or.inr ⟨q, ⟨(({ U with heap := s₂.heap, slotsUsed := s₂.slotsUsed } : State).setVm s₂.vm), Ls ++ L, c0 + mc, s0 + ms⟩,
      ⟨X.admits, X.cas, X.clock, X.frames, X.room, X.hears, X.method, X.code, (X.here.setHeapUsed s₂.heap s₂.slotsUsed).setVm hW'.alike, X.tail, State.WarmedH.trans X.warmed hW', X.limits, X.bytes, X.same.trans (hsame.setVm s.vm)⟩,
      ⟨g, mk, s₂, L, E, ce, rfl, rfl, hx, hce, hcv, hcl, rfl, hL, rfl, rfl⟩, ?_⟩
    show Steps p.tables e below _ (((({ U with heap := s₂.heap, slotsUsed := s₂.slotsUsed } : State).setVm s₂.vm).setTop g).pushFrame (.throwing q))
    rw [← hs₂]
    exact hsteps
end Payer
section Calls
variable {p : Program} {l : Launch} {e : Env} {R : Room} {s : State} {m : MethodId} {args : Array Value} {below : List Frame} {meth : Method} {c : Code} {T : State} {locs : List Loc} {cells slots : Nat}
theorem vx_callV (X : Stand p l e R s m args below meth c T locs cells slots) (hexec : p.tables.exec = Jvm.exec) {own C : String} {index : Nat} {y : MethodName} {bytes : ByteArray} {maxL : Nat} {ret : Option FieldType}
    (hown : s.vm.findClass own = some m.cls) (hlink : (Cond.methodLink own index y).before args s = true) (hinst : (Cond.instanceMethod y).before args s = true) (hsel : (Cond.selects C y y).before args s = true)
    (hcode : (Cond.code y bytes maxL ret).before args s = true) (hy : y.cls ≠ "java/lang/invoke/MethodHandle" ∧ y.cls ≠ "java/lang/invoke/VarHandle")
    {W9 : Nat} {Pre : Pt → Array Value → Prop} {Post : Pt → Array Value → Option Value → Pt → Prop} {PostX : Pt → Array Value → Addr → Pt → Prop} (hK : vx_Back l R p e below s args y 3 W9 Pre Post PostX)
    {b : Addr} {cellB : Cell} (hcell : T.heap[b]? = some cellB) (hobj : cellB.vm.isStatics = false) (hcls : s.vm.findClass C = some cellB.cls)
    {g : JFrame} (hg : g.method = m) (hsize : g.locals.size = c.maxLocals) {argsL rest : List Value} (hlen : ∀ sig, parseMethodDescriptor y.desc = some sig → argsL.length = sig.parameters.length)
    (hstack : g.stack = argsL.reverse ++ .ref b :: rest) (hW : 2 * g.monitorRoom + (rest.map fun v => v.category).sum ≤ W9) (hdg : decode c.code g.pc = .ok (.invokevirtual index, 3))
    (hpre : ∀ vm₁, s.WarmedH vm₁ → Pre ⟨T.setVm vm₁, locs, cells, slots⟩ (Value.ref b :: argsL).toArray) :
    (∃ (v : Option Value) (vm₁ : Vm) (B : Pt), s.WarmedH vm₁ ∧ Stand p l e R s m args below meth c B.U B.locs B.cells B.slots ∧ Post ⟨T.setVm vm₁, locs, cells, slots⟩ (Value.ref b :: argsL).toArray v B ∧
      ∀ target, Steps p.tables e below (B.U.setTop { g with pc := g.pc + 3, stack := v.toList ++ rest }) target → Steps p.tables e below (T.setTop g) target) ∨
    (∃ (q : Addr) (vm₁ : Vm) (B : Pt), s.WarmedH vm₁ ∧ Stand p l e R s m args below meth c B.U B.locs B.cells B.slots ∧ PostX ⟨T.setVm vm₁, locs, cells, slots⟩ (Value.ref b :: argsL).toArray q B ∧
      Steps p.tables e below (T.setTop g) ((B.U.setTop { g with stack := rest }).pushFrame (.throwing q))) := by
  obtain ⟨mk, methM, hnamed, hmethM, hstM, habM⟩ := Cond.instanceMethod_spec hinst
  obtain ⟨methM', cM, hmethM', -, -, -, -, -, -, hsigM⟩ := Cond.code_spec hnamed hcode
  cases hmethM.symm.trans hmethM'
  obtain ⟨c2, r2, m2, q1, q2, q3, q4, kP, hkP, hkPi⟩ := Cond.selects_spec hsel
  cases hcls.symm.trans q1
  cases (State.methodFound?_of_named hnamed hy).symm.trans q2
  cases hnamed.symm.trans q3
  have hselP : selectMethod e.platform s.vm cellB.cls mk = .method mk := by rw [Launch.admits_selectMethod X.admits]; exact q4
  obtain ⟨vm₁, X₁, hstep₁⟩ := X.invokevirtual hexec hown hlink hnamed hmethM hstM hkP hkPi hy (a := b) (cell := cellB) hcell
    (fun z h => by rw [h] at hobj; cases hobj) hselP hmethM habM hkP hkPi (g := g) hg (argsL := argsL) (rest := rest) (hlen _ hsigM) hstack hdg
  rcases hK m meth c ⟨T.setVm vm₁, locs, cells, slots⟩ { g with stack := rest } (.invokevirtual index) mk (Value.ref b :: argsL).toArray X₁ hg hsize hdg hW (X₁.named hnamed) (hpre vm₁ X₁.warmed) with ⟨v, B, X', hpost, hsteps⟩ | ⟨q, B, X', hpost, hsteps⟩
  · exact Or.inl ⟨v, vm₁, B, X₁.warmed, X', hpost, fun target h => hstep₁ _ fun acts => by rw [doInvoke_state]; exact hsteps.trans h⟩
  · exact Or.inr ⟨q, vm₁, B, X₁.warmed, X', hpost, hstep₁ _ fun acts => by rw [doInvoke_state]; exact hsteps⟩
theorem vx_callS (X : Stand p l e R s m args below meth c T locs cells slots) (hexec : p.tables.exec = Jvm.exec) {own : String} {index : Nat} {y : MethodName} {bytes : ByteArray} {maxL : Nat} {ret : Option FieldType}
    (hown : s.vm.findClass own = some m.cls) (hlink : (Cond.methodLink own index y).before args s = true) (hstat : (Cond.static y).before args s = true) (hinit : (Cond.initialized y.cls).before args s = true)
    (hcode : (Cond.code y bytes maxL ret).before args s = true) (hy : y.cls ≠ "java/lang/invoke/MethodHandle" ∧ y.cls ≠ "java/lang/invoke/VarHandle")
    {W9 : Nat} {Pre : Pt → Array Value → Prop} {Post : Pt → Array Value → Option Value → Pt → Prop} {PostX : Pt → Array Value → Addr → Pt → Prop} (hK : vx_Back l R p e below s args y 3 W9 Pre Post PostX)
    {g : JFrame} (hg : g.method = m) (hsize : g.locals.size = c.maxLocals) {argsL rest : List Value} (hlen : ∀ sig, parseMethodDescriptor y.desc = some sig → argsL.length = sig.parameters.length)
    (hstack : g.stack = argsL.reverse ++ rest) (hW : 2 * g.monitorRoom + (rest.map fun v => v.category).sum ≤ W9) (hdg : decode c.code g.pc = .ok (.invokestatic index, 3))
    (hpre : ∀ vm₁, s.WarmedH vm₁ → Pre ⟨T.setVm vm₁, locs, cells, slots⟩ argsL.toArray) :
    (∃ (v : Option Value) (vm₁ : Vm) (B : Pt), s.WarmedH vm₁ ∧ Stand p l e R s m args below meth c B.U B.locs B.cells B.slots ∧ Post ⟨T.setVm vm₁, locs, cells, slots⟩ argsL.toArray v B ∧
      ∀ target, Steps p.tables e below (B.U.setTop { g with pc := g.pc + 3, stack := v.toList ++ rest }) target → Steps p.tables e below (T.setTop g) target) ∨
    (∃ (q : Addr) (vm₁ : Vm) (B : Pt), s.WarmedH vm₁ ∧ Stand p l e R s m args below meth c B.U B.locs B.cells B.slots ∧ PostX ⟨T.setVm vm₁, locs, cells, slots⟩ argsL.toArray q B ∧
      Steps p.tables e below (T.setTop g) ((B.U.setTop { g with stack := rest }).pushFrame (.throwing q))) := by
  obtain ⟨mk, hnamed⟩ := Cond.code_named hcode
  obtain ⟨methM, cM, hmethM, -, -, -, -, -, -, hsigM⟩ := Cond.code_spec hnamed hcode
  have hstatic : methM.isStatic = true := Cond.static_spec hnamed hmethM hstat
  obtain ⟨kP, hkP, -⟩ := className_of_methodNamed hnamed
  have hinitP : kP.init = .initialized := Cond.initialized_spec (findClass_of_methodNamed hnamed) hkP hinit
  obtain ⟨vm₁, X₁, hstep₁⟩ := X.invokestatic hexec hown hlink hnamed hmethM hstatic hkP hinitP hy (g := g) hg (argsL := argsL) (rest := rest) (hlen _ hsigM) hstack hdg
  rcases hK m meth c ⟨T.setVm vm₁, locs, cells, slots⟩ { g with stack := rest } (.invokestatic index) mk argsL.toArray X₁ hg hsize hdg hW (X₁.named hnamed) (hpre vm₁ X₁.warmed) with ⟨v, B, X', hpost, hsteps⟩ | ⟨q, B, X', hpost, hsteps⟩
  · exact Or.inl ⟨v, vm₁, B, X₁.warmed, X', hpost, fun target h => hstep₁ _ fun acts => by rw [doInvoke_state]; exact hsteps.trans h⟩
  · exact Or.inr ⟨q, vm₁, B, X₁.warmed, X', hpost, hstep₁ _ fun acts => by rw [doInvoke_state]; exact hsteps⟩
end Calls
theorem vx_cls {s : State} {T : State} {vm₁ : Vm} {E : String} {k : ClassId} (hW : s.WarmedH vm₁) (h : (T.setVm vm₁).vm.findClass E = some k) : s.vm.findClass E = some k := by
  have h1 : vm₁.findClass E = some k := h
  rw [hW.alike.findClass] at h1
  exact h1
/-- the method's frame g, with q thrown over it -/
def vx_W (p : Program) (l : Launch) (e : Env) (R : Room) (s : State) (m : MethodId) (args : Array Value) (below : List Frame) (meth : Method) (c : Code) (H : Heap) (locs : List Loc) (cells slots : Nat) (Q : State → Prop) (g : JFrame) (q : Addr) : Prop :=
  ∀ T : State, T.heap = H → Stand p l e R s m args below meth c T locs cells slots → ∃ t, Steps p.tables e below ((T.setTop g).pushFrame (.throwing q)) t ∧ Q t
def vx_Run (p : Program) (l : Launch) (e : Env) (R : Room) (s : State) (m : MethodId) (args : Array Value) (below : List Frame) (meth : Method) (c : Code) (H : Heap) (locs : List Loc) (cells slots mc ms : Nat) (g : JFrame) (rest : List Value) (Qa : State → Outcome → State → Prop) (XC : String → State → State → Prop) (free : Addr → Prop) : Prop :=
  ∀ T : State, T.heap = H → Stand p l e R s m args below meth c T locs cells slots →
    (∃ (v : Option Value) (st₀ t T' : State) (L : List Loc), st₀.heap = H ∧ Stand p l e R s m args below meth c T' (locs ++ L) (cells + mc) (slots + ms) ∧ (∀ q ∈ L, free q.base) ∧ T'.heap = t.heap ∧ T'.vm = t.vm ∧ Qa st₀ (.returned v) t ∧
      Goes p e below T g T' { g with pc := g.pc + 3, stack := v.toList ++ rest }) ∨
    (∃ (q : Addr) (st₀ t T' : State) (L : List Loc) (E : String) (ce : Cell), st₀.heap = H ∧ Stand p l e R s m args below meth c T' (locs ++ L) (cells + mc) (slots + ms) ∧ (∀ z ∈ L, free z.base) ∧ T'.heap = t.heap ∧ T'.vm = t.vm ∧ XC E st₀ t ∧ t.heap[q]? = some ce ∧ ce.vm = .none ∧ s.vm.findClass E = some ce.cls ∧
      Steps p.tables e below (T.setTop g) ((T'.setTop { g with stack := rest }).pushFrame (.throwing q)))
def vx_X {S : Type} (px : S → Prop) (B : String → S → State → Prop) (A : Nat → Prop) : String → State → State → Prop := fun E st t => ∃ u : S, px u ∧ B E u t ∧ va_F A st t
section Runs
variable {p : Program} {l : Launch} {e : Env} {R : Room} {s : State} {m : MethodId} {args : Array Value} {below : List Frame} {meth : Method} {c : Code} {H : Heap} {locs : List Loc} {cells slots : Nat}
variable {y : MethodName} {bytes cc : ByteArray} {maxL nL mc ms n index : Nat} {ret : Option FieldType} {ws : List Cond} {rm : Room} {Pc : Array Value → State → Prop} {Qc : Array Value → State → Outcome → State → Prop} {XC : String → State → State → Prop} {free : Addr → Prop} {Ts : List Cond} {own C : String} {b : Addr} {As rest : List Value} {g : JFrame}
theorem vx_callBack (cb : CallB R s args own index y bytes maxL ret ws rm mc ms n) (hM : vx_Met l y ws rm Pc Qc XC mc ms free) (hbl : FrameBlind Pc) : vx_Back l R p e below s args y 3 8 (PreOf R mc ms Pc) (PostOf Qc mc ms free) (vx_Post XC mc ms free) := by
  obtain ⟨hrc, hrs, hfr, hlo, hws, hcw, -, hini, -⟩ := cb
  exact vx_back (bytes := bytes) (maxL := maxL) (ret := ret) hM hbl hrc hrs hfr hlo hws hcw (fun a' U hW => word_at hW (Or.inl (by first | rfl | simp [Cond.onTables, Cond.keeps, Cond.steady])) hini)
theorem vx_runV (S : CallFix p m c cc nL s args Ts own) (hM : vx_Met l y ws rm Pc Qc XC mc ms free) (cw : CallW R s args own C index y bytes maxL ret ws rm mc ms n) (hp : PreV s H C b Pc As)
    (hg : g.method = m) (hn : As.length = n) (hsize : g.locals.size = nL) (hstack : g.stack = As.reverse ++ .ref b :: rest) (hW : 2 * g.monitorRoom + (rest.map fun v => v.category).sum ≤ 8) (hdg : decode cc g.pc = .ok (.invokevirtual index, 3)) (hf : cells + mc ≤ R.cells ∧ slots + ms ≤ R.slots) :
    vx_Run p l e R s m args below meth c H locs cells slots mc ms g rest (Qc (Value.ref b :: As).toArray) XC free := by
  have hK : vx_Back l R p e below s args y 3 8 (PreOf R mc ms Pc) (PostOf Qc mc ms free) (vx_Post XC mc ms free) := vx_callBack cw.1 hM hp.1
  obtain ⟨⟨-, -, -, -, -, -, hcode, -, hy, hlen, hl⟩, hin, hse⟩ := cw
  obtain ⟨hx, hb, hml, ho, -⟩ := S
  obtain ⟨-, ⟨cellB, hcB, hoB, hclB⟩, hPc⟩ := hp
  intro T hT X
  rcases vx_callV X hx (C := C) (bytes := bytes) (maxL := maxL) (ret := ret) ho hl hin hse hcode hy hK (by rw [hT]; exact hcB) hoB hclB hg (hsize.trans hml.symm) (argsL := As) (rest := rest) (fun sig h => hn.trans (hlen sig h)) hstack hW (by rw [hb]; exact hdg)
    (fun vm₁ hW₁ => ⟨hf.1, hf.2, hPc (T.setVm vm₁) hT hW₁⟩) with ⟨v, vm₁, ⟨U', l2, c2, s2⟩, hW₁, X', ⟨g', mk, t, L, e1, e2, hq, h1, hL, h2, h3⟩, st⟩ | ⟨q, vm₁, ⟨U', l2, c2, s2⟩, hW₁, X', ⟨g', mk, t, L, E, ce, e1, e2, hq, hce, hcv, hcl, h1, hL, h2, h3⟩, st⟩
  · dsimp only [Pt.U, Pt.locs, Pt.cells, Pt.slots] at X' e1 e2 h1 h2 h3 st
    subst h1; subst h2; subst h3
    exact Or.inl ⟨v, (T.setVm vm₁).calling g' mk (Value.ref b :: As).toArray, t, U', L, hT, X', hL, e1, e2, hq, st⟩
  · dsimp only [Pt.U, Pt.locs, Pt.cells, Pt.slots] at X' e1 e2 h1 h2 h3 st hcl
    subst h1; subst h2; subst h3
    exact Or.inr ⟨q, (T.setVm vm₁).calling g' mk (Value.ref b :: As).toArray, t, U', L, E, ce, hT, X', hL, e1, e2, hq, hce, hcv, vx_cls hW₁ hcl, st⟩
theorem vx_runS (S : CallFix p m c cc nL s args Ts own) (hM : vx_Met l y ws rm Pc Qc XC mc ms free) (cw : CallB R s args own index y bytes maxL ret ws rm mc ms n ∧ (Cond.static y).before args s = true) (hp : PreS s H Pc As)
    (hg : g.method = m) (hn : As.length = n) (hsize : g.locals.size = nL) (hstack : g.stack = As.reverse ++ rest) (hW : 2 * g.monitorRoom + (rest.map fun v => v.category).sum ≤ 8) (hdg : decode cc g.pc = .ok (.invokestatic index, 3)) (hf : cells + mc ≤ R.cells ∧ slots + ms ≤ R.slots) :
    vx_Run p l e R s m args below meth c H locs cells slots mc ms g rest (Qc As.toArray) XC free := by
  have hK : vx_Back l R p e below s args y 3 8 (PreOf R mc ms Pc) (PostOf Qc mc ms free) (vx_Post XC mc ms free) := vx_callBack cw.1 hM hp.1
  obtain ⟨⟨-, -, -, -, -, -, hcode, hini, hy, hlen, hl⟩, hstt⟩ := cw
  obtain ⟨hx, hb, hml, ho, -⟩ := S
  intro T hT X
  rcases vx_callS X hx (bytes := bytes) (maxL := maxL) (ret := ret) ho hl hstt hini hcode hy hK hg (hsize.trans hml.symm) (argsL := As) (rest := rest) (fun sig h => hn.trans (hlen sig h)) hstack hW (by rw [hb]; exact hdg)
    (fun vm₁ hW₁ => ⟨hf.1, hf.2, hp.2 (T.setVm vm₁) hT hW₁⟩) with ⟨v, vm₁, ⟨U', l2, c2, s2⟩, hW₁, X', ⟨g', mk, t, L, e1, e2, hq, h1, hL, h2, h3⟩, st⟩ | ⟨q, vm₁, ⟨U', l2, c2, s2⟩, hW₁, X', ⟨g', mk, t, L, E, ce, e1, e2, hq, hce, hcv, hcl, h1, hL, h2, h3⟩, st⟩
  · dsimp only [Pt.U, Pt.locs, Pt.cells, Pt.slots] at X' e1 e2 h1 h2 h3 st
    subst h1; subst h2; subst h3
    exact Or.inl ⟨v, (T.setVm vm₁).calling g' mk As.toArray, t, U', L, hT, X', hL, e1, e2, hq, st⟩
  · dsimp only [Pt.U, Pt.locs, Pt.cells, Pt.slots] at X' e1 e2 h1 h2 h3 st hcl
    subst h1; subst h2; subst h3
    exact Or.inr ⟨q, (T.setVm vm₁).calling g' mk As.toArray, t, U', L, E, ce, hT, X', hL, e1, e2, hq, hce, hcv, vx_cls hW₁ hcl, st⟩
end Runs
section Rows
variable {p : Program} {l : Launch} {e : Env} {R : Room} {s : State} {m : MethodId} {args : Array Value} {below : List Frame} {meth : Method} {c : Code} {H : Heap} {locs : List Loc} {cells slots : Nat} {Q : State → Prop}
variable {mc ms : Nat} {free : Addr → Prop} {A0 A1 : Nat → Prop} {H0 : Heap} {a : Array Value} {pc : Nat} {ls : Array Slot} {st0 rest : List Value}
theorem vx_keep {st₀ t T' : State} {L : List Loc} (h0 : st₀.heap = H) (e1 : T'.heap = t.heap) (hS : va_S A0 H0 H locs) (hA : ∀ q, q < H.size → A1 q → A0 q) (hf : ∀ q, free q → A0 q) (hL : ∀ q ∈ L, free q.base) (hF : va_F A1 st₀ t) :
    H.size ≤ T'.heap.size ∧ (∀ q : Nat, q < H.size → ¬ A1 q → T'.heap[q]? = H[q]?) ∧ va_S A0 H0 T'.heap (locs ++ L) := by
  obtain ⟨hz, hk⟩ := hF
  rw [h0] at hz hk
  exact ⟨by rw [e1]; exact hz, fun q h1 h2 => by rw [e1]; exact hk q h1 h2,
    ⟨Nat.le_trans hS.1 (by rw [e1]; exact hz), fun q h1 h2 => by rw [e1, hk q (Nat.lt_of_lt_of_le h1 hS.1) (fun z => h2 (hA q (Nat.lt_of_lt_of_le h1 hS.1) z))]; exact hS.2.1 q h1 h2, fun q hq => by
      rcases List.mem_append.mp hq with h | h
      · exact hS.2.2 q h
      · exact hf _ (hL q h)⟩⟩
theorem vx_calli {S SX : Type} {post : Int32 → S → Prop} {px : SX → Prop} {B : S → State → Prop} {BX : String → SX → State → Prop} {AX : Nat → Prop} (hr : vx_Run p l e R s m args below meth c H locs cells slots mc ms (F0 m pc ls st0) rest (va_Qi post B A1 a) (vx_X px BX AX) free) (hS : va_S A0 H0 H locs) (hA : ∀ q, q < H.size → A1 q → A0 q) (hf : ∀ q, free q → A0 q) (hAX : ∀ q, q < H.size → AX q → A0 q)
    (kx : ∀ (E : String) (ce : Cell) (q9 : Addr) (u : SX) (t : State) (H1 : Heap) (locs1 : List Loc), t.heap = H1 → s.vm.Alike t.vm → px u → BX E u t → H.size ≤ H1.size → (∀ q : Nat, q < H.size → ¬ AX q → H1[q]? = H[q]?) → va_S A0 H0 H1 locs1 → H1[q9]? = some ce → ce.vm = .none → s.vm.findClass E = some ce.cls → vx_W p l e R s m args below meth c H1 locs1 (cells + mc) (slots + ms) Q (F0 m pc ls rest) q9)
    (kk : ∀ (r : Int32) (u : S) (t : State) (H1 : Heap) (locs1 : List Loc), t.heap = H1 → s.vm.Alike t.vm → post r u → B u t → H.size ≤ H1.size → (∀ q : Nat, q < H.size → ¬ A1 q → H1[q]? = H[q]?) → va_S A0 H0 H1 locs1 → W p l e R s m args below meth c H1 locs1 (cells + mc) (slots + ms) Q (F0 m (pc + 3) ls (.int r :: rest))) : W p l e R s m args below meth c H locs cells slots Q (F0 m pc ls st0) := by
  intro T hT X
  rcases hr T hT X with ⟨v, st₀, t, T', L, h0, X', hL, e1, e2, ⟨⟨r, u, hv, hp, hb⟩, hF⟩, st⟩ | ⟨q, st₀, t, T', L, E, ce, h0, X', hL, e1, e2, ⟨u, hp, hb, hF⟩, hce, hcv, hcl, st⟩
  · cases hv
    obtain ⟨k1, k2, k3⟩ := vx_keep h0 e1 hS hA hf hL hF
    obtain ⟨t2, a1, b1⟩ := kk r u t T'.heap (locs ++ L) e1.symm (by rw [← e2]; exact X'.warmed.alike) hp hb k1 k2 k3 T' rfl X'
    exact ⟨t2, st t2 a1, b1⟩
  · obtain ⟨k1, k2, k3⟩ := vx_keep h0 e1 hS hAX hf hL hF
    obtain ⟨t2, a1, b1⟩ := kx E ce q u t T'.heap (locs ++ L) e1.symm (by rw [← e2]; exact X'.warmed.alike) hp hb k1 k2 k3 (by rw [e1]; exact hce) hcv hcl T' rfl X'
    exact ⟨t2, st.trans a1, b1⟩
theorem vx_calll {S SX : Type} {post : Int64 → S → Prop} {px : SX → Prop} {B : S → State → Prop} {BX : String → SX → State → Prop} {AX : Nat → Prop} (hr : vx_Run p l e R s m args below meth c H locs cells slots mc ms (F0 m pc ls st0) rest (va_Ql post B A1 a) (vx_X px BX AX) free) (hS : va_S A0 H0 H locs) (hA : ∀ q, q < H.size → A1 q → A0 q) (hf : ∀ q, free q → A0 q) (hAX : ∀ q, q < H.size → AX q → A0 q)
    (kx : ∀ (E : String) (ce : Cell) (q9 : Addr) (u : SX) (t : State) (H1 : Heap) (locs1 : List Loc), t.heap = H1 → s.vm.Alike t.vm → px u → BX E u t → H.size ≤ H1.size → (∀ q : Nat, q < H.size → ¬ AX q → H1[q]? = H[q]?) → va_S A0 H0 H1 locs1 → H1[q9]? = some ce → ce.vm = .none → s.vm.findClass E = some ce.cls → vx_W p l e R s m args below meth c H1 locs1 (cells + mc) (slots + ms) Q (F0 m pc ls rest) q9)
    (kk : ∀ (r : Int64) (u : S) (t : State) (H1 : Heap) (locs1 : List Loc), t.heap = H1 → s.vm.Alike t.vm → post r u → B u t → H.size ≤ H1.size → (∀ q : Nat, q < H.size → ¬ A1 q → H1[q]? = H[q]?) → va_S A0 H0 H1 locs1 → W p l e R s m args below meth c H1 locs1 (cells + mc) (slots + ms) Q (F0 m (pc + 3) ls (.long r :: rest))) : W p l e R s m args below meth c H locs cells slots Q (F0 m pc ls st0) := by
  intro T hT X
  rcases hr T hT X with ⟨v, st₀, t, T', L, h0, X', hL, e1, e2, ⟨⟨r, u, hv, hp, hb⟩, hF⟩, st⟩ | ⟨q, st₀, t, T', L, E, ce, h0, X', hL, e1, e2, ⟨u, hp, hb, hF⟩, hce, hcv, hcl, st⟩
  · cases hv
    obtain ⟨k1, k2, k3⟩ := vx_keep h0 e1 hS hA hf hL hF
    obtain ⟨t2, a1, b1⟩ := kk r u t T'.heap (locs ++ L) e1.symm (by rw [← e2]; exact X'.warmed.alike) hp hb k1 k2 k3 T' rfl X'
    exact ⟨t2, st t2 a1, b1⟩
  · obtain ⟨k1, k2, k3⟩ := vx_keep h0 e1 hS hAX hf hL hF
    obtain ⟨t2, a1, b1⟩ := kx E ce q u t T'.heap (locs ++ L) e1.symm (by rw [← e2]; exact X'.warmed.alike) hp hb k1 k2 k3 (by rw [e1]; exact hce) hcv hcl T' rfl X'
    exact ⟨t2, st.trans a1, b1⟩
theorem vx_callf {S SX : Type} {post : UInt32 → S → Prop} {px : SX → Prop} {B : S → State → Prop} {BX : String → SX → State → Prop} {AX : Nat → Prop} (hr : vx_Run p l e R s m args below meth c H locs cells slots mc ms (F0 m pc ls st0) rest (va_Qf post B A1 a) (vx_X px BX AX) free) (hS : va_S A0 H0 H locs) (hA : ∀ q, q < H.size → A1 q → A0 q) (hf : ∀ q, free q → A0 q) (hAX : ∀ q, q < H.size → AX q → A0 q)
    (kx : ∀ (E : String) (ce : Cell) (q9 : Addr) (u : SX) (t : State) (H1 : Heap) (locs1 : List Loc), t.heap = H1 → s.vm.Alike t.vm → px u → BX E u t → H.size ≤ H1.size → (∀ q : Nat, q < H.size → ¬ AX q → H1[q]? = H[q]?) → va_S A0 H0 H1 locs1 → H1[q9]? = some ce → ce.vm = .none → s.vm.findClass E = some ce.cls → vx_W p l e R s m args below meth c H1 locs1 (cells + mc) (slots + ms) Q (F0 m pc ls rest) q9)
    (kk : ∀ (r : UInt32) (u : S) (t : State) (H1 : Heap) (locs1 : List Loc), t.heap = H1 → s.vm.Alike t.vm → post r u → B u t → H.size ≤ H1.size → (∀ q : Nat, q < H.size → ¬ A1 q → H1[q]? = H[q]?) → va_S A0 H0 H1 locs1 → W p l e R s m args below meth c H1 locs1 (cells + mc) (slots + ms) Q (F0 m (pc + 3) ls (.float r :: rest))) : W p l e R s m args below meth c H locs cells slots Q (F0 m pc ls st0) := by
  intro T hT X
  rcases hr T hT X with ⟨v, st₀, t, T', L, h0, X', hL, e1, e2, ⟨⟨r, u, hv, hp, hb⟩, hF⟩, st⟩ | ⟨q, st₀, t, T', L, E, ce, h0, X', hL, e1, e2, ⟨u, hp, hb, hF⟩, hce, hcv, hcl, st⟩
  · cases hv
    obtain ⟨k1, k2, k3⟩ := vx_keep h0 e1 hS hA hf hL hF
    obtain ⟨t2, a1, b1⟩ := kk r u t T'.heap (locs ++ L) e1.symm (by rw [← e2]; exact X'.warmed.alike) hp hb k1 k2 k3 T' rfl X'
    exact ⟨t2, st t2 a1, b1⟩
  · obtain ⟨k1, k2, k3⟩ := vx_keep h0 e1 hS hAX hf hL hF
    obtain ⟨t2, a1, b1⟩ := kx E ce q u t T'.heap (locs ++ L) e1.symm (by rw [← e2]; exact X'.warmed.alike) hp hb k1 k2 k3 (by rw [e1]; exact hce) hcv hcl T' rfl X'
    exact ⟨t2, st.trans a1, b1⟩
theorem vx_calld {S SX : Type} {post : UInt64 → S → Prop} {px : SX → Prop} {B : S → State → Prop} {BX : String → SX → State → Prop} {AX : Nat → Prop} (hr : vx_Run p l e R s m args below meth c H locs cells slots mc ms (F0 m pc ls st0) rest (va_Qd post B A1 a) (vx_X px BX AX) free) (hS : va_S A0 H0 H locs) (hA : ∀ q, q < H.size → A1 q → A0 q) (hf : ∀ q, free q → A0 q) (hAX : ∀ q, q < H.size → AX q → A0 q)
    (kx : ∀ (E : String) (ce : Cell) (q9 : Addr) (u : SX) (t : State) (H1 : Heap) (locs1 : List Loc), t.heap = H1 → s.vm.Alike t.vm → px u → BX E u t → H.size ≤ H1.size → (∀ q : Nat, q < H.size → ¬ AX q → H1[q]? = H[q]?) → va_S A0 H0 H1 locs1 → H1[q9]? = some ce → ce.vm = .none → s.vm.findClass E = some ce.cls → vx_W p l e R s m args below meth c H1 locs1 (cells + mc) (slots + ms) Q (F0 m pc ls rest) q9)
    (kk : ∀ (r : UInt64) (u : S) (t : State) (H1 : Heap) (locs1 : List Loc), t.heap = H1 → s.vm.Alike t.vm → post r u → B u t → H.size ≤ H1.size → (∀ q : Nat, q < H.size → ¬ A1 q → H1[q]? = H[q]?) → va_S A0 H0 H1 locs1 → W p l e R s m args below meth c H1 locs1 (cells + mc) (slots + ms) Q (F0 m (pc + 3) ls (.double r :: rest))) : W p l e R s m args below meth c H locs cells slots Q (F0 m pc ls st0) := by
  intro T hT X
  rcases hr T hT X with ⟨v, st₀, t, T', L, h0, X', hL, e1, e2, ⟨⟨r, u, hv, hp, hb⟩, hF⟩, st⟩ | ⟨q, st₀, t, T', L, E, ce, h0, X', hL, e1, e2, ⟨u, hp, hb, hF⟩, hce, hcv, hcl, st⟩
  · cases hv
    obtain ⟨k1, k2, k3⟩ := vx_keep h0 e1 hS hA hf hL hF
    obtain ⟨t2, a1, b1⟩ := kk r u t T'.heap (locs ++ L) e1.symm (by rw [← e2]; exact X'.warmed.alike) hp hb k1 k2 k3 T' rfl X'
    exact ⟨t2, st t2 a1, b1⟩
  · obtain ⟨k1, k2, k3⟩ := vx_keep h0 e1 hS hAX hf hL hF
    obtain ⟨t2, a1, b1⟩ := kx E ce q u t T'.heap (locs ++ L) e1.symm (by rw [← e2]; exact X'.warmed.alike) hp hb k1 k2 k3 (by rw [e1]; exact hce) hcv hcl T' rfl X'
    exact ⟨t2, st.trans a1, b1⟩
theorem vx_callv {S SX : Type} {post : S → Prop} {px : SX → Prop} {B : S → State → Prop} {BX : String → SX → State → Prop} {AX : Nat → Prop} (hr : vx_Run p l e R s m args below meth c H locs cells slots mc ms (F0 m pc ls st0) rest (va_Qv post B A1 a) (vx_X px BX AX) free) (hS : va_S A0 H0 H locs) (hA : ∀ q, q < H.size → A1 q → A0 q) (hf : ∀ q, free q → A0 q) (hAX : ∀ q, q < H.size → AX q → A0 q)
    (kx : ∀ (E : String) (ce : Cell) (q9 : Addr) (u : SX) (t : State) (H1 : Heap) (locs1 : List Loc), t.heap = H1 → s.vm.Alike t.vm → px u → BX E u t → H.size ≤ H1.size → (∀ q : Nat, q < H.size → ¬ AX q → H1[q]? = H[q]?) → va_S A0 H0 H1 locs1 → H1[q9]? = some ce → ce.vm = .none → s.vm.findClass E = some ce.cls → vx_W p l e R s m args below meth c H1 locs1 (cells + mc) (slots + ms) Q (F0 m pc ls rest) q9)
    (kk : ∀ (u : S) (t : State) (H1 : Heap) (locs1 : List Loc), t.heap = H1 → s.vm.Alike t.vm → post u → B u t → H.size ≤ H1.size → (∀ q : Nat, q < H.size → ¬ A1 q → H1[q]? = H[q]?) → va_S A0 H0 H1 locs1 → W p l e R s m args below meth c H1 locs1 (cells + mc) (slots + ms) Q (F0 m (pc + 3) ls (rest))) : W p l e R s m args below meth c H locs cells slots Q (F0 m pc ls st0) := by
  intro T hT X
  rcases hr T hT X with ⟨v, st₀, t, T', L, h0, X', hL, e1, e2, ⟨⟨u, hv, hp, hb⟩, hF⟩, st⟩ | ⟨q, st₀, t, T', L, E, ce, h0, X', hL, e1, e2, ⟨u, hp, hb, hF⟩, hce, hcv, hcl, st⟩
  · cases hv
    obtain ⟨k1, k2, k3⟩ := vx_keep h0 e1 hS hA hf hL hF
    obtain ⟨t2, a1, b1⟩ := kk u t T'.heap (locs ++ L) e1.symm (by rw [← e2]; exact X'.warmed.alike) hp hb k1 k2 k3 T' rfl X'
    exact ⟨t2, st t2 a1, b1⟩
  · obtain ⟨k1, k2, k3⟩ := vx_keep h0 e1 hS hAX hf hL hF
    obtain ⟨t2, a1, b1⟩ := kx E ce q u t T'.heap (locs ++ L) e1.symm (by rw [← e2]; exact X'.warmed.alike) hp hb k1 k2 k3 (by rw [e1]; exact hce) hcv hcl T' rfl X'
    exact ⟨t2, st.trans a1, b1⟩
/-- caught by the row x of this method's table; the rows ahead don't take it -/
theorem vx_catch {own name : String} {E : String} {ce : Cell} {q : Addr} (hown : s.vm.findClass own = some m.cls) (pre : List ExceptionTableEntry) (x : ExceptionTableEntry) (suf : List ExceptionTableEntry) (hsplit : c.exceptionTable.toList = pre ++ x :: suf)
    (hpass : ∀ z ∈ pre, covers z pc = false ∨ (z.catchType ≠ 0 ∧ ∃ nm : String, (Cond.classLink own z.catchType nm).before args s = true ∧ va_Nc E nm s)) (hx : covers x pc = true) (h0 : x.catchType ≠ 0)
    (hlink : (Cond.classLink own x.catchType name).before args s = true) (hcast : (Cond.castable E name).before args s = true) (hcell : H[q]? = some ce) (hv : ce.vm = .none) (hcl : s.vm.findClass E = some ce.cls)
    (kk : W p l e R s m args below meth c H locs cells slots Q (F0 m x.handlerPc ls [.ref q])) : vx_W p l e R s m args below meth c H locs cells slots Q (F0 m pc ls rest) q := by
  intro T hT X
  have hpl : e.platform.magicAccessors = ({} : Platform).magicAccessors := by rw [X.admits.platform]
  obtain ⟨c3, c4, hc3, hc4, hasg⟩ := Cond.castable_spec hcast
  cases Option.some.inj (hc3.symm.trans hcl)
  obtain ⟨c5, hc5, hcl5⟩ := Cond.classLink_spec hown hlink e.platform hpl
  cases Option.some.inj (hc4.symm.trans hc5)
  obtain ⟨vm', X', st⟩ := X.thenCaughtThrough q (g := F0 m pc ls rest) rfl (Steps.refl _) (by rw [hT]; exact hcell) (by rw [hv]; rfl) (by obtain ⟨k9, h9, -⟩ := Vm.findClass_spec hcl; exact ⟨k9, h9⟩) pre x suf hsplit
    (fun z hz => by
      rcases hpass z hz with h | ⟨hz0, nm, hl1, hn1⟩
      · exact Or.inl h
      · obtain ⟨c6, hc6, hcl6⟩ := Cond.classLink_spec hown hl1 e.platform hpl
        obtain ⟨a8, b8, h1, h2, h3⟩ := hn1
        cases Option.some.inj (h1.symm.trans hcl)
        cases Option.some.inj (h2.symm.trans hc6)
        exact Or.inr ⟨hz0, _, hcl6, h3⟩) hx (Or.inr ⟨h0, c4, hcl5, hasg⟩)
  obtain ⟨t, a1, b1⟩ := kk (T.setVm vm') hT X'
  exact ⟨t, st.trans a1, b1⟩
end Rows
section Ends
variable {p : Program} {l : Launch} {e : Env} {R : Room} {s : State} {m : MethodId} {args : Array Value} {below : List Frame} {meth : Method} {c : Code} {H : Heap} {locs : List Loc} {cells slots : Nat} {Q : State → Prop}
variable {mc ms : Nat} {free : Addr → Prop} {A0 A1 : Nat → Prop} {H0 : Heap} {a : Array Value} {ls : Array Slot} {st0 rest : List Value}
variable {Qc : Array Value → State → Outcome → State → Prop} {XC : String → State → State → Prop}
/-- what a body that may throw owes at its end -/
def vx_MQ (below : List Frame) (Qc : Array Value → State → Outcome → State → Prop) (XC : String → State → State → Prop) (a : Array Value) (s : State) (mc ms : Nat) (free : Addr → Prop) : State → Prop := fun t =>
  ∃ o, t.status = .running ∧ Ended t below o ∧ vx_Q Qc XC mc ms free a s o t
theorem vx_ret {g : JFrame} {mc ms : Nat} (k : W p l e R s m args below meth c H locs cells slots (MQ below Qc args s mc ms free) g) : W p l e R s m args below meth c H locs cells slots (vx_MQ below Qc XC args s mc ms free) g := by
  intro T hT X
  obtain ⟨t, a1, o, b1, b2, b3, b4⟩ := k T hT X
  exact ⟨t, a1, o, b1, b2, Or.inl ⟨b3, b4⟩⟩
/-- not caught here: it goes on to the caller -/
theorem vx_widen {g : JFrame} {q : Addr} {k n : Nat} (h1 : cells ≤ k) (h2 : slots ≤ n) (kk : vx_W p l e R s m args below meth c H locs k n Q g q) : vx_W p l e R s m args below meth c H locs cells slots Q g q := fun T hT X => kk T hT (stand_widen X h1 h2)
theorem vx_out {pc : Nat} {E : String} {ce : Cell} {q : Addr} {mc ms : Nat} (hout : ∀ x ∈ c.exceptionTable.toList, covers x pc = false) (hlocks : meth.locks = false) (hcell : H[q]? = some ce) (hv : ce.vm = .none) (hcl : s.vm.findClass E = some ce.cls)
    (hx : ∀ t : State, t.heap = H → s.vm.Alike t.vm → XC E s t) (hf : ∀ z ∈ locs, free z.base) (hc : cells ≤ mc) (hs : slots ≤ ms) :
    vx_W p l e R s m args below meth c H locs cells slots (vx_MQ below Qc XC args s mc ms free) (F0 m pc ls rest) q := by
  intro T hT X
  obtain ⟨st1, hrun, hend, hW, hsm⟩ := X.leaveThrown q (g := F0 m pc ls rest) rfl rfl rfl hout hlocks
  have hcell9 : (T.setFrames (.throwing q :: below)).heap[q]? = some ce := by
    show T.heap[q]? = some ce
    rw [hT]; exact hcell
  exact ⟨_, st1, .threw q, hrun, hend, Or.inr ⟨q, rfl, E, ce, locs, hx _ hT hW.alike, hcell9, hv, hcl, hW, hsm.mono hc hs, hf⟩⟩
theorem vx_frame {U : State} {k n : Nat} (h : s.sameButNew ({ U with vm := s.vm } : State) locs k n) : s.heap.size ≤ U.heap.size ∧ ∀ q : Nat, q < s.heap.size → (∀ z ∈ locs, z.base ≠ q) → U.heap[q]? = s.heap[q]? := by
  obtain ⟨-, h2, -, -, -, h6⟩ := h
  refine ⟨h2, fun q hq hz => ?_⟩
  obtain ⟨c9, e1, e2, e3, e4⟩ := h6 q _ (Array.getElem?_eq_getElem hq)
  have hs : c9.slots = (s.heap[q]).slots := Array.ext_getElem? fun i => e4 i fun hm => hz _ hm rfl
  have h9 : c9 = s.heap[q] := by
    rw [hs] at e2
    exact e2
  have e5 : U.heap[q]? = some c9 := e1
  rw [e5, h9, Array.getElem?_eq_getElem hq]
/-- the words of a throw but the four that speak of the heap -/
def vx_no (w : Cond) : Bool := decide (w ≠ .isRef (.static Bundle.tN "UNASSIGNED_STACK" Bundle.steD)) && decide (w ≠ .isRef (.static Bundle.tN "SUPPRESSED_SENTINEL" Bundle.listD)) && decide (w ≠ .laysStatic Bundle.tN "UNASSIGNED_STACK" Bundle.steD) && decide (w ≠ .laysStatic Bundle.tN "SUPPRESSED_SENTINEL" Bundle.listD)
def vx_at0 (own : String) (ic : Nat) (X : String) (names : List String) : List Cond := (Bundle.ownAtoms0 own ic X names).filter vx_no
def vx_atS (own : String) (ic : Nat) (X : String) (names : List String) : List Cond := (Bundle.ownAtoms own ic X names).filter vx_no
/-- a word that the tables alone decide, or a good one -/
def vx_ot (w : Cond) : Bool := w.onTables || goodWord w
theorem vx_ot_at {args a' : Array Value} {s U : State} {w : Cond} (hW : s.WarmedH U.vm) (hvm : s.vm = U.vm) (hg : vx_ot w = true) (h : w.before args s = true) : w.before a' U = true := by
  simp only [vx_ot, Bool.or_eq_true] at hg
  rcases hg with hg | hg
  · exact va_tabs hg hvm h
  · exact word_at hW (good_of_word hg) h
/-- a list's words: the good ones out of the method's own list, the others by premises of their own -/
theorem vx_hat {args : Array Value} {s : State} {L B : List Cond} (h1 : ∀ w ∈ L.filter goodWord, w.before args s = true) (h2 : ∀ w ∈ L.filter (fun w => !goodWord w), w ∈ B) (h3 : ∀ w ∈ B, w.before args s = true) : ∀ w ∈ L, w.before args s = true := by
  intro w hw
  by_cases g : goodWord w = true
  · exact h1 w (List.mem_filter.mpr ⟨hw, g⟩)
  · refine h3 w (h2 w (List.mem_filter.mpr ⟨hw, ?_⟩))
    show (!goodWord w) = true
    cases hgw : goodWord w
    · rfl
    · exact absurd hgw g
theorem vx_c {args : Array Value} {s : State} {w : Cond} {B : List Cond} (h : w.before args s = true) (t : ∀ w ∈ B, w.before args s = true) : ∀ w' ∈ w :: B, w'.before args s = true := fun w' h' => (List.mem_cons.mp h').elim (fun e => by rw [e]; exact h) (t w')
theorem vx_n {args : Array Value} {s : State} : ∀ w ∈ ([] : List Cond), w.before args s = true := fun _ h => nomatch h
theorem vx_own {args : Array Value} {s : State} {L : List Cond} (h1 : ∀ w ∈ L.filter vx_no, w.before args s = true)
    (hU : (Cond.isRef (.static Bundle.tN "UNASSIGNED_STACK" Bundle.steD)).before args s = true) (hN : (Cond.isRef (.static Bundle.tN "SUPPRESSED_SENTINEL" Bundle.listD)).before args s = true)
    (lU : (Cond.laysStatic Bundle.tN "UNASSIGNED_STACK" Bundle.steD).before args s = true) (lN : (Cond.laysStatic Bundle.tN "SUPPRESSED_SENTINEL" Bundle.listD).before args s = true) : ∀ w ∈ L, w.before args s = true := by
  intro w hw
  by_cases e1 : w = .isRef (.static Bundle.tN "UNASSIGNED_STACK" Bundle.steD)
  · rw [e1]; exact hU
  · by_cases e2 : w = .isRef (.static Bundle.tN "SUPPRESSED_SENTINEL" Bundle.listD)
    · rw [e2]; exact hN
    · by_cases e3 : w = .laysStatic Bundle.tN "UNASSIGNED_STACK" Bundle.steD
      · rw [e3]; exact lU
      · by_cases e4 : w = .laysStatic Bundle.tN "SUPPRESSED_SENTINEL" Bundle.listD
        · rw [e4]; exact lN
        · exact h1 w (List.mem_filter.mpr ⟨hw, by unfold vx_no; rw [decide_eq_true e1, decide_eq_true e2, decide_eq_true e3, decide_eq_true e4]; rfl⟩)
/-- where a static field lies, its class's statics cell in H -/
def vx_L (C n d : String) (A : Nat → Prop) (U : State) (H : Heap) : Prop := ∃ (c : ClassId) (k : Class) (i : Nat) (f : Field) (a : Nat) (cell : Cell), U.vm.findClass C = some c ∧ U.fieldFound? C n d = some (c, k, i, f) ∧ f.isStatic = true ∧ k.statics = some a ∧ H[a]? = some cell ∧ cell.vm.isStatics = true ∧ cell.cls = c ∧ f.slot < cell.slots.size ∧ k.staticTypes[f.slot]? = some f.type ∧ ¬ A a
theorem vx_L.moved {C n d : String} {A : Nat → Prop} {u U : State} {H : Heap} (hvm : u.vm.Alike U.vm) (h : vx_L C n d A u H) : vx_L C n d A U H := by
  obtain ⟨c, k, i, f, a, cell, h1, h2, h3, h4, h5, h6, h7, h8, h9, h10⟩ := h
  obtain ⟨k', hi', he⟩ := State.fieldFound?_setVm hvm h2
  exact ⟨c, k', i, f, a, cell, by rw [hvm.findClass]; exact h1, hi', h3, by rw [he]; exact h4, h5, h6, h7, h8, by rw [he]; exact h9, h10⟩
theorem vx_L.kept {C n d : String} {A : Nat → Prop} {U : State} {H H1 : Heap} (h : vx_L C n d A U H) (hq : ∀ a : Nat, a < H.size → ¬ A a → H1[a]? = H[a]?) : vx_L C n d A U H1 := by
  obtain ⟨c, k, i, f, a, cell, h1, h2, h3, h4, h5, h6, h7, h8, h9, h10⟩ := h
  exact ⟨c, k, i, f, a, cell, h1, h2, h3, h4, by rw [hq a (Array.getElem?_eq_some_iff.mp h5).1 h10]; exact h5, h6, h7, h8, h9, h10⟩
theorem vx_L.narrow {C n d : String} {A B : Nat → Prop} {U : State} {H : Heap} (h : vx_L C n d A U H) (hAB : ∀ q, B q → A q) : vx_L C n d B U H := by
  obtain ⟨c, k, i, f, a, cell, h1, h2, h3, h4, h5, h6, h7, h8, h9, h10⟩ := h
  exact ⟨c, k, i, f, a, cell, h1, h2, h3, h4, h5, h6, h7, h8, h9, fun z => h10 (hAB _ z)⟩
theorem vx_L.word {C n d : String} {A : Nat → Prop} {s : State} {args : Array Value} (h : vx_L C n d A s s.heap) : (Cond.laysStatic C n d).before args s = true := by
  obtain ⟨c, k, i, f, a, cell, h1, h2, h3, h4, h5, h6, h7, h8, h9, -⟩ := h
  show (Cond.laysStatic C n d).holds args s none s [] = true
  exact Cond.laysStatic_of h1 h2 h3 h4 h5 h6 h7 h8 h9
/-- .. and what it holds: null or some reference -/
def vx_Zq (C n d : String) (A : Nat → Prop) (U : State) (H : Heap) : Prop := va_Zq C n d A U H ∧ vx_L C n d A U H
theorem vx_Zq.moved {C n d : String} {A : Nat → Prop} {u U : State} {H : Heap} (hvm : u.vm.Alike U.vm) (h : vx_Zq C n d A u H) : vx_Zq C n d A U H := ⟨va_Zq.moved hvm h.1, vx_L.moved hvm h.2⟩
theorem vx_Zq.kept {C n d : String} {A : Nat → Prop} {U : State} {H H1 : Heap} (h : vx_Zq C n d A U H) (hq : ∀ a : Nat, a < H.size → ¬ A a → H1[a]? = H[a]?) : vx_Zq C n d A U H1 := ⟨va_Zq.kept h.1 hq, vx_L.kept h.2 hq⟩
theorem vx_Zq.narrow {C n d : String} {A B : Nat → Prop} {U : State} {H : Heap} (h : vx_Zq C n d A U H) (hAB : ∀ q, B q → A q) : vx_Zq C n d B U H := ⟨va_Zq.narrow h.1 hAB, vx_L.narrow h.2 hAB⟩
theorem vx_Zqof {args : Array Value} {s : State} {C n d : String} {A : Nat → Prop} (hl : (Cond.laysStatic C n d).before args s = true) (hini : (Cond.initialized C).before args s = true) (h : (Cond.isRef (.static C n d)).before args s = true) (hA : ∀ a : Nat, a < s.heap.size → ¬ A a) : vx_Zq C n d A s s.heap := by
  refine ⟨va_Zqof hl hini h hA, ?_⟩
  obtain ⟨c, k, i, f, a, cell, h1, h2, h3, h4, h5, h6, h7, h8, h9⟩ := Cond.laysStatic_spec hl
  exact ⟨c, k, i, f, a, cell, h1, h2, h3, h4, h5, h6, h7, h8, h9, hA a (Array.getElem?_eq_some_iff.mp h5).1⟩
theorem vx_isRef {C n d : String} {v : Value} {A : Nat → Prop} {s : State} {args : Array Value} (h : va_Z C n d v A s s.heap) (hv : v.isRef = true) : (Cond.isRef (.static C n d)).before args s = true := by
  obtain ⟨cf, kf, fi, f, a, cell, h1, h2, h3, h4, h5, h6, h7, -⟩ := h
  have he : (Term.static C n d).eval args s none [] s = some v := by
    simp [Term.eval, State.fieldNamed?, h1, h2, h4, h5, h6, h7]
  simp only [Cond.before, Cond.holds, Cond.value, he]
  cases v <;> simp_all [Value.isRef]
theorem vx_isRefq {C n d : String} {A : Nat → Prop} {s : State} {args : Array Value} (h : va_Zq C n d A s s.heap) : (Cond.isRef (.static C n d)).before args s = true := by
  rcases h with h | ⟨t, h⟩
  · exact vx_isRef h rfl
  · exact vx_isRef h rfl
/-- the same frame, seen from here: as if the method were called anew in this heap -/
theorem vx_rebase {T : State} (X : Stand p l e R s m args below meth c T locs cells slots) {R' : Room} (hf : R'.frames ≤ R.frames) (hl : R'.locals ≤ R.locals) (hc : cells + R'.cells ≤ R.cells) (hs : slots + R'.slots ≤ R.slots) :
    Stand p l e R' ((T.setVm s.vm).setFrames (.invoking m args :: below)) m args below meth c T [] 0 0 := by
  have htop : (T.setVm s.vm).topJava?.isSome := X.here.top
  have hF : ((T.setVm s.vm).setFrames (.invoking m args :: below)).frames = .invoking m args :: below := State.frames_setFrames _ (State.cur_lt_of_top htop)
  obtain ⟨g₀, hg0⟩ := Option.isSome_iff_exists.mp htop
  obtain ⟨r, hr⟩ := State.topJava?_eq_some.mp hg0
  have hl9 : e.platform.stackLimits (T.setVm s.vm).me = e.platform.stackLimits s.me := X.limits
  have hb9 : (T.setVm s.vm).me.stackBytes = s.me.stackBytes := X.bytes
  refine ⟨X.admits, X.cas, X.clock, hF, ?_, X.hears, X.method, X.code, X.here, X.tail, X.warmed, ?_, ?_, ?_⟩
  · have h := X.room
    have hU : ((T.setVm s.vm).setFrames (.invoking m args :: below)).localsInUse = s.localsInUse := by
      rw [State.localsInUse_invoking hF (meth := meth) (c := c) X.method X.code, State.localsInUse_invoking X.frames X.method X.code]
    simp only [State.hasRoom, Bool.and_eq_true, decide_eq_true_eq] at h ⊢
    obtain ⟨⟨⟨⟨h1, h2, h3, h4, h5, h6⟩, h7⟩, h8⟩, h9⟩ := h
    rw [X.frames, List.length_cons] at h2 h3
    have q1 := X.heapSize
    have q2 := X.used
    simp only [hF, hU, List.length_cons, State.stackLimits_setFrames, State.stackBytes_setFrames, hl9, hb9]
    refine ⟨⟨⟨⟨by omega, by omega, by omega, by omega, by omega, h6⟩, ?_⟩, ?_⟩, X.book⟩
    · show T.heap.size + R'.cells ≤ e.platform.maxCells
      omega
    · show T.slotsUsed + R'.slots ≤ e.platform.maxSlots
      omega
  · rw [State.stackLimits_setFrames]; rfl
  · rw [State.stackBytes_setFrames]; rfl
  · refine ⟨?_, Nat.le_refl _, Nat.le_refl _, ?_, ?_, fun a c9 h9 => ⟨c9, h9, rfl, rfl, fun _ _ => rfl⟩⟩
    · obtain ⟨t, ht, -⟩ := State.frames_cons hr
      show T.setVm s.vm = { ((T.setVm s.vm).setFrames (.invoking m args :: below)).setFrames (T.setVm s.vm).frames with heap := T.heap, slotsUsed := T.slotsUsed }
      rw [State.setFrames_setFrames, State.setFrames_self ht]
      rfl
    · show T.slotsUsed = T.slotsUsed + ((T.heap.toList.drop T.heap.size).map (·.slots.size)).sum
      rw [List.drop_eq_nil_of_le (Nat.le_of_eq Array.length_toList)]
      rfl
    · show ((T.heap.toList.drop T.heap.size).map (·.slots.size)).sum ≤ 0
      rw [List.drop_eq_nil_of_le (Nat.le_of_eq Array.length_toList)]
      exact Nat.le_refl _
/-- 'throw new E()': new; dup; invokespecial; athrow -/
theorem vx_throw0 {cc : ByteArray} {pc : Nat} (hexec : p.tables.exec = Jvm.exec) (hb : c.code = cc) (hl : l.stackTraces = false) {own cls : String} {names : List String} {ik ic mc ms : Nat} {A : Nat → Prop}
    (hown : s.vm.findClass own = some m.cls) (hcls : Bundle.fit cls = true) (hnames : ∀ n ∈ names, Bundle.fit n = true)
    (hk : (Cond.classLink own ik cls).before args s = true) (hini : (Cond.initialized cls).before args s = true) (hat : ∀ w ∈ vx_at0 own ic cls names, w.before args s = true)
    (hgood : ∀ w ∈ Cond.classLink own ik cls :: Cond.initialized cls :: vx_at0 own ic cls names, vx_ot w = true)
    (hU : vx_Zq Bundle.tN "UNASSIGNED_STACK" Bundle.steD A s s.heap) (hN : vx_Zq Bundle.tN "SUPPRESSED_SENTINEL" Bundle.listD A s s.heap) (hS : va_S A s.heap H locs) (hsize : ls.size = c.maxLocals)
    (d0 : decode cc pc = .ok (.new ik, 3)) (d3 : decode cc (pc + 3) = .ok (.dup, 1)) (d4 : decode cc (pc + 4) = .ok (.invokespecial ic, 3)) (d7 : decode cc (pc + 7) = .ok (.athrow, 1))
    (hout : ∀ x ∈ c.exceptionTable.toList, covers x (pc + 7) = false)
    (hRframes : names.length + 3 < R.frames) (hRlocals : (rest.map fun v => v.category).sum + (13 * (names.length + 1) + 42) ≤ R.locals) (hRcells : cells + 1 ≤ R.cells) (hRslots : slots + 6 ≤ R.slots) (hlocks : meth.locks = false)
    (hx : ∀ t : State, s.vm.Alike t.vm → H.size ≤ t.heap.size → (∀ q : Nat, q < H.size → t.heap[q]? = H[q]?) → XC cls s t)
    (hf : ∀ z ∈ locs, free z.base) (hc : cells + 1 ≤ mc) (hs : slots + 6 ≤ ms) :
    W p l e R s m args below meth c H locs cells slots (vx_MQ below Qc XC args s mc ms free) (F0 m pc ls rest) := by
  intro T hT X
  have htr : e.platform.stackTraces = false := (show e.platform.stackTraces = l.stackTraces by rw [X.admits.platform]).trans hl
  have Y := vx_rebase X (R' := { frames := R.frames, locals := R.locals, cells := 1, slots := 6 }) (Nat.le_refl _) (Nat.le_refl _) hRcells hRslots
  obtain ⟨s', hA⟩ : ∃ z, z = (T.setVm s.vm).setFrames (.invoking m args :: below) := ⟨_, rfl⟩
  rw [← hA] at Y
  have hvm : s'.vm = s.vm := by rw [hA]; rfl
  have hhp : s'.heap = H := by rw [hA]; exact hT
  have hW0 : s.WarmedH s'.vm := by rw [hvm]; exact State.WarmedH.refl s
  have hat' : ∀ w ∈ vx_at0 own ic cls names, w.before args s' = true := fun w hw => vx_ot_at hW0 hvm.symm (hgood w (List.mem_cons_of_mem _ (List.mem_cons_of_mem _ hw))) (hat w hw)
  have hk' : (Cond.classLink own ik cls).before args s' = true := vx_ot_at hW0 hvm.symm (hgood _ List.mem_cons_self) hk
  have hini' : (Cond.initialized cls).before args s' = true := vx_ot_at hW0 hvm.symm (hgood _ (List.mem_cons_of_mem _ List.mem_cons_self)) hini
  have hU' : vx_Zq Bundle.tN "UNASSIGNED_STACK" Bundle.steD A s' s'.heap := by rw [hhp]; exact vx_Zq.moved hW0.alike (hU.kept hS.2.1)
  have hN' : vx_Zq Bundle.tN "SUPPRESSED_SENTINEL" Bundle.listD A s' s'.heap := by rw [hhp]; exact vx_Zq.moved hW0.alike (hN.kept hS.2.1)
  have h : ∀ w ∈ Bundle.ownAtoms0 own ic cls names, w.before args s' = true := vx_own hat' (vx_isRefq hU'.1) (vx_isRefq hN'.1) hU'.2.word hN'.2.word
  have hown' : s'.vm.findClass own = some m.cls := by rw [hvm]; exact hown
  have hins : (Cond.instantiable cls 6).before args s' = true := h _ (by simp [Bundle.ownAtoms0])
  obtain ⟨vm₁, cX, kX, hfX, hkX, -, -, X₁, st1⟩ := Y.newCold hexec (own := own) (C := cls) (index := ik) (n := 6) hown' hk' hins hini'
    (g := F0 m pc ls rest) rfl (by rw [hb]; exact d0) (Nat.le_refl _) (Nat.le_refl _)
  generalize hT1 : (T.setVm vm₁).pushCell { cls := cX, slots := kX.instanceTypes.map defaultValue, vm := .none } = T1 at X₁ st1
  have hcat : (Value.ref T.heap.size).category = 1 := rfl
  have hcellA : T1.heap[T.heap.size]? = some (freshCell cX kX) := by rw [← hT1]; exact State.heap_pushCell_size _ _
  have d3' : decode c.code (pc + 3) = .ok (.dup, 1) := by rw [hb]; exact d3
  obtain ⟨U, hsteps, hrun, hend, hW, hsame, ce, hce, hO⟩ := X₁.ctorThrow0 hexec htr (own := own) (cls := cls) (names := names) (ic := ic) hown' hcls hnames h (fun x hx => nomatch hx) hfX hkX hcellA (by rw [hhp, hT]; exact Nat.le_refl _)
    (g := { method := m, pc := pc + 4, locals := ls, stack := .ref T.heap.size :: .ref T.heap.size :: rest, locked := none }) rfl hsize rfl rfl (rest := rest) rfl
    (by rw [hb]; exact d4) (by rw [hb]; exact d7) hout hRframes (by simp only [List.map_cons, List.sum_cons, hcat]; omega) hlocks
  obtain ⟨f1, f2⟩ := vx_frame hsame
  rw [hhp] at f1 f2
  have hWs : s.WarmedH U.vm := State.WarmedH.trans hW0 hW
  have hcl : s.vm.findClass cls = some ce.cls := by
    have h9 := hO.cls
    rw [hvm] at h9
    exact h9
  have hall : s.sameButNew ({ U with vm := s.vm } : State) locs mc ms := by
    subst hA
    obtain ⟨e1, e2⟩ := hsame
    rw [State.setFrames_setFrames] at e1
    have h2 : (T.setVm s.vm).sameButNew ({ U with vm := s.vm } : State) [] (0 + 1) (0 + 6) := ⟨e1, e2⟩
    have h3 := X.same.trans h2
    rw [List.append_nil] at h3
    exact h3.mono hc hs
  refine ⟨U, ?_, .threw T.heap.size, hrun, hend, Or.inr ⟨T.heap.size, rfl, cls, ce, locs, hx U hWs.alike f1 (fun q hq => f2 q hq (fun z hz => nomatch hz)), hce, hO.vm, hcl, hWs, hall, hf⟩⟩
  refine st1 _ ?_
  show Steps p.tables e below (T1.setTop { method := m, pc := pc + 3, locals := ls, stack := .ref T.heap.size :: rest, locked := none }) _
  jvm_step X₁.here [X₁.here.top, hexec, d3', Value.category]
  exact hsteps
/-- 'throw new E("text")': new; dup; ldc; invokespecial; athrow -/
theorem vx_throwS {cc : ByteArray} {pc : Nat} (hexec : p.tables.exec = Jvm.exec) (hb : c.code = cc) (hl : l.stackTraces = false) {own cls text : String} {names : List String} {ik is ic mc ms sa : Nat} {A : Nat → Prop}
    (hown : s.vm.findClass own = some m.cls) (hcls : Bundle.fit cls = true) (hnames : ∀ n ∈ names, Bundle.fit n = true)
    (hk : (Cond.classLink own ik cls).before args s = true) (hini : (Cond.initialized cls).before args s = true) (hstr : vk_R own is text sa s) (hat : ∀ w ∈ vx_atS own ic cls names, w.before args s = true)
    (hgood : ∀ w ∈ Cond.classLink own ik cls :: Cond.initialized cls :: vx_atS own ic cls names, vx_ot w = true)
    (hU : vx_Zq Bundle.tN "UNASSIGNED_STACK" Bundle.steD A s s.heap) (hN : vx_Zq Bundle.tN "SUPPRESSED_SENTINEL" Bundle.listD A s s.heap) (hS : va_S A s.heap H locs) (hsize : ls.size = c.maxLocals)
    (d0 : decode cc pc = .ok (.new ik, 3)) (d3 : decode cc (pc + 3) = .ok (.dup, 1)) (d4 : decode cc (pc + 4) = .ok (.ldc is, 2)) (d6 : decode cc (pc + 6) = .ok (.invokespecial ic, 3)) (d9 : decode cc (pc + 9) = .ok (.athrow, 1))
    (hout : ∀ x ∈ c.exceptionTable.toList, covers x (pc + 9) = false)
    (hRframes : names.length + 3 < R.frames) (hRlocals : (rest.map fun v => v.category).sum + (13 * (names.length + 1) + 43) ≤ R.locals) (hRcells : cells + 1 ≤ R.cells) (hRslots : slots + 6 ≤ R.slots) (hlocks : meth.locks = false)
    (hx : ∀ t : State, s.vm.Alike t.vm → H.size ≤ t.heap.size → (∀ q : Nat, q < H.size → t.heap[q]? = H[q]?) → XC cls s t)
    (hf : ∀ z ∈ locs, free z.base) (hc : cells + 1 ≤ mc) (hs : slots + 6 ≤ ms) :
    W p l e R s m args below meth c H locs cells slots (vx_MQ below Qc XC args s mc ms free) (F0 m pc ls rest) := by
  intro T hT X
  have htr : e.platform.stackTraces = false := (show e.platform.stackTraces = l.stackTraces by rw [X.admits.platform]).trans hl
  have Y := vx_rebase X (R' := { frames := R.frames, locals := R.locals, cells := 1, slots := 6 }) (Nat.le_refl _) (Nat.le_refl _) hRcells hRslots
  obtain ⟨s', hA⟩ : ∃ z, z = (T.setVm s.vm).setFrames (.invoking m args :: below) := ⟨_, rfl⟩
  rw [← hA] at Y
  have hvm : s'.vm = s.vm := by rw [hA]; rfl
  have hhp : s'.heap = H := by rw [hA]; exact hT
  have hW0 : s.WarmedH s'.vm := by rw [hvm]; exact State.WarmedH.refl s
  have hat' : ∀ w ∈ vx_atS own ic cls names, w.before args s' = true := fun w hw => vx_ot_at hW0 hvm.symm (hgood w (List.mem_cons_of_mem _ (List.mem_cons_of_mem _ hw))) (hat w hw)
  have hk' : (Cond.classLink own ik cls).before args s' = true := vx_ot_at hW0 hvm.symm (hgood _ List.mem_cons_self) hk
  have hini' : (Cond.initialized cls).before args s' = true := vx_ot_at hW0 hvm.symm (hgood _ (List.mem_cons_of_mem _ List.mem_cons_self)) hini
  have hU' : vx_Zq Bundle.tN "UNASSIGNED_STACK" Bundle.steD A s' s'.heap := by rw [hhp]; exact vx_Zq.moved hW0.alike (hU.kept hS.2.1)
  have hN' : vx_Zq Bundle.tN "SUPPRESSED_SENTINEL" Bundle.listD A s' s'.heap := by rw [hhp]; exact vx_Zq.moved hW0.alike (hN.kept hS.2.1)
  have h : ∀ w ∈ Bundle.ownAtoms own ic cls names, w.before args s' = true := vx_own hat' (vx_isRefq hU'.1) (vx_isRefq hN'.1) hU'.2.word hN'.2.word
  have hown' : s'.vm.findClass own = some m.cls := by rw [hvm]; exact hown
  have hins : (Cond.instantiable cls 6).before args s' = true := h _ (by simp [Bundle.ownAtoms])
  obtain ⟨vm₁, cX, kX, hfX, hkX, -, -, X₁, st1⟩ := Y.newCold hexec (own := own) (C := cls) (index := ik) (n := 6) hown' hk' hins hini'
    (g := F0 m pc ls rest) rfl (by rw [hb]; exact d0) (Nat.le_refl _) (Nat.le_refl _)
  generalize hT1 : (T.setVm vm₁).pushCell { cls := cX, slots := kX.instanceTypes.map defaultValue, vm := .none } = T1 at X₁ st1
  have hcat : (Value.ref T.heap.size).category = 1 := rfl
  have hcellA : T1.heap[T.heap.size]? = some (freshCell cX kX) := by rw [← hT1]; exact State.heap_pushCell_size _ _
  have d3' : decode c.code (pc + 3) = .ok (.dup, 1) := by rw [hb]; exact d3
  have d4' : decode c.code (pc + 4) = .ok (.ldc is, 2) := by rw [hb]; exact d4
  have hstr' : vk_R own is text sa s' := vk_R.warm hW0 hstr
  obtain ⟨U, hsteps, hrun, hend, hW, hsame, ce, hce, hO⟩ := X₁.ctorThrowS hexec htr (own := own) (cls := cls) (names := names) (ic := ic) hown' hcls hnames h (fun x hx => nomatch hx) hfX hkX hcellA (by rw [hhp, hT]; exact Nat.le_refl _) (msg := .ref sa) rfl
    (g := { method := m, pc := pc + 6, locals := ls, stack := .ref sa :: .ref T.heap.size :: .ref T.heap.size :: rest, locked := none }) rfl hsize rfl rfl (rest := rest) rfl
    (by rw [hb]; exact d6) (by rw [hb]; exact d9) hout hRframes (by simp only [List.map_cons, List.sum_cons, hcat]; omega) hlocks
  obtain ⟨f1, f2⟩ := vx_frame hsame
  rw [hhp] at f1 f2
  have hWs : s.WarmedH U.vm := State.WarmedH.trans hW0 hW
  have hcl : s.vm.findClass cls = some ce.cls := by
    have h9 := hO.cls
    rw [hvm] at h9
    exact h9
  have hall : s.sameButNew ({ U with vm := s.vm } : State) locs mc ms := by
    subst hA
    obtain ⟨e1, e2⟩ := hsame
    rw [State.setFrames_setFrames] at e1
    have h2 : (T.setVm s.vm).sameButNew ({ U with vm := s.vm } : State) [] (0 + 1) (0 + 6) := ⟨e1, e2⟩
    have h3 := X.same.trans h2
    rw [List.append_nil] at h3
    exact h3.mono hc hs
  refine ⟨U, ?_, .threw T.heap.size, hrun, hend, Or.inr ⟨T.heap.size, rfl, cls, ce, locs, hx U hWs.alike f1 (fun q hq => f2 q hq (fun z hz => nomatch hz)), hce, hO.vm, hcl, hWs, hall, hf⟩⟩
  refine st1 _ ?_
  show Steps p.tables e below (T1.setTop { method := m, pc := pc + 3, locals := ls, stack := .ref T.heap.size :: rest, locked := none }) _
  jvm_step X₁.here [X₁.here.top, hexec, d3', Value.category]
  exact X₁.ldcString hexec (own := own) (text := text) (index := is) (a := sa) hown' hstr'.1 hstr'.2
    (g := { method := m, pc := pc + 4, locals := ls, stack := .ref T.heap.size :: .ref T.heap.size :: rest, locked := none }) rfl d4' _ hsteps
/-- 'throw new E("text")', the text by a wide index -/
theorem vx_throwSW {cc : ByteArray} {pc : Nat} (hexec : p.tables.exec = Jvm.exec) (hb : c.code = cc) (hl : l.stackTraces = false) {own cls text : String} {names : List String} {ik is ic mc ms sa : Nat} {A : Nat → Prop}
    (hown : s.vm.findClass own = some m.cls) (hcls : Bundle.fit cls = true) (hnames : ∀ n ∈ names, Bundle.fit n = true)
    (hk : (Cond.classLink own ik cls).before args s = true) (hini : (Cond.initialized cls).before args s = true) (hstr : vk_R own is text sa s) (hat : ∀ w ∈ vx_atS own ic cls names, w.before args s = true)
    (hgood : ∀ w ∈ Cond.classLink own ik cls :: Cond.initialized cls :: vx_atS own ic cls names, vx_ot w = true)
    (hU : vx_Zq Bundle.tN "UNASSIGNED_STACK" Bundle.steD A s s.heap) (hN : vx_Zq Bundle.tN "SUPPRESSED_SENTINEL" Bundle.listD A s s.heap) (hS : va_S A s.heap H locs) (hsize : ls.size = c.maxLocals)
    (d0 : decode cc pc = .ok (.new ik, 3)) (d3 : decode cc (pc + 3) = .ok (.dup, 1)) (d4 : decode cc (pc + 4) = .ok (.ldc_w is, 3)) (d7 : decode cc (pc + 7) = .ok (.invokespecial ic, 3)) (d10 : decode cc (pc + 10) = .ok (.athrow, 1))
    (hout : ∀ x ∈ c.exceptionTable.toList, covers x (pc + 10) = false)
    (hRframes : names.length + 3 < R.frames) (hRlocals : (rest.map fun v => v.category).sum + (13 * (names.length + 1) + 43) ≤ R.locals) (hRcells : cells + 1 ≤ R.cells) (hRslots : slots + 6 ≤ R.slots) (hlocks : meth.locks = false)
    (hx : ∀ t : State, s.vm.Alike t.vm → H.size ≤ t.heap.size → (∀ q : Nat, q < H.size → t.heap[q]? = H[q]?) → XC cls s t)
    (hf : ∀ z ∈ locs, free z.base) (hc : cells + 1 ≤ mc) (hs : slots + 6 ≤ ms) :
    W p l e R s m args below meth c H locs cells slots (vx_MQ below Qc XC args s mc ms free) (F0 m pc ls rest) := by
  intro T hT X
  have htr : e.platform.stackTraces = false := (show e.platform.stackTraces = l.stackTraces by rw [X.admits.platform]).trans hl
  have Y := vx_rebase X (R' := { frames := R.frames, locals := R.locals, cells := 1, slots := 6 }) (Nat.le_refl _) (Nat.le_refl _) hRcells hRslots
  obtain ⟨s', hA⟩ : ∃ z, z = (T.setVm s.vm).setFrames (.invoking m args :: below) := ⟨_, rfl⟩
  rw [← hA] at Y
  have hvm : s'.vm = s.vm := by rw [hA]; rfl
  have hhp : s'.heap = H := by rw [hA]; exact hT
  have hW0 : s.WarmedH s'.vm := by rw [hvm]; exact State.WarmedH.refl s
  have hat' : ∀ w ∈ vx_atS own ic cls names, w.before args s' = true := fun w hw => vx_ot_at hW0 hvm.symm (hgood w (List.mem_cons_of_mem _ (List.mem_cons_of_mem _ hw))) (hat w hw)
  have hk' : (Cond.classLink own ik cls).before args s' = true := vx_ot_at hW0 hvm.symm (hgood _ List.mem_cons_self) hk
  have hini' : (Cond.initialized cls).before args s' = true := vx_ot_at hW0 hvm.symm (hgood _ (List.mem_cons_of_mem _ List.mem_cons_self)) hini
  have hU' : vx_Zq Bundle.tN "UNASSIGNED_STACK" Bundle.steD A s' s'.heap := by rw [hhp]; exact vx_Zq.moved hW0.alike (hU.kept hS.2.1)
  have hN' : vx_Zq Bundle.tN "SUPPRESSED_SENTINEL" Bundle.listD A s' s'.heap := by rw [hhp]; exact vx_Zq.moved hW0.alike (hN.kept hS.2.1)
  have h : ∀ w ∈ Bundle.ownAtoms own ic cls names, w.before args s' = true := vx_own hat' (vx_isRefq hU'.1) (vx_isRefq hN'.1) hU'.2.word hN'.2.word
  have hown' : s'.vm.findClass own = some m.cls := by rw [hvm]; exact hown
  have hins : (Cond.instantiable cls 6).before args s' = true := h _ (by simp [Bundle.ownAtoms])
  obtain ⟨vm₁, cX, kX, hfX, hkX, -, -, X₁, st1⟩ := Y.newCold hexec (own := own) (C := cls) (index := ik) (n := 6) hown' hk' hins hini'
    (g := F0 m pc ls rest) rfl (by rw [hb]; exact d0) (Nat.le_refl _) (Nat.le_refl _)
  generalize hT1 : (T.setVm vm₁).pushCell { cls := cX, slots := kX.instanceTypes.map defaultValue, vm := .none } = T1 at X₁ st1
  have hcat : (Value.ref T.heap.size).category = 1 := rfl
  have hcellA : T1.heap[T.heap.size]? = some (freshCell cX kX) := by rw [← hT1]; exact State.heap_pushCell_size _ _
  have d3' : decode c.code (pc + 3) = .ok (.dup, 1) := by rw [hb]; exact d3
  have d4' : decode c.code (pc + 4) = .ok (.ldc_w is, 3) := by rw [hb]; exact d4
  have hstr' : vk_R own is text sa s' := vk_R.warm hW0 hstr
  obtain ⟨U, hsteps, hrun, hend, hW, hsame, ce, hce, hO⟩ := X₁.ctorThrowS hexec htr (own := own) (cls := cls) (names := names) (ic := ic) hown' hcls hnames h (fun x hx => nomatch hx) hfX hkX hcellA (by rw [hhp, hT]; exact Nat.le_refl _) (msg := .ref sa) rfl
    (g := { method := m, pc := pc + 7, locals := ls, stack := .ref sa :: .ref T.heap.size :: .ref T.heap.size :: rest, locked := none }) rfl hsize rfl rfl (rest := rest) rfl
    (by rw [hb]; exact d7) (by rw [hb]; exact d10) hout hRframes (by simp only [List.map_cons, List.sum_cons, hcat]; omega) hlocks
  obtain ⟨f1, f2⟩ := vx_frame hsame
  rw [hhp] at f1 f2
  have hWs : s.WarmedH U.vm := State.WarmedH.trans hW0 hW
  have hcl : s.vm.findClass cls = some ce.cls := by
    have h9 := hO.cls
    rw [hvm] at h9
    exact h9
  have hall : s.sameButNew ({ U with vm := s.vm } : State) locs mc ms := by
    subst hA
    obtain ⟨e1, e2⟩ := hsame
    rw [State.setFrames_setFrames] at e1
    have h2 : (T.setVm s.vm).sameButNew ({ U with vm := s.vm } : State) [] (0 + 1) (0 + 6) := ⟨e1, e2⟩
    have h3 := X.same.trans h2
    rw [List.append_nil] at h3
    exact h3.mono hc hs
  refine ⟨U, ?_, .threw T.heap.size, hrun, hend, Or.inr ⟨T.heap.size, rfl, cls, ce, locs, hx U hWs.alike f1 (fun q hq => f2 q hq (fun z hz => nomatch hz)), hce, hO.vm, hcl, hWs, hall, hf⟩⟩
  refine st1 _ ?_
  show Steps p.tables e below (T1.setTop { method := m, pc := pc + 3, locals := ls, stack := .ref T.heap.size :: rest, locked := none }) _
  jvm_step X₁.here [X₁.here.top, hexec, d3', Value.category]
  exact X₁.ldcStringW hexec (own := own) (text := text) (index := is) (a := sa) hown' hstr'.1 hstr'.2
    (g := { method := m, pc := pc + 4, locals := ls, stack := .ref T.heap.size :: .ref T.heap.size :: rest, locked := none }) rfl d4' _ hsteps
end Ends
section Bodies
variable {l : Launch}
theorem vx_ofW {y : MethodName} {ws ws' : List Cond} {rm : Room} {Pc : Array Value → State → Prop} {Qc : Array Value → State → Outcome → State → Prop} {XC : String → State → State → Prop} {mc ms : Nat} {free : Addr → Prop} {cc : ByteArray} {maxL : Nat} {ret : Option FieldType}
    (hy : plainName y.cls = true) (hw : ws = Cond.code y cc maxL ret :: ws')
    (body : ∀ p e s m args below meth c s₁, BodyLoose p l y (headSpec ws rm) cc maxL ret e s m args below meth c s₁ → c.maxLocals = maxL → (∀ x ∈ c.exceptionTable.toList, False) → Pc args s →
      W p l e (headSpec ws rm).room s m args below meth c s.heap [] 0 0 (vx_MQ below Qc XC args s mc ms free) (entryFrame m args maxL)) : vx_Met l y ws rm Pc Qc XC mc ms free := by
  refine MetFree.of_bodyS (code := cc) (maxLocals := maxL) (ret := ret) hy ?_ ?_
  · intro args s m h hn
    obtain ⟨meth, c, h1, h2, h3, h4, h5, h6, -, -⟩ := Cond.code_spec hn (atoms_spec (ws := ws) h _ (by rw [hw]; exact List.mem_cons_self))
    exact ⟨meth, c, h1, h2, h3, h4, h5, h6⟩
  · intro p e s m args below meth c s₁ B hml hP _
    have hh0 : s₁.heap = s.heap := by rw [B.state]; rfl
    have ht : ∀ x ∈ c.exceptionTable.toList, False := by
      obtain ⟨meth9, c9, h1, h2, -, -, -, -, h7, -⟩ := Cond.code_spec B.named (atoms_spec (ws := ws) B.pre _ (by rw [hw]; exact List.mem_cons_self))
      cases Option.some.inj (h1.symm.trans B.method)
      cases Option.some.inj (h2.symm.trans (Stand.of_body B).code)
      intro x hx
      rw [Array.isEmpty_iff.mp h7] at hx
      cases hx
    obtain ⟨t, a1, o, b1, b2, b3⟩ := body p e s m args below meth c s₁ B hml ht hP s₁ hh0 (Stand.of_body B)
    exact ⟨t, o, a1, b1, b2, b3⟩
/-- the table of a body with handlers -/
theorem vx_table {p : Program} {x y : MethodName} {S : Spec} {cc bytes : ByteArray} {maxL maxL' : Nat} {ret ret' : Option FieldType} {e : Env} {s s₁ : State} {m : MethodId} {args : Array Value} {below : List Frame} {meth : Method} {c : Code} {hh : List (Nat × Nat × Nat × Nat)}
    (B : BodyLoose p l y S cc maxL ret e s m args below meth c s₁) (h : (Cond.codeWith y bytes maxL' ret' hh).before args s = true) : c.exceptionTable.toList = tableOf hh := by
  obtain ⟨m9, meth9, c9, hn9, h1, h2, -, -, h6, -⟩ := Cond.codeWith_spec h
  cases Option.some.inj (hn9.symm.trans B.named)
  cases Option.some.inj (h1.symm.trans B.method)
  cases Option.some.inj (h2.symm.trans (Stand.of_body B).code)
  rw [← h6, table_eq]
end Bodies
end VXA
/-! ===== END ===== -/
/-! ===== BEGIN a static call of a method with an exception table ===== -/
section VXS
variable {p : Program} {l : Launch} {e : Env} {R : Room} {s : State} {m : MethodId} {args : Array Value} {below : List Frame} {meth : Method} {c : Code} {T : State} {H : Heap} {locs : List Loc} {cells slots : Nat}
abbrev vx_CSW (R : Room) (s : State) (args : Array Value) (own : String) (index : Nat) (y : MethodName) (bytes : ByteArray) (maxL : Nat) (ret : Option FieldType) (hh : List (Nat × Nat × Nat × Nat)) (ws : List Cond) (rm : Room) (mc ms n : Nat) : Prop :=
  (rm.cells = mc ∧ rm.slots = ms ∧ rm.frames + 1 ≤ R.frames ∧ 8 + (maxL + 11) + rm.locals ≤ R.locals ∧ (∀ w ∈ ws, ∀ (a' : Array Value) (U : State), s.WarmedH U.vm → w.before a' U = true) ∧ Cond.codeWith y bytes maxL ret hh ∈ ws) ∧
  (Cond.codeWith y bytes maxL ret hh).before args s = true ∧ (Cond.initialized y.cls).before args s = true ∧ (y.cls ≠ "java/lang/invoke/MethodHandle" ∧ y.cls ≠ "java/lang/invoke/VarHandle") ∧
  (∀ sig, parseMethodDescriptor y.desc = some sig → n = sig.parameters.length) ∧ (Cond.methodLink own index y).before args s = true ∧ (Cond.static y).before args s = true
theorem vx_cwSW {own : String} {index maxL mc ms : Nat} {y : MethodName} {bytes : ByteArray} {ret : Option FieldType} {hh : List (Nat × Nat × Nat × Nat)} {Ts ws ws' : List Cond} {rm : Room} (n : Nat) (ht : ∀ w ∈ Ts, w.before args s = true) (hT : GoodIn Ts (va_wsS own index y ws)) (hw : ws = Cond.codeWith y bytes maxL ret hh :: ws') (hrc : rm.cells = mc) (hrs : rm.slots = ms)
    (hd : y.cls ≠ "java/lang/invoke/MethodHandle" ∧ y.cls ≠ "java/lang/invoke/VarHandle" ∧ (parseMethodDescriptor y.desc).map (fun d => d.parameters.length) = some n) (hR : rm.frames + 1 ≤ R.frames ∧ 8 + (maxL + 11) + rm.locals ≤ R.locals) :
    vx_CSW R s args own index y bytes maxL ret hh ws rm mc ms n := by
  have ok : ∀ w ∈ va_wsS own index y ws, w.before args s = true := fun w h => ht w (hT w h).1
  have hG : GoodIn Ts ws := fun w h => hT w (by unfold va_wsS; exact List.mem_append_right _ h)
  have hc : Cond.codeWith y bytes maxL ret hh ∈ ws := by rw [hw]; exact List.mem_cons_self
  refine ⟨⟨hrc, hrs, hR.1, hR.2, pay_in ht hG, hc⟩, ht _ (hG _ hc).1, ok _ (by simp [va_wsS]), ⟨hd.1, hd.2.1⟩, fun sig h => ?_, ok _ (by simp [va_wsS]), ok _ (by simp [va_wsS])⟩
  have h2 := hd.2.2
  rw [h] at h2
  exact (Option.some.inj h2).symm
theorem vx_callSW (X : Stand p l e R s m args below meth c T locs cells slots) (hexec : p.tables.exec = Jvm.exec) {own : String} {index : Nat} {y : MethodName} {bytes : ByteArray} {maxL : Nat} {ret : Option FieldType} {hh : List (Nat × Nat × Nat × Nat)}
    (hown : s.vm.findClass own = some m.cls) (hlink : (Cond.methodLink own index y).before args s = true) (hstat : (Cond.static y).before args s = true) (hinit : (Cond.initialized y.cls).before args s = true)
    (hcode : (Cond.codeWith y bytes maxL ret hh).before args s = true) (hy : y.cls ≠ "java/lang/invoke/MethodHandle" ∧ y.cls ≠ "java/lang/invoke/VarHandle")
    {W9 : Nat} {Pre : Pt → Array Value → Prop} {Post : Pt → Array Value → Option Value → Pt → Prop} (hK : Back l R p e below s args y 3 W9 Pre Post)
    {g : JFrame} (hg : g.method = m) (hsize : g.locals.size = c.maxLocals) {argsL rest : List Value} (hlen : ∀ sig, parseMethodDescriptor y.desc = some sig → argsL.length = sig.parameters.length)
    (hstack : g.stack = argsL.reverse ++ rest) (hW : 2 * g.monitorRoom + (rest.map fun v => v.category).sum ≤ W9) (hdg : decode c.code g.pc = .ok (.invokestatic index, 3))
    (hpre : ∀ vm₁, s.WarmedH vm₁ → Pre ⟨T.setVm vm₁, locs, cells, slots⟩ argsL.toArray) :
    ∃ (v : Option Value) (vm₁ : Vm) (B : Pt), s.WarmedH vm₁ ∧ Stand p l e R s m args below meth c B.U B.locs B.cells B.slots ∧ Post ⟨T.setVm vm₁, locs, cells, slots⟩ argsL.toArray v B ∧
      ∀ target, Steps p.tables e below (B.U.setTop { g with pc := g.pc + 3, stack := v.toList ++ rest }) target → Steps p.tables e below (T.setTop g) target := by
  obtain ⟨mk, methM, cM, hnamed, hmethM, -, -, -, -, -, -, hsigM⟩ := Cond.codeWith_spec hcode
  have hstatic : methM.isStatic = true := Cond.static_spec hnamed hmethM hstat
  obtain ⟨kP, hkP, -⟩ := className_of_methodNamed hnamed
  have hinitP : kP.init = .initialized := Cond.initialized_spec (findClass_of_methodNamed hnamed) hkP hinit
  obtain ⟨vm₁, X₁, hstep₁⟩ := X.invokestatic hexec hown hlink hnamed hmethM hstatic hkP hinitP hy (g := g) hg (argsL := argsL) (rest := rest) (hlen _ hsigM) hstack hdg
  obtain ⟨v, B, X', hpost, hsteps⟩ := hK m meth c ⟨T.setVm vm₁, locs, cells, slots⟩ { g with stack := rest } (.invokestatic index) mk argsL.toArray X₁ hg hsize hdg hW (X₁.named hnamed) (hpre vm₁ X₁.warmed)
  exact ⟨v, vm₁, B, X₁.warmed, X', hpost, fun target h => hstep₁ _ fun acts => by rw [doInvoke_state]; exact hsteps.trans h⟩
theorem vx_runSW {y : MethodName} {bytes cc : ByteArray} {maxL nL mc ms n index : Nat} {ret : Option FieldType} {hh : List (Nat × Nat × Nat × Nat)} {ws : List Cond} {rm : Room} {Pc : Array Value → State → Prop} {Qc : Array Value → State → Outcome → State → Prop} {free : Addr → Prop} {Ts : List Cond} {own : String} {As rest : List Value} {g : JFrame}
    (S : CallFix p m c cc nL s args Ts own) (hM : Met l y ws rm Pc Qc mc ms free) (cw : vx_CSW R s args own index y bytes maxL ret hh ws rm mc ms n) (hp : PreS s H Pc As)
    (hg : g.method = m) (hn : As.length = n) (hsize : g.locals.size = nL) (hstack : g.stack = As.reverse ++ rest) (hW : 2 * g.monitorRoom + (rest.map fun v => v.category).sum ≤ 8) (hdg : decode cc g.pc = .ok (.invokestatic index, 3)) (hf : cells + mc ≤ R.cells ∧ slots + ms ≤ R.slots) :
    va_Run p l e R s m args below meth c H locs cells slots mc ms g rest (Qc As.toArray) (free) := by
  obtain ⟨⟨hrc, hrs, hfr, hlo, hws, hcw⟩, hcode, hini, hy, hlen, hl, hstt⟩ := cw
  have hK : Back l R p e below s args y 3 8 (PreOf R mc ms Pc) (PostOf Qc mc ms free) := va_backW (hh := hh) (bytes := bytes) (maxL := maxL) (ret := ret) hM hp.1 hrc hrs hfr hlo hws hcw (fun a' U hW => word_at hW (Or.inl (by first | rfl | simp [Cond.onTables, Cond.keeps, Cond.steady])) hini)
  obtain ⟨hx, hb, hml, ho, -⟩ := S
  intro T hT X
  obtain ⟨v, vm₁, ⟨U', l2, c2, s2⟩, hW₁, X', ⟨g', mk, t, L, e1, e2, hq, h1, hL, h2, h3⟩, st⟩ := vx_callSW X hx (hh := hh) (bytes := bytes) (maxL := maxL) (ret := ret) ho hl hstt hini hcode hy hK hg (hsize.trans hml.symm) (argsL := As) (rest := rest) (fun sig h => hn.trans (hlen sig h)) hstack hW (by rw [hb]; exact hdg)
    (fun vm₁ hW₁ => ⟨hf.1, hf.2, hp.2 (T.setVm vm₁) hT hW₁⟩)
  dsimp only [Pt.U, Pt.locs, Pt.cells, Pt.slots] at X' e1 e2 h1 h2 h3 st
  subst h1; subst h2; subst h3
  exact ⟨v, (T.setVm vm₁).calling g' mk As.toArray, t, U', L, hT, X', hL, e1, e2, hq, st⟩
/-- not caught here, past rows that name other classes: it goes on to the caller -/
theorem vx_outP {p : Program} {l : Launch} {e : Env} {R : Room} {s : State} {m : MethodId} {args : Array Value} {below : List Frame} {meth : Method} {c : Code} {H : Heap} {locs : List Loc} {cells slots : Nat} {free : Addr → Prop} {ls : Array Slot} {rest : List Value} {Qc : Array Value → State → Outcome → State → Prop} {XC : String → State → State → Prop}
    {pc : Nat} {own E : String} {ce : Cell} {q : Addr} {mc ms : Nat} (hown : s.vm.findClass own = some m.cls) (hlocks : meth.locks = false)
    (hpass : ∀ z ∈ c.exceptionTable.toList, covers z pc = false ∨ (z.catchType ≠ 0 ∧ ∃ nm : String, (Cond.classLink own z.catchType nm).before args s = true ∧ va_Nc E nm s)) (hcell : H[q]? = some ce) (hv : ce.vm = .none) (hcl : s.vm.findClass E = some ce.cls)
    (hx : ∀ t : State, t.heap = H → s.vm.Alike t.vm → XC E s t) (hf : ∀ z ∈ locs, free z.base) (hc : cells ≤ mc) (hs : slots ≤ ms) :
    vx_W p l e R s m args below meth c H locs cells slots (vx_MQ below Qc XC args s mc ms free) (F0 m pc ls rest) q := by
  intro T hT X
  have hpl : e.platform.magicAccessors = ({} : Platform).magicAccessors := by rw [X.admits.platform]
  obtain ⟨vm', hW', X', st⟩ := X.outThrough hlocks q (g := F0 m pc ls rest) rfl rfl rfl (cell := ce) (by rw [hT]; exact hcell) (by rw [hv]; rfl)
    (by obtain ⟨k9, h9, -⟩ := Vm.findClass_spec hcl; exact ⟨k9, h9⟩) (fun z hz => by
      rcases hpass z hz with h | ⟨hz0, nm, hl1, hn1⟩
      · exact Or.inl h
      · obtain ⟨c6, hc6, hcl6⟩ := Cond.classLink_spec hown hl1 e.platform hpl
        obtain ⟨a8, b8, h1, h2, h3⟩ := hn1
        cases Option.some.inj (h1.symm.trans hcl)
        cases Option.some.inj (h2.symm.trans hc6)
        exact Or.inr ⟨hz0, _, hcl6, h3⟩)
  obtain ⟨g₀, hfr⟩ := X'.frames_eq
  have hcell9 : ((T.setVm vm').setFrames (.throwing q :: below)).heap[q]? = some ce := by
    show T.heap[q]? = some ce
    rw [hT]; exact hcell
  have hend : Ended ((T.setVm vm').setFrames (.throwing q :: below)) below (.threw q) := State.frames_setFrames _ (State.cur_lt_of_frames hfr)
  refine ⟨(T.setVm vm').setFrames (.throwing q :: below), ?_, .threw q, X'.here.running, hend, Or.inr ⟨q, rfl, E, ce, locs, hx _ hT (X'.ends _).1.alike, hcell9, hv, hcl, (X'.ends _).1, (X'.ends _).2.mono hc hs, hf⟩⟩
  rw [X.pushThrowing_eq]
  exact st
/-- a thing of a world lies in the heap -/
theorem vx_lt {D : va_G} {cl : List vw_C} {ws : va_W} {H1 : Heap} (h : va_P D cl ws H1) {k : Nat} {q : Nat × va_E} (hk : ws[k]? = some q) : q.1 < H1.size := (h k q hk).lt
end VXS
/-! ===== END ===== -/
/-! ===== BEGIN methods with a table of their own: called by a name, returning or throwing ===== -/
section VXH
/-! vx_backW, vx_callVX, vx_callSX, vx_callVW, vx_runVW, vx_runVX, vx_runSX, vx_ofWH follow the same proofs as their sisters above (Free/Laws.lean, Shelf42/LK1.lean); vx_outP calls Shelf42/NT130.lean (outThrough). -/
section
variable {l : Launch} {R : Room} {p : Program} {e : Env} {below : List Frame} {s : State} {sargs : Array Value} {y : MethodName} {len W9 : Nat}
theorem vx_backW {ws : List Cond} {rm : Room} {Pc : Array Value → State → Prop} {Qc : Array Value → State → Outcome → State → Prop} {XC : String → State → State → Prop} {mc ms : Nat} {free : Addr → Prop} {bytes : ByteArray} {maxL : Nat} {ret : Option FieldType} {hh : List (Nat × Nat × Nat × Nat)}
    (hM : vx_Met l y ws rm Pc Qc XC mc ms free) (hblind : FrameBlind Pc) (hrc : rm.cells = mc) (hrs : rm.slots = ms)
    (hframes : rm.frames + 1 ≤ R.frames) (hlocals : W9 + (maxL + 11) + rm.locals ≤ R.locals)
    (hws : ∀ w ∈ ws, ∀ a' U, s.WarmedH U.vm → w.before a' U = true) (hcode : Cond.codeWith y bytes maxL ret hh ∈ ws) (hinit : ∀ a' U, s.WarmedH U.vm → (Cond.initialized y.cls).before a' U = true) :
    vx_Back l R p e below s sargs y len W9 (PreOf R mc ms Pc) (PostOf Qc mc ms free) (vx_Post XC mc ms free) := by
  intro m meth c A g ig mk a X hg hsize hdg hW hn hp
  have h1 : (headSpec ws rm).pre.before a A.U = true := atoms_intro fun w hw => hws w hw _ _ X.warmed
  have h2 : (Cond.codeWith y bytes maxL ret hh).before a A.U = true := hws _ hcode _ _ X.warmed
  have h3 : (Cond.initialized y.cls).before a A.U = true := hinit _ _ X.warmed
  have h4 : A.cells + (headSpec ws rm).room.cells ≤ R.cells := by rw [show (headSpec ws rm).room.cells = mc from hrc]; exact hp.1
  have h5 : A.slots + (headSpec ws rm).room.slots ≤ R.slots := by rw [show (headSpec ws rm).room.slots = ms from hrs]; exact hp.2.1
  have hPc : Pc a (A.U.calling g mk a) := hblind _ _ _ _ hp.2.2
  obtain ⟨U, Ls, c0, s0⟩ := A
  dsimp only [Pt.U, Pt.locs, Pt.cells, Pt.slots] at h1 h2 h3 h4 h5 X hn hPc ⊢
  obtain ⟨m9, methY, cY, hn9, hmY, hcY, -, hlY, -⟩ := Cond.codeWith_spec h2
  cases Option.some.inj (hn9.symm.trans hn)
  obtain ⟨kY, hkY, -⟩ := className_of_methodNamed hn
  have hinitY : kY.init = .initialized := Cond.initialized_spec (findClass_of_methodNamed hn) hkY h3
  have h : At U g.method c below := by rw [hg]; exact X.here
  have hlocals9 : W9 + (maxL + 11) + (headSpec ws rm).room.locals ≤ R.locals := hlocals
  have happ : (headSpec ws rm).appliesLoose y e.platform (U.calling g mk a) = true :=
    Spec.appliesLoose_calling (g := g) h hdg hn hkY hinitY
      (X.room_calling (g := g) (R' := (headSpec ws rm).room) hsize hmY hcY hframes (by rw [hlY]; omega) h4 h5) h1
  obtain ⟨mid, hmid⟩ := h.above
  have hfr : (U.setTop g).frames = (.java g :: mid) ++ below := by rw [State.frames_setTop' g h.top, hmid]; rfl
  obtain ⟨o, s₂, hsteps, -, hend, hq⟩ := Steps.callFree hM p X.admits X.cas X.clock (acts := []) hfr happ hPc trivial
  have hq' : vx_Q Qc XC mc ms free a (U.calling g mk a) o s₂ := hq
  rw [State.frames_setTop' g h.top] at hend
  obtain ⟨g₀, hg0⟩ := Option.isSome_iff_exists.mp h.top
  obtain ⟨r, hr⟩ := State.topJava?_eq_some.mp hg0
  have hr' : (({ U with heap := s₂.heap, slotsUsed := s₂.slotsUsed } : State).setVm s₂.vm).frames = .java g₀ :: r := hr
  rcases hq' with ⟨hqc, L, hfe, hL⟩ | ⟨q, rfl, E, ce, L, hx, hce, hcv, hcl, hW₂, hsm, hL⟩
  · obtain ⟨⟨v, rfl⟩, hW₂, e2, q2, q3, q4, q5, q6⟩ := id hfe
    have e3 : s₂ = ({ (U.calling g mk a).setFrames s₂.frames with heap := s₂.heap, slotsUsed := s₂.slotsUsed } : State).setVm s₂.vm := by
      have : s₂ = ({ s₂ with vm := (U.calling g mk a).vm } : State).setVm s₂.vm := rfl
      rw [e2] at this
      exact this
    obtain ⟨c₂, i₂, len₂, hc₂, hd₂, hf₂⟩ := hend
    have hW' : U.WarmedH s₂.vm := hW₂
    have hcc : c₂ = c := by
      have h1 : s₂.code? g.method = U.code? g.method := by
        rw [State.code?_eq, State.code?_eq, hW'.alike.method?]
      exact Option.some.inj (hc₂.symm.trans (h1.trans h.code))
    subst hcc
    have hlen : len₂ = len := by rw [hdg] at hd₂; cases hd₂; rfl
    subst hlen
    have hs₂ : s₂ = (({ U with heap := s₂.heap, slotsUsed := s₂.slotsUsed } : State).setVm s₂.vm).setTop { g with pc := g.pc + len₂, stack := v.toList ++ g.stack } := by
      refine e3.trans ?_
      rw [hf₂, State.calling_eq h.top, State.setFrames_setFrames, State.setTop_of_frames _ hr', hr]
      rfl
    have hsame : U.sameButNew ({ U with heap := s₂.heap, slotsUsed := s₂.slotsUsed } : State) L mc ms := by
      refine ⟨?_, q2, q3, q4, q5, q6⟩
      obtain ⟨t, ht, -⟩ := State.frames_cons hr
      show ({ U with heap := s₂.heap, slotsUsed := s₂.slotsUsed } : State) = { U.setFrames U.frames with heap := s₂.heap, slotsUsed := s₂.slotsUsed }
      rw [State.setFrames_self ht]
    subst hg
    refine Or.inl ⟨v, ⟨(({ U with heap := s₂.heap, slotsUsed := s₂.slotsUsed } : State).setVm s₂.vm), Ls ++ L, c0 + mc, s0 + ms⟩,
      ⟨X.admits, X.cas, X.clock, X.frames, X.room, X.hears, X.method, X.code, (X.here.setHeapUsed s₂.heap s₂.slotsUsed).setVm hW'.alike, X.tail, State.WarmedH.trans X.warmed hW', X.limits, X.bytes, X.same.trans (hsame.setVm s.vm)⟩,
      ⟨g, mk, s₂, L, rfl, rfl, hqc, rfl, hL, rfl, rfl⟩, ?_⟩
    show Steps p.tables e below _ ((({ U with heap := s₂.heap, slotsUsed := s₂.slotsUsed } : State).setVm s₂.vm).setTop { g with pc := g.pc + len₂, stack := v.toList ++ g.stack })
    rw [← hs₂]
    exact hsteps
  · obtain ⟨e2, q2, q3, q4, q5, q6⟩ := id hsm
    have e3 : s₂ = ({ (U.calling g mk a).setFrames s₂.frames with heap := s₂.heap, slotsUsed := s₂.slotsUsed } : State).setVm s₂.vm := by
      have : s₂ = ({ s₂ with vm := (U.calling g mk a).vm } : State).setVm s₂.vm := rfl
      rw [e2] at this
      exact this
    have hf₂ : s₂.frames = .throwing q :: .java g :: U.frames.tail := hend
    have hW' : U.WarmedH s₂.vm := hW₂
    have hs₂ : s₂ = ((({ U with heap := s₂.heap, slotsUsed := s₂.slotsUsed } : State).setVm s₂.vm).setTop g).pushFrame (.throwing q) := by
      refine e3.trans ?_
      rw [hf₂, State.calling_eq h.top, State.setFrames_setFrames, State.pushFrame, State.frames_setTop _ hr', State.setTop_of_frames _ hr', State.setFrames_setFrames, hr]
      rfl
    have hsame : U.sameButNew ({ U with heap := s₂.heap, slotsUsed := s₂.slotsUsed } : State) L mc ms := by
      refine ⟨?_, q2, q3, q4, q5, q6⟩
      obtain ⟨t, ht, -⟩ := State.frames_cons hr
      show ({ U with heap := s₂.heap, slotsUsed := s₂.slotsUsed } : State) = { U.setFrames U.frames with heap := s₂.heap, slotsUsed := s₂.slotsUsed }
      rw [State.setFrames_self ht]
    subst hg
    refine Or.inr ⟨q, ⟨(({ U with heap := s₂.heap, slotsUsed := s₂.slotsUsed } : State).setVm s₂.vm), Ls ++ L, c0 + mc, s0 + ms⟩,
      ⟨X.admits, X.cas, X.clock, X.frames, X.room, X.hears, X.method, X.code, (X.here.setHeapUsed s₂.heap s₂.slotsUsed).setVm hW'.alike, X.tail, State.WarmedH.trans X.warmed hW', X.limits, X.bytes, X.same.trans (hsame.setVm s.vm)⟩,
      ⟨g, mk, s₂, L, E, ce, rfl, rfl, hx, hce, hcv, hcl, rfl, hL, rfl, rfl⟩, ?_⟩
    show Steps p.tables e below _ (((({ U with heap := s₂.heap, slotsUsed := s₂.slotsUsed } : State).setVm s₂.vm).setTop g).pushFrame (.throwing q))
    rw [← hs₂]
    exact hsteps
end
variable {p : Program} {l : Launch} {e : Env} {R : Room} {s : State} {m : MethodId} {args : Array Value} {below : List Frame} {meth : Method} {c : Code} {T : State} {H : Heap} {locs : List Loc} {cells slots : Nat}
theorem vx_callVX (X : Stand p l e R s m args below meth c T locs cells slots) (hexec : p.tables.exec = Jvm.exec) {own C : String} {index : Nat} {y : MethodName} {bytes : ByteArray} {maxL : Nat} {ret : Option FieldType} {hh : List (Nat × Nat × Nat × Nat)}
    (hown : s.vm.findClass own = some m.cls) (hlink : (Cond.methodLink own index y).before args s = true) (hinst : (Cond.instanceMethod y).before args s = true) (hsel : (Cond.selects C y y).before args s = true)
    (hcode : (Cond.codeWith y bytes maxL ret hh).before args s = true) (hy : y.cls ≠ "java/lang/invoke/MethodHandle" ∧ y.cls ≠ "java/lang/invoke/VarHandle")
    {W9 : Nat} {Pre : Pt → Array Value → Prop} {Post : Pt → Array Value → Option Value → Pt → Prop} {PostX : Pt → Array Value → Addr → Pt → Prop} (hK : vx_Back l R p e below s args y 3 W9 Pre Post PostX)
    {b : Addr} {cellB : Cell} (hcell : T.heap[b]? = some cellB) (hobj : cellB.vm.isStatics = false) (hcls : s.vm.findClass C = some cellB.cls)
    {g : JFrame} (hg : g.method = m) (hsize : g.locals.size = c.maxLocals) {argsL rest : List Value} (hlen : ∀ sig, parseMethodDescriptor y.desc = some sig → argsL.length = sig.parameters.length)
    (hstack : g.stack = argsL.reverse ++ .ref b :: rest) (hW : 2 * g.monitorRoom + (rest.map fun v => v.category).sum ≤ W9) (hdg : decode c.code g.pc = .ok (.invokevirtual index, 3))
    (hpre : ∀ vm₁, s.WarmedH vm₁ → Pre ⟨T.setVm vm₁, locs, cells, slots⟩ (Value.ref b :: argsL).toArray) :
    (∃ (v : Option Value) (vm₁ : Vm) (B : Pt), s.WarmedH vm₁ ∧ Stand p l e R s m args below meth c B.U B.locs B.cells B.slots ∧ Post ⟨T.setVm vm₁, locs, cells, slots⟩ (Value.ref b :: argsL).toArray v B ∧
      ∀ target, Steps p.tables e below (B.U.setTop { g with pc := g.pc + 3, stack := v.toList ++ rest }) target → Steps p.tables e below (T.setTop g) target) ∨
    (∃ (q : Addr) (vm₁ : Vm) (B : Pt), s.WarmedH vm₁ ∧ Stand p l e R s m args below meth c B.U B.locs B.cells B.slots ∧ PostX ⟨T.setVm vm₁, locs, cells, slots⟩ (Value.ref b :: argsL).toArray q B ∧
      Steps p.tables e below (T.setTop g) ((B.U.setTop { g with stack := rest }).pushFrame (.throwing q))) := by
  obtain ⟨mk, methM, hnamed, hmethM, hstM, habM⟩ := Cond.instanceMethod_spec hinst
  obtain ⟨m8, methM', cM, hn8, hmethM', -, -, -, -, -, -, hsigM⟩ := Cond.codeWith_spec hcode
  cases Option.some.inj (hn8.symm.trans hnamed)
  cases hmethM.symm.trans hmethM'
  obtain ⟨c2, r2, m2, q1, q2, q3, q4, kP, hkP, hkPi⟩ := Cond.selects_spec hsel
  cases hcls.symm.trans q1
  cases (State.methodFound?_of_named hnamed hy).symm.trans q2
  cases hnamed.symm.trans q3
  have hselP : selectMethod e.platform s.vm cellB.cls mk = .method mk := by rw [Launch.admits_selectMethod X.admits]; exact q4
  obtain ⟨vm₁, X₁, hstep₁⟩ := X.invokevirtual hexec hown hlink hnamed hmethM hstM hkP hkPi hy (a := b) (cell := cellB) hcell
    (fun z h => by rw [h] at hobj; cases hobj) hselP hmethM habM hkP hkPi (g := g) hg (argsL := argsL) (rest := rest) (hlen _ hsigM) hstack hdg
  rcases hK m meth c ⟨T.setVm vm₁, locs, cells, slots⟩ { g with stack := rest } (.invokevirtual index) mk (Value.ref b :: argsL).toArray X₁ hg hsize hdg hW (X₁.named hnamed) (hpre vm₁ X₁.warmed) with ⟨v, B, X', hpost, hsteps⟩ | ⟨q, B, X', hpost, hsteps⟩
  · exact Or.inl ⟨v, vm₁, B, X₁.warmed, X', hpost, fun target h => hstep₁ _ fun acts => by rw [doInvoke_state]; exact hsteps.trans h⟩
  · exact Or.inr ⟨q, vm₁, B, X₁.warmed, X', hpost, hstep₁ _ fun acts => by rw [doInvoke_state]; exact hsteps⟩
theorem vx_callSX (X : Stand p l e R s m args below meth c T locs cells slots) (hexec : p.tables.exec = Jvm.exec) {own : String} {index : Nat} {y : MethodName} {bytes : ByteArray} {maxL : Nat} {ret : Option FieldType} {hh : List (Nat × Nat × Nat × Nat)}
    (hown : s.vm.findClass own = some m.cls) (hlink : (Cond.methodLink own index y).before args s = true) (hstat : (Cond.static y).before args s = true) (hinit : (Cond.initialized y.cls).before args s = true)
    (hcode : (Cond.codeWith y bytes maxL ret hh).before args s = true) (hy : y.cls ≠ "java/lang/invoke/MethodHandle" ∧ y.cls ≠ "java/lang/invoke/VarHandle")
    {W9 : Nat} {Pre : Pt → Array Value → Prop} {Post : Pt → Array Value → Option Value → Pt → Prop} {PostX : Pt → Array Value → Addr → Pt → Prop} (hK : vx_Back l R p e below s args y 3 W9 Pre Post PostX)
    {g : JFrame} (hg : g.method = m) (hsize : g.locals.size = c.maxLocals) {argsL rest : List Value} (hlen : ∀ sig, parseMethodDescriptor y.desc = some sig → argsL.length = sig.parameters.length)
    (hstack : g.stack = argsL.reverse ++ rest) (hW : 2 * g.monitorRoom + (rest.map fun v => v.category).sum ≤ W9) (hdg : decode c.code g.pc = .ok (.invokestatic index, 3))
    (hpre : ∀ vm₁, s.WarmedH vm₁ → Pre ⟨T.setVm vm₁, locs, cells, slots⟩ argsL.toArray) :
    (∃ (v : Option Value) (vm₁ : Vm) (B : Pt), s.WarmedH vm₁ ∧ Stand p l e R s m args below meth c B.U B.locs B.cells B.slots ∧ Post ⟨T.setVm vm₁, locs, cells, slots⟩ argsL.toArray v B ∧
      ∀ target, Steps p.tables e below (B.U.setTop { g with pc := g.pc + 3, stack := v.toList ++ rest }) target → Steps p.tables e below (T.setTop g) target) ∨
    (∃ (q : Addr) (vm₁ : Vm) (B : Pt), s.WarmedH vm₁ ∧ Stand p l e R s m args below meth c B.U B.locs B.cells B.slots ∧ PostX ⟨T.setVm vm₁, locs, cells, slots⟩ argsL.toArray q B ∧
      Steps p.tables e below (T.setTop g) ((B.U.setTop { g with stack := rest }).pushFrame (.throwing q))) := by
  obtain ⟨mk, methM, cM, hnamed, hmethM, -, -, -, -, -, -, hsigM⟩ := Cond.codeWith_spec hcode
  have hstatic : methM.isStatic = true := Cond.static_spec hnamed hmethM hstat
  obtain ⟨kP, hkP, -⟩ := className_of_methodNamed hnamed
  have hinitP : kP.init = .initialized := Cond.initialized_spec (findClass_of_methodNamed hnamed) hkP hinit
  obtain ⟨vm₁, X₁, hstep₁⟩ := X.invokestatic hexec hown hlink hnamed hmethM hstatic hkP hinitP hy (g := g) hg (argsL := argsL) (rest := rest) (hlen _ hsigM) hstack hdg
  rcases hK m meth c ⟨T.setVm vm₁, locs, cells, slots⟩ { g with stack := rest } (.invokestatic index) mk argsL.toArray X₁ hg hsize hdg hW (X₁.named hnamed) (hpre vm₁ X₁.warmed) with ⟨v, B, X', hpost, hsteps⟩ | ⟨q, B, X', hpost, hsteps⟩
  · exact Or.inl ⟨v, vm₁, B, X₁.warmed, X', hpost, fun target h => hstep₁ _ fun acts => by rw [doInvoke_state]; exact hsteps.trans h⟩
  · exact Or.inr ⟨q, vm₁, B, X₁.warmed, X', hpost, hstep₁ _ fun acts => by rw [doInvoke_state]; exact hsteps⟩
theorem vx_callVW (X : Stand p l e R s m args below meth c T locs cells slots) (hexec : p.tables.exec = Jvm.exec) {own C : String} {index : Nat} {y : MethodName} {bytes : ByteArray} {maxL : Nat} {ret : Option FieldType} {hh : List (Nat × Nat × Nat × Nat)}
    (hown : s.vm.findClass own = some m.cls) (hlink : (Cond.methodLink own index y).before args s = true) (hinst : (Cond.instanceMethod y).before args s = true) (hsel : (Cond.selects C y y).before args s = true)
    (hcode : (Cond.codeWith y bytes maxL ret hh).before args s = true) (hy : y.cls ≠ "java/lang/invoke/MethodHandle" ∧ y.cls ≠ "java/lang/invoke/VarHandle")
    {W9 : Nat} {Pre : Pt → Array Value → Prop} {Post : Pt → Array Value → Option Value → Pt → Prop} (hK : Back l R p e below s args y 3 W9 Pre Post)
    {b : Addr} {cellB : Cell} (hcell : T.heap[b]? = some cellB) (hobj : cellB.vm.isStatics = false) (hcls : s.vm.findClass C = some cellB.cls)
    {g : JFrame} (hg : g.method = m) (hsize : g.locals.size = c.maxLocals) {argsL rest : List Value} (hlen : ∀ sig, parseMethodDescriptor y.desc = some sig → argsL.length = sig.parameters.length)
    (hstack : g.stack = argsL.reverse ++ .ref b :: rest) (hW : 2 * g.monitorRoom + (rest.map fun v => v.category).sum ≤ W9) (hdg : decode c.code g.pc = .ok (.invokevirtual index, 3))
    (hpre : ∀ vm₁, s.WarmedH vm₁ → Pre ⟨T.setVm vm₁, locs, cells, slots⟩ (Value.ref b :: argsL).toArray) :
    ∃ (v : Option Value) (vm₁ : Vm) (B : Pt), s.WarmedH vm₁ ∧ Stand p l e R s m args below meth c B.U B.locs B.cells B.slots ∧ Post ⟨T.setVm vm₁, locs, cells, slots⟩ (Value.ref b :: argsL).toArray v B ∧
      ∀ target, Steps p.tables e below (B.U.setTop { g with pc := g.pc + 3, stack := v.toList ++ rest }) target → Steps p.tables e below (T.setTop g) target := by
  obtain ⟨mk, methM, hnamed, hmethM, hstM, habM⟩ := Cond.instanceMethod_spec hinst
  obtain ⟨m8, methM', cM, hn8, hmethM', -, -, -, -, -, -, hsigM⟩ := Cond.codeWith_spec hcode
  cases Option.some.inj (hn8.symm.trans hnamed)
  cases hmethM.symm.trans hmethM'
  obtain ⟨c2, r2, m2, q1, q2, q3, q4, kP, hkP, hkPi⟩ := Cond.selects_spec hsel
  cases hcls.symm.trans q1
  cases (State.methodFound?_of_named hnamed hy).symm.trans q2
  cases hnamed.symm.trans q3
  have hselP : selectMethod e.platform s.vm cellB.cls mk = .method mk := by rw [Launch.admits_selectMethod X.admits]; exact q4
  obtain ⟨vm₁, X₁, hstep₁⟩ := X.invokevirtual hexec hown hlink hnamed hmethM hstM hkP hkPi hy (a := b) (cell := cellB) hcell
    (fun z h => by rw [h] at hobj; cases hobj) hselP hmethM habM hkP hkPi (g := g) hg (argsL := argsL) (rest := rest) (hlen _ hsigM) hstack hdg
  obtain ⟨v, B, X', hpost, hsteps⟩ := hK m meth c ⟨T.setVm vm₁, locs, cells, slots⟩ { g with stack := rest } (.invokevirtual index) mk (Value.ref b :: argsL).toArray X₁ hg hsize hdg hW (X₁.named hnamed) (hpre vm₁ X₁.warmed)
  exact ⟨v, vm₁, B, X₁.warmed, X', hpost, fun target h => hstep₁ _ fun acts => by rw [doInvoke_state]; exact hsteps.trans h⟩
abbrev vx_CVW (R : Room) (s : State) (args : Array Value) (own C : String) (index : Nat) (y : MethodName) (bytes : ByteArray) (maxL : Nat) (ret : Option FieldType) (hh : List (Nat × Nat × Nat × Nat)) (ws : List Cond) (rm : Room) (mc ms n : Nat) : Prop :=
  (rm.cells = mc ∧ rm.slots = ms ∧ rm.frames + 1 ≤ R.frames ∧ 8 + (maxL + 11) + rm.locals ≤ R.locals ∧ (∀ w ∈ ws, ∀ (a' : Array Value) (U : State), s.WarmedH U.vm → w.before a' U = true) ∧ Cond.codeWith y bytes maxL ret hh ∈ ws) ∧
  (Cond.codeWith y bytes maxL ret hh).before args s = true ∧ (Cond.initialized y.cls).before args s = true ∧ (y.cls ≠ "java/lang/invoke/MethodHandle" ∧ y.cls ≠ "java/lang/invoke/VarHandle") ∧
  (∀ sig, parseMethodDescriptor y.desc = some sig → n = sig.parameters.length) ∧ (Cond.methodLink own index y).before args s = true ∧ (Cond.instanceMethod y).before args s = true ∧ (Cond.selects C y y).before args s = true
theorem vx_cwVW {own C : String} {index maxL mc ms : Nat} {y : MethodName} {bytes : ByteArray} {ret : Option FieldType} {hh : List (Nat × Nat × Nat × Nat)} {Ts ws ws' : List Cond} {rm : Room} (n : Nat) (ht : ∀ w ∈ Ts, w.before args s = true) (hT : GoodIn Ts (wsV own index C y ws)) (hw : ws = Cond.codeWith y bytes maxL ret hh :: ws') (hrc : rm.cells = mc) (hrs : rm.slots = ms)
    (hd : y.cls = C ∧ y.cls ≠ "java/lang/invoke/MethodHandle" ∧ y.cls ≠ "java/lang/invoke/VarHandle" ∧ (parseMethodDescriptor y.desc).map (fun d => d.parameters.length) = some n) (hR : rm.frames + 1 ≤ R.frames ∧ 8 + (maxL + 11) + rm.locals ≤ R.locals) :
    vx_CVW R s args own C index y bytes maxL ret hh ws rm mc ms n := by
  obtain ⟨hC, hd⟩ := hd
  subst hC
  have ok : ∀ w ∈ wsV own index y.cls y ws, w.before args s = true := fun w h => ht w (hT w h).1
  have hG : GoodIn Ts ws := fun w h => hT w (by unfold wsV; exact List.mem_append_right _ h)
  have hc : Cond.codeWith y bytes maxL ret hh ∈ ws := by rw [hw]; exact List.mem_cons_self
  refine ⟨⟨hrc, hrs, hR.1, hR.2, pay_in ht hG, hc⟩, ht _ (hG _ hc).1, ok _ (by simp [wsV]), ⟨hd.1, hd.2.1⟩, fun sig h => ?_, ok _ (by simp [wsV]), ok _ (by simp [wsV]), ok _ (by simp [wsV])⟩
  have h2 := hd.2.2
  rw [h] at h2
  exact (Option.some.inj h2).symm
theorem vx_runVW {y : MethodName} {bytes cc : ByteArray} {maxL nL mc ms n index : Nat} {ret : Option FieldType} {hh : List (Nat × Nat × Nat × Nat)} {ws : List Cond} {rm : Room} {Pc : Array Value → State → Prop} {Qc : Array Value → State → Outcome → State → Prop} {free : Addr → Prop} {Ts : List Cond} {own C : String} {b : Addr} {As rest : List Value} {g : JFrame}
    (S : CallFix p m c cc nL s args Ts own) (hM : Met l y ws rm Pc Qc mc ms free) (cw : vx_CVW R s args own C index y bytes maxL ret hh ws rm mc ms n) (hp : PreV s H C b Pc As)
    (hg : g.method = m) (hn : As.length = n) (hsize : g.locals.size = nL) (hstack : g.stack = As.reverse ++ .ref b :: rest) (hW : 2 * g.monitorRoom + (rest.map fun v => v.category).sum ≤ 8) (hdg : decode cc g.pc = .ok (.invokevirtual index, 3)) (hf : cells + mc ≤ R.cells ∧ slots + ms ≤ R.slots) :
    va_Run p l e R s m args below meth c H locs cells slots mc ms g rest (Qc (Value.ref b :: As).toArray) free := by
  obtain ⟨⟨hrc, hrs, hfr, hlo, hws, hcw⟩, hcode, hini, hy, hlen, hl, hin, hse⟩ := cw
  have hK : Back l R p e below s args y 3 8 (PreOf R mc ms Pc) (PostOf Qc mc ms free) := va_backW (hh := hh) (bytes := bytes) (maxL := maxL) (ret := ret) hM hp.1 hrc hrs hfr hlo hws hcw (fun a' U hW => word_at hW (Or.inl (by first | rfl | simp [Cond.onTables, Cond.keeps, Cond.steady])) hini)
  obtain ⟨hx, hb, hml, ho, -⟩ := S
  obtain ⟨-, ⟨cellB, hcB, hoB, hclB⟩, hPc⟩ := hp
  intro T hT X
  obtain ⟨v, vm₁, ⟨U', l2, c2, s2⟩, hW₁, X', ⟨g', mk, t, L, e1, e2, hq, h1, hL, h2, h3⟩, st⟩ := vx_callVW X hx (C := C) (hh := hh) (bytes := bytes) (maxL := maxL) (ret := ret) ho hl hin hse hcode hy hK (by rw [hT]; exact hcB) hoB hclB hg (hsize.trans hml.symm) (argsL := As) (rest := rest) (fun sig h => hn.trans (hlen sig h)) hstack hW (by rw [hb]; exact hdg)
    (fun vm₁ hW₁ => ⟨hf.1, hf.2, hPc (T.setVm vm₁) hT hW₁⟩)
  dsimp only [Pt.U, Pt.locs, Pt.cells, Pt.slots] at X' e1 e2 h1 h2 h3 st
  subst h1; subst h2; subst h3
  exact ⟨v, (T.setVm vm₁).calling g' mk (Value.ref b :: As).toArray, t, U', L, hT, X', hL, e1, e2, hq, st⟩
section
variable {y : MethodName} {bytes cc : ByteArray} {maxL nL mc ms n index : Nat} {ret : Option FieldType} {ws : List Cond} {rm : Room} {Pc : Array Value → State → Prop} {Qc : Array Value → State → Outcome → State → Prop} {XC : String → State → State → Prop} {free : Addr → Prop} {Ts : List Cond} {own C : String} {b : Addr} {As rest : List Value} {g : JFrame}
theorem vx_runVX {hh : List (Nat × Nat × Nat × Nat)} (S : CallFix p m c cc nL s args Ts own) (hM : vx_Met l y ws rm Pc Qc XC mc ms free) (cw : vx_CVW R s args own C index y bytes maxL ret hh ws rm mc ms n) (hp : PreV s H C b Pc As)
    (hg : g.method = m) (hn : As.length = n) (hsize : g.locals.size = nL) (hstack : g.stack = As.reverse ++ .ref b :: rest) (hW : 2 * g.monitorRoom + (rest.map fun v => v.category).sum ≤ 8) (hdg : decode cc g.pc = .ok (.invokevirtual index, 3)) (hf : cells + mc ≤ R.cells ∧ slots + ms ≤ R.slots) :
    vx_Run p l e R s m args below meth c H locs cells slots mc ms g rest (Qc (Value.ref b :: As).toArray) XC free := by
  obtain ⟨⟨hrc, hrs, hfr, hlo, hws, hcw⟩, hcode, hini, hy, hlen, hl, hin, hse⟩ := cw
  have hK : vx_Back l R p e below s args y 3 8 (PreOf R mc ms Pc) (PostOf Qc mc ms free) (vx_Post XC mc ms free) := vx_backW (hh := hh) (bytes := bytes) (maxL := maxL) (ret := ret) hM hp.1 hrc hrs hfr hlo hws hcw (fun a' U hW => word_at hW (Or.inl (by first | rfl | simp [Cond.onTables, Cond.keeps, Cond.steady])) hini)
  obtain ⟨hx, hb, hml, ho, -⟩ := S
  obtain ⟨-, ⟨cellB, hcB, hoB, hclB⟩, hPc⟩ := hp
  intro T hT X
  rcases vx_callVX X hx (C := C) (hh := hh) (bytes := bytes) (maxL := maxL) (ret := ret) ho hl hin hse hcode hy hK (by rw [hT]; exact hcB) hoB hclB hg (hsize.trans hml.symm) (argsL := As) (rest := rest) (fun sig h => hn.trans (hlen sig h)) hstack hW (by rw [hb]; exact hdg)
    (fun vm₁ hW₁ => ⟨hf.1, hf.2, hPc (T.setVm vm₁) hT hW₁⟩) with ⟨v, vm₁, ⟨U', l2, c2, s2⟩, hW₁, X', ⟨g', mk, t, L, e1, e2, hq, h1, hL, h2, h3⟩, st⟩ | ⟨q, vm₁, ⟨U', l2, c2, s2⟩, hW₁, X', ⟨g', mk, t, L, E, ce, e1, e2, hq, hce, hcv, hcl, h1, hL, h2, h3⟩, st⟩
  · dsimp only [Pt.U, Pt.locs, Pt.cells, Pt.slots] at X' e1 e2 h1 h2 h3 st
    subst h1; subst h2; subst h3
    exact Or.inl ⟨v, (T.setVm vm₁).calling g' mk (Value.ref b :: As).toArray, t, U', L, hT, X', hL, e1, e2, hq, st⟩
  · dsimp only [Pt.U, Pt.locs, Pt.cells, Pt.slots] at X' e1 e2 h1 h2 h3 st hcl
    subst h1; subst h2; subst h3
    exact Or.inr ⟨q, (T.setVm vm₁).calling g' mk (Value.ref b :: As).toArray, t, U', L, E, ce, hT, X', hL, e1, e2, hq, hce, hcv, vx_cls hW₁ hcl, st⟩
theorem vx_runSX {hh : List (Nat × Nat × Nat × Nat)} (S : CallFix p m c cc nL s args Ts own) (hM : vx_Met l y ws rm Pc Qc XC mc ms free) (cw : vx_CSW R s args own index y bytes maxL ret hh ws rm mc ms n) (hp : PreS s H Pc As)
    (hg : g.method = m) (hn : As.length = n) (hsize : g.locals.size = nL) (hstack : g.stack = As.reverse ++ rest) (hW : 2 * g.monitorRoom + (rest.map fun v => v.category).sum ≤ 8) (hdg : decode cc g.pc = .ok (.invokestatic index, 3)) (hf : cells + mc ≤ R.cells ∧ slots + ms ≤ R.slots) :
    vx_Run p l e R s m args below meth c H locs cells slots mc ms g rest (Qc As.toArray) XC free := by
  obtain ⟨⟨hrc, hrs, hfr, hlo, hws, hcw⟩, hcode, hini, hy, hlen, hl, hstt⟩ := cw
  have hK : vx_Back l R p e below s args y 3 8 (PreOf R mc ms Pc) (PostOf Qc mc ms free) (vx_Post XC mc ms free) := vx_backW (hh := hh) (bytes := bytes) (maxL := maxL) (ret := ret) hM hp.1 hrc hrs hfr hlo hws hcw (fun a' U hW => word_at hW (Or.inl (by first | rfl | simp [Cond.onTables, Cond.keeps, Cond.steady])) hini)
  obtain ⟨hx, hb, hml, ho, -⟩ := S
  intro T hT X
  rcases vx_callSX X hx (hh := hh) (bytes := bytes) (maxL := maxL) (ret := ret) ho hl hstt hini hcode hy hK hg (hsize.trans hml.symm) (argsL := As) (rest := rest) (fun sig h => hn.trans (hlen sig h)) hstack hW (by rw [hb]; exact hdg)
    (fun vm₁ hW₁ => ⟨hf.1, hf.2, hp.2 (T.setVm vm₁) hT hW₁⟩) with ⟨v, vm₁, ⟨U', l2, c2, s2⟩, hW₁, X', ⟨g', mk, t, L, e1, e2, hq, h1, hL, h2, h3⟩, st⟩ | ⟨q, vm₁, ⟨U', l2, c2, s2⟩, hW₁, X', ⟨g', mk, t, L, E, ce, e1, e2, hq, hce, hcv, hcl, h1, hL, h2, h3⟩, st⟩
  · dsimp only [Pt.U, Pt.locs, Pt.cells, Pt.slots] at X' e1 e2 h1 h2 h3 st
    subst h1; subst h2; subst h3
    exact Or.inl ⟨v, (T.setVm vm₁).calling g' mk As.toArray, t, U', L, hT, X', hL, e1, e2, hq, st⟩
  · dsimp only [Pt.U, Pt.locs, Pt.cells, Pt.slots] at X' e1 e2 h1 h2 h3 st hcl
    subst h1; subst h2; subst h3
    exact Or.inr ⟨q, (T.setVm vm₁).calling g' mk As.toArray, t, U', L, E, ce, hT, X', hL, e1, e2, hq, hce, hcv, vx_cls hW₁ hcl, st⟩
end
end VXH
theorem vx_ofWH {l : Launch} {y : MethodName} {ws ws' : List Cond} {rm : Room} {Pc : Array Value → State → Prop} {Qc : Array Value → State → Outcome → State → Prop} {XC : String → State → State → Prop} {mc ms : Nat} {free : Addr → Prop} {cc : ByteArray} {maxL : Nat} {ret : Option FieldType} {hh : List (Nat × Nat × Nat × Nat)}
    (hy : plainName y.cls = true) (hw : ws = Cond.codeWith y cc maxL ret hh :: ws')
    (body : ∀ p e s m args below meth c s₁, BodyLoose p l y (headSpec ws rm) cc maxL ret e s m args below meth c s₁ → c.maxLocals = maxL → Pc args s →
      W p l e (headSpec ws rm).room s m args below meth c s.heap [] 0 0 (vx_MQ below Qc XC args s mc ms free) (entryFrame m args maxL)) : vx_Met l y ws rm Pc Qc XC mc ms free := by
  refine MetFree.of_bodyS (code := cc) (maxLocals := maxL) (ret := ret) hy ?_ ?_
  · intro args s m h hn
    obtain ⟨m9, meth, c, hn9, h1, h2, h3, h4, -, h5, h6, -⟩ := Cond.codeWith_spec (atoms_spec (ws := ws) h _ (by rw [hw]; exact List.mem_cons_self))
    cases hn.symm.trans hn9
    exact ⟨meth, c, h1, h2, h3, h4, h5, h6⟩
  · intro p e s m args below meth c s₁ B hml hP _
    have hh0 : s₁.heap = s.heap := by rw [B.state]; rfl
    obtain ⟨t, a1, o, b1, b2, b3⟩ := body p e s m args below meth c s₁ B hml hP s₁ hh0 (Stand.of_body B)
    exact ⟨t, o, a1, b1, b2, b3⟩
/-! ===== END ===== -/
/-! ===== BEGIN what the machine throws by itself, no traces kept ===== -/
section VXM
set_option maxHeartbeats 1000000 in
/-- the machine throws cls with the message text, no traces kept: from its note over the frame g to 'throwing' over the same frame (follows the proofs of Stand.vmThrowsMessage, Shelf/KitTracedVmS.lean, and Stand.throwsMessageColdBareV, StandMessageColdV.lean, without the step out of the frame) -/
theorem vx_vmAt {p : Program} {l : Launch} {e : Env} {R : Room} {s : State} {m₀ : MethodId} {args : Array Value} {below : List Frame} {meth : Method} {c : Code} {W : State} {locs : List Loc} {cells slots : Nat}
    (X : Stand p l e R s m₀ args below meth c W locs cells slots) (hexec : p.tables.exec = Jvm.exec) (htr : e.platform.stackTraces = false) {cls : String} {names : List String} {text : String}
    (hcls : Bundle.fit cls = true) (hnames : ∀ n ∈ names, Bundle.fit n = true) (hsoe : (cls == "java/lang/StackOverflowError") = false) (hoom : (cls == "java/lang/OutOfMemoryError") = false)
    (h : ∀ a ∈ Bundle.messageArmAtoms cls names, a.before args s = true)
    (hlocs : ∀ x ∈ locs, ∀ cell, s.heap[x.base]? = some cell → cell.vm.isStatics = false)
    (htext : (text == notModelled) = false) (hlimit : ¬ (stringBytes (stringToUtf16 text)).size > e.platform.arrayLengthLimit) (hheap : ¬ (stringBytes (stringToUtf16 text)).size * componentBytes .byte > e.platform.maxHeapBytes)
    {g : JFrame} (hg : g.method = m₀) (hsize : g.locals.size = c.maxLocals)
    (hRframes : names.length + 4 < R.frames) (hRlocals : 2 * g.monitorRoom + (g.stack.map fun v => v.category).sum + 10240 ≤ R.locals) (hshort : 13 * names.length + 55 ≤ 10240)
    (hRcells : cells + 3 ≤ R.cells) (hRslots : slots + ((stringBytes (stringToUtf16 text)).size + 4 + 6) ≤ R.slots) (hlocks : meth.locks = false) :
    ∃ (S : State) (q : Addr) (ce : Cell), (∀ target, Steps p.tables e below ((S.setTop g).pushFrame (.throwing q)) target → Steps p.tables e below ((W.setTop g).pushFrame (.throwNew cls (some text) none)) target) ∧
      Stand p l e R s m₀ args below meth c S locs (cells + 3) (slots + ((stringBytes (stringToUtf16 text)).size + 4 + 6)) ∧ S.heap[q]? = some ce ∧ s.vm.findClass cls = some ce.cls ∧ ce.vm = .none := by
  have howns : e.platform.frameOwnsMonitors = true := by rw [X.admits.platform]
  have hfin : e.platform.finalization = false := by rw [X.admits.platform]
  have hpl : e.platform.magicAccessors = ({} : Platform).magicAccessors := by rw [X.admits.platform]
  have a : ∀ x, x ∈ Bundle.messageArmAtoms cls names → x.holds args s none s [] = true := fun x hx => h x hx
  obtain ⟨T, Z0, L, -, Y⟩ := ThrowableC.of_atoms (args := args) howns hfin hpl (fun x hx => h x (by simp [Bundle.messageArmAtoms, hx]))
  obtain ⟨Z, M, LZ, LM, hnZ⟩ := Init0T.ofS_atoms (args := args) hpl L Y (fun x hx => h x (by simp [Bundle.messageArmAtoms, hx]))
  obtain ⟨P1, Ps, hlen, L1, hL, hP1m, hlink1, hlink⟩ := Bundle.chainS (args := args) hpl hnZ names cls hcls hnames (fun x hx => h x (by simp [Bundle.messageArmAtoms, hx]))
  obtain ⟨Zs, LZs, hn4, hfitv, hfitc⟩ := StringT.of_atoms (args := args) (fun x hx => h x (by simp [Bundle.messageArmAtoms, hx]))
  have hfound : s.vm.findClass cls = some P1.m.cls := findClass_of_methodNamed hP1m
  obtain ⟨c1, kX, hc1, hk, hord, -, -, hn6⟩ := Cond.instantiable_spec (a (.instantiable cls 6) (by simp [Bundle.messageArmAtoms]))
  cases Option.some.inj (hc1.symm.trans hfound)
  have hinit := Cond.initialized_spec hfound hk (a (.initialized cls) (by simp [Bundle.messageArmAtoms]))
  have hctor : kX.findMethod "<init>" "(Ljava/lang/String;)V" = some P1.m.idx := findMethod_of_methodNamed hP1m hk
  have hsel0 : selectMethod e.platform s.vm P1.m.cls T.fill0 = .method T.fill0 := by
    obtain ⟨c2, r2, m2, q1, q2, q3, q4, -⟩ := Cond.selects_spec (a (.selects cls Bundle.tFill0 Bundle.tFill0) (by simp [Bundle.messageArmAtoms]))
    cases Option.some.inj (q1.symm.trans hfound)
    cases Option.some.inj (q2.symm.trans (State.methodFound?_of_named Y.fill0 (by decide)))
    cases Option.some.inj (q3.symm.trans Y.fill0)
    rw [Launch.admits_selectMethod X.admits]; exact q4
  have hselF : selectMethod e.platform s.vm P1.m.cls T.fill = .method T.fill := by
    obtain ⟨c2, r2, m2, q1, q2, q3, q4, -⟩ := Cond.selects_spec (a (.selects cls Bundle.tFill Bundle.tFill) (by simp [Bundle.messageArmAtoms]))
    cases Option.some.inj (q1.symm.trans hfound)
    cases Option.some.inj (q2.symm.trans (State.methodFound?_of_named Y.fill (by decide)))
    cases Option.some.inj (q3.symm.trans Y.fill)
    rw [Launch.admits_selectMethod X.admits]; exact q4
  obtain ⟨cellS0, hcS0, hiss⟩ := Y.statics
  obtain ⟨u0, hu0⟩ := Cond.staticRefV Y.unassigned L.unassignedStatic L.statics hcS0 hiss (a (.isRef (.static Bundle.tN "UNASSIGNED_STACK" Bundle.steD)) (by simp [Bundle.messageArmAtoms]))
  obtain ⟨sen, hsen⟩ := Cond.staticRefV Y.sentinel L.sentinelStatic L.statics hcS0 hiss (a (.isRef (.static Bundle.tN "SUPPRESSED_SENTINEL" Bundle.listD)) (by simp [Bundle.messageArmAtoms]))
  obtain ⟨ci198, i198, fB, hk198, hg198, ha198, hsB, -, hnB, htB, hffB⟩ := Cond.ownField (t := .object "java/lang/Object") Y.found L.cls (by decide +kernel) (a (.fieldLink Bundle.tN 198 Bundle.tN "backtrace" "Ljava/lang/Object;") (by simp [Bundle.messageArmAtoms])) (a (.lays Bundle.tN Bundle.tN "backtrace" "Ljava/lang/Object;") (by simp [Bundle.messageArmAtoms])) e.platform hpl
  obtain ⟨cellS, hcS', heS, -, hkeep⟩ := X.same.2.2.2.2.2 T.aS cellS0 hcS0
  have hcellS : W.heap[T.aS]? = some cellS := hcS'
  have hout' : ∀ i, (⟨T.aS, i⟩ : Loc) ∉ locs := fun i hmem => by
    have := hlocs _ hmem cellS0 hcS0
    rw [hiss] at this; cases this
  have hknownS : cellS.vm ≠ .unknown := by
    rw [heS]; intro hu
    rw [show cellS0.vm = .unknown from hu] at hiss
    cases hiss
  have hvU : cellS.slots[T.fUnassigned.slot]? = some u0.v := by rw [hkeep _ (hout' _)]; exact hu0
  have hvSen : cellS.slots[T.fSentinel.slot]? = some sen.v := by rw [hkeep _ (hout' _)]; exact hsen
  obtain ⟨iM, hffM⟩ := Y.msg
  obtain ⟨tyC, dC, hdC, hdnC⟩ := Cond.laysAt hfound hk Y.cause (a (.lays cls Bundle.tN "cause" "Ljava/lang/Throwable;") (by simp [Bundle.messageArmAtoms]))
  obtain ⟨tyS, dS, hdS, hdnS⟩ := Cond.laysAt hfound hk Y.stack (a (.lays cls Bundle.tN "stackTrace" Bundle.steD) (by simp [Bundle.messageArmAtoms]))
  obtain ⟨tyP, dP, hdP, hdnP⟩ := Cond.laysAt hfound hk Y.supp (a (.lays cls Bundle.tN "suppressedExceptions" Bundle.listD) (by simp [Bundle.messageArmAtoms]))
  obtain ⟨tyM, dM, hdM, hdnM⟩ := Cond.laysAt hfound hk hffM (a (.lays cls Bundle.tN "detailMessage" "Ljava/lang/String;") (by simp [Bundle.messageArmAtoms]))
  obtain ⟨tyB, dB, hdB, hdnB⟩ := Cond.laysAt hfound hk hffB (a (.lays cls Bundle.tN "backtrace" "Ljava/lang/Object;") (by simp [Bundle.messageArmAtoms]))
  have bC := Cond.laysApart hdB hdC hdnB hdnC (by rw [hnB, Y.causeName]; decide)
  have bS := Cond.laysApart hdB hdS hdnB hdnS (by rw [hnB, Y.stackName]; decide)
  have bP := Cond.laysApart hdB hdP hdnB hdnP (by rw [hnB, Y.suppName]; decide)
  have hbk : ((preparedCellV T.toThrowableT (freshCell P1.m.cls kX) (W.heap.size + 2) u0 sen).withEntry W.cur).slots[fB.slot]? = some .null := by
    have := fresh_default (c := P1.m.cls) tyB
    rw [htB] at this
    simpa [preparedCellV, Cell.setSlot, Cell.withEntry, Array.getElem?_setIfInBounds, bC, bS, bP, bC.symm, bS.symm, bP.symm, defaultValue] using this
  have tkC := Takes.of_laid (v := .ref (W.heap.size + 2)) hk hord tyC (by rw [Y.causeType]; rfl)
  have tkS := Takes.of_laid (v := u0.v) hk hord tyS (by rw [Y.stackType]; exact fits_refV_array _ u0)
  have tkP := Takes.of_laid (v := sen.v) hk hord tyP (by rw [Y.suppType]; exact fits_refV_object _ sen)
  have tkM := Takes.of_laid (v := .ref (W.heap.size + 1)) hk hord tyM (by rw [Y.msgType]; rfl)
  have hskip : SkipFacts T e.platform s (fun u => u) u0 ((preparedCellV T.toThrowableT (freshCell P1.m.cls kX) (W.heap.size + 2) u0 sen).withEntry W.cur) := ⟨{ ci198 := ci198, i198 := i198, fBack := fB }, ⟨hk198, hg198, ha198, hsB⟩, hbk, fun _ _ => rfl⟩
  have h0 : At W g.method c below := by rw [hg]; exact X.here
  obtain ⟨hbeyond, hfreeW⟩ := X.vmMayThrow hsize (.throwNew cls (some text) none) (fun f hf => by cases hf) rfl hRlocals
  have hfr' : W.frames.length + Ps.length + 4 < (e.platform.stackLimits W.me).1 := by have := X.framesAbove hRframes; omega
  have hwd' : (stackUse (.java g :: W.frames.tail)).2 + 13 * Ps.length + 55 ≤ (e.platform.stackLimits W.me).2 := by have := X.stackAbove hsize (K := 13 * Ps.length + 55) (by omega); omega
  have hslots : W.slotsUsed + (stringBytes (stringToUtf16 text)).size + Zs.kS.instanceTypes.size + kX.instanceTypes.size ≤ e.platform.maxSlots := by
    have := X.slotsAbove hRslots
    rw [hn4, hn6]
    omega
  obtain ⟨vm', hW', st⟩ := Steps.vmThrowsMessageColdByV p (s₀ := s) (S := W) (g := g) h0 hexec T L Z LZ M LM X.warmed (t := W.cur) rfl Zs LZs P1 L1 Ps hL hlink1 hlink hsoe hoom hfound hk hinit hord hctor
    (Launch.admits_hotImplicitExceptions X.admits) hbeyond hfreeW htext hlimit hheap (X.cellsAbove hRcells) hslots (hfitv _) (hfitc _)
    (Nn := fun u => u) heapOnly_id (fun _ _ => rfl) (fun _ => rfl) (fun u x y => setCell_twice _ _ _ _) (fun _ => Nat.le_refl _) (cN := ((preparedCellV T.toThrowableT (freshCell P1.m.cls kX) (W.heap.size + 2) u0 sen).withEntry W.cur))
    hsel0 hcellS hknownS hvU tkS (fun _ hu => hu) (fun _ hu => hu) rfl rfl rfl (by simp [preparedCellV, Cell.setSlot, Cell.withEntry]) hskip (fun _ _ hA hW _ hroom _ hrest => L.nativeOff p htr hA hW hroom hrest) hselF hvSen tkC tkP tkM Y.objLocals rfl hfr' hwd'
  rw [plainBareV_eq T.toThrowableT (W.heap.size + 2) u0 sen (.ref (W.heap.size + 1)) W.cur rfl rfl] at st
  obtain ⟨-, -, w3, w4, -, -, -⟩ := withThrown_facts e.platform W Zs text P1.m.cls kX
  have X3 := ((X.pushed (bytesOf Zs.cB (stringToUtf16 text))).pushed (stringAt Zs.cS Zs.kS Zs.fv Zs.fc (stringToUtf16 text) W.heap.size)).pushed (freshCell P1.m.cls kX)
  rw [← withString_eq] at X3
  have X4 := X3.noted hW'
  have ha : (W.heap.size + 2) < ((withThrown W Zs text P1.m.cls kX).setVm vm').heap.size := by show _ < (withThrown W Zs text P1.m.cls kX).heap.size; rw [w3]; omega
  have hcell : ((withThrown W Zs text P1.m.cls kX).setVm vm').heap[(W.heap.size + 2)]? = some (freshCell P1.m.cls kX) := w4
  have X5 := ((((X4.stored hcell T.fCause.slot (.ref (W.heap.size + 2))).storedAgain ha T.fStack.slot u0.v).storedAgain ha T.fSupp.slot sen.v).storedAgain ha T.fStack.slot u0.v).storedAgain ha T.fMsg.slot (.ref (W.heap.size + 1))
  obtain ⟨g₁, hfrM⟩ := X5.frames_eq
  have hU : ((((withThrown W Zs text P1.m.cls kX).setVm vm').setCell (W.heap.size + 2) (plainBareV T.toThrowableT (freshCell P1.m.cls kX) (W.heap.size + 2) u0 sen (.ref (W.heap.size + 1)))).setTop g).pushFrame (.throwing (W.heap.size + 2)) = (((withThrown W Zs text P1.m.cls kX).setVm vm').setCell (W.heap.size + 2) (plainBareV T.toThrowableT (freshCell P1.m.cls kX) (W.heap.size + 2) u0 sen (.ref (W.heap.size + 1)))).setFrames (.throwing (W.heap.size + 2) :: .java g :: below) := by
    rw [State.pushFrame, State.frames_setTop _ hfrM, State.setTop_of_frames _ hfrM, State.setFrames_setFrames]
  have b1 : (bytesOf Zs.cB (stringToUtf16 text)).slots.size = (stringBytes (stringToUtf16 text)).size := by
    rw [(Cell.writeAll_facts _ _).2.2]; simp [bytes0]
  have b2 : (stringAt Zs.cS Zs.kS Zs.fv Zs.fc (stringToUtf16 text) W.heap.size).slots.size = 4 := by simp [string0, Cell.setSlot, hn4]
  have b3 : (freshCell P1.m.cls kX).slots.size = 6 := by simp [hn6]
  rw [b1, b2, b3] at X5
  have e9 : slots + (stringBytes (stringToUtf16 text)).size + 4 + 6 = slots + ((stringBytes (stringToUtf16 text)).size + 4 + 6) := by omega
  rw [e9] at X5
  simp only [List.append_assoc, List.cons_append, List.nil_append] at X5
  refine ⟨((withThrown W Zs text P1.m.cls kX).setVm vm').setCell (W.heap.size + 2) (plainBareV T.toThrowableT (freshCell P1.m.cls kX) (W.heap.size + 2) u0 sen (.ref (W.heap.size + 1))), W.heap.size + 2, _, fun target ht => st _ (by rw [X.tail, ← hU]; exact ht),
    X5.forget (fun y hy => ?_), heapAt_setCell_self _ ha, hfound, rfl⟩
  simp only [List.mem_cons, List.not_mem_nil, or_false] at hy
  have hge : s.heap.size ≤ W.heap.size := X.same.2.1
  rcases hy with rfl | rfl | rfl | rfl | rfl <;> exact Nat.le_trans hge (Nat.le_add_right _ 2)
set_option maxHeartbeats 1000000 in
/-- the machine throws NullPointerException, no traces kept: from its note over the frame g to 'throwing' over the same frame (follows the proof of Stand.vmThrowsNpe, Shelf42/KT2.lean; throwsNpeColdBareVAt, Shelf42/NT91.lean, called) -/
theorem vx_npeAt {p : Program} {l : Launch} {e : Env} {R : Room} {s : State} {m₀ : MethodId} {args : Array Value} {below : List Frame} {meth : Method} {c : Code} {W : State} {locs : List Loc} {cells slots : Nat}
    (X : Stand p l e R s m₀ args below meth c W locs cells slots) (hexec : p.tables.exec = Jvm.exec) (htr : e.platform.stackTraces = false) {n : Nat}
    (h : ∀ a ∈ Bundle.npeArmAtoms n, a.before args s = true)
    (hlocs : ∀ x ∈ locs, ∀ cell, s.heap[x.base]? = some cell → cell.vm.isStatics = false)
    {g : JFrame} (hg : g.method = m₀) (hsize : g.locals.size = c.maxLocals)
    (hRframes : 7 < R.frames) (hRlocals : 2 * g.monitorRoom + (g.stack.map fun v => v.category).sum + 10240 ≤ R.locals)
    (hRcells : cells + 1 ≤ R.cells) (hRslots : slots + n ≤ R.slots) (hlocks : meth.locks = false) :
    ∃ (S : State) (q : Addr) (ce : Cell), (∀ target, Steps p.tables e below ((S.setTop g).pushFrame (.throwing q)) target → Steps p.tables e below ((W.setTop g).pushFrame (.throwNew "java/lang/NullPointerException" none none)) target) ∧
      Stand p l e R s m₀ args below meth c S locs (cells + 1) (slots + n) ∧ S.heap[q]? = some ce ∧ s.vm.findClass "java/lang/NullPointerException" = some ce.cls ∧ ce.vm = .none := by
  have howns : e.platform.frameOwnsMonitors = true := by rw [X.admits.platform]
  have hfin : e.platform.finalization = false := by rw [X.admits.platform]
  have hpl : e.platform.magicAccessors = ({} : Platform).magicAccessors := by rw [X.admits.platform]
  have hpl2 : e.platform.arrayCloneIsPublic = true := by rw [X.admits.platform]
  have a' : ∀ x, x ∈ Bundle.npeArmAtoms n → x.holds args s none s [] = true := fun x hx => h x hx
  obtain ⟨T, Z, L, LZ, Y⟩ := ThrowableC.of_atoms (args := args) howns hfin hpl (fun x hx => h x (by simp [Bundle.npeArmAtoms, hx]))
  obtain ⟨N, LN, hcN, hnNF, hordN, hffS⟩ := NpeC.of_atoms (args := args) hpl hpl2 L Y (fun x hx => h x (by simp [Bundle.npeArmAtoms, hx]))
  obtain ⟨P1, L1, hP1m, hP1s⟩ := PassC.of_atoms (args := args) (s := s) hpl (X := Bundle.nN) (Y := Bundle.rN) (by decide) (by decide) LibCode.NullPointerException.Init0.at_0 LibCode.NullPointerException.Init0.at_1 LibCode.NullPointerException.Init0.at_4 (fun x hx => h x (by simp [Bundle.npeArmAtoms, hx]))
  obtain ⟨PR, LR, hPRm, hPRs⟩ := PassC.of_atoms (args := args) (s := s) hpl (X := Bundle.rN) (Y := Bundle.eN) (by decide) (by decide) LibCode.RuntimeException.Init0.at_0 LibCode.RuntimeException.Init0.at_1 LibCode.RuntimeException.Init0.at_4 (fun x hx => h x (by simp [Bundle.npeArmAtoms, hx]))
  obtain ⟨PE, LEx, hPEm, hPEs⟩ := PassC.of_atoms (args := args) (s := s) hpl (X := Bundle.eN) (Y := Bundle.tN) (by decide) (by decide) LibCode.Exception.Init0.at_0 LibCode.Exception.Init0.at_1 LibCode.Exception.Init0.at_4 (fun x hx => h x (by simp [Bundle.npeArmAtoms, hx]))
  have hfound : s.vm.findClass Bundle.nN = some P1.m.cls := findClass_of_methodNamed hP1m
  have ecls : N.cN = P1.m.cls := Option.some.inj (hcN.symm.trans hfound)
  have hk : s.vm.classes[P1.m.cls]? = some N.kN := by rw [← ecls]; exact LN.cls
  have hinit := Cond.initialized_spec hfound hk (a' (.initialized Bundle.nN) (by simp [Bundle.npeArmAtoms]))
  have hctor : N.kN.findMethod "<init>" "()V" = some P1.m.idx := findMethod_of_methodNamed hP1m hk
  obtain ⟨c1, k1, hc1, hk1, -, -, -, hn⟩ := Cond.instantiable_spec (a' (.instantiable Bundle.nN n) (by simp [Bundle.npeArmAtoms]))
  cases Option.some.inj (hc1.symm.trans hfound)
  cases Option.some.inj (hk1.symm.trans hk)
  have hfsz : (freshCell P1.m.cls N.kN).slots.size = n := by simp [hn]
  have hlink1 : P1.sup = PR.m := Option.some.inj (hP1s.symm.trans hPRm)
  have hlinkR : PR.sup = PE.m := Option.some.inj (hPRs.symm.trans hPEm)
  have hlinkE : PE.sup = Z.m T.toThrowableT := Option.some.inj (hPEs.symm.trans Y.init0)
  have hLs : ∀ P, P ∈ [PR, PE] → P.Links0 e.platform s := fun P hP => by
    simp only [List.mem_cons, List.not_mem_nil, or_false] at hP
    rcases hP with rfl | rfl
    · exact LR
    · exact LEx
  have hsel0 : selectMethod e.platform s.vm P1.m.cls T.fill0 = .method T.fill0 := by
    obtain ⟨c2, r2, m2, q1, q2, q3, q4, -⟩ := Cond.selects_spec (a' (.selects Bundle.nN Bundle.tFill0 Bundle.tFill0) (by simp [Bundle.npeArmAtoms]))
    cases Option.some.inj (q1.symm.trans hfound)
    cases Option.some.inj (q2.symm.trans (State.methodFound?_of_named Y.fill0 (by decide)))
    cases Option.some.inj (q3.symm.trans Y.fill0)
    rw [Launch.admits_selectMethod X.admits]; exact q4
  have hselF : selectMethod e.platform s.vm P1.m.cls T.fill = .method N.fill := by
    obtain ⟨c2, r2, m2, q1, q2, q3, q4, -⟩ := Cond.selects_spec (a' (.selects Bundle.nN Bundle.tFill Bundle.nFill) (by simp [Bundle.npeArmAtoms]))
    cases Option.some.inj (q1.symm.trans hfound)
    cases Option.some.inj (q2.symm.trans (State.methodFound?_of_named Y.fill (by decide)))
    cases Option.some.inj (q3.symm.trans hnNF)
    rw [Launch.admits_selectMethod X.admits]; exact q4
  obtain ⟨cellS0, hcS0, hiss⟩ := Y.statics
  obtain ⟨u0, hu0⟩ := Cond.staticRefV Y.unassigned L.unassignedStatic L.statics hcS0 hiss (a' (.isRef (.static Bundle.tN "UNASSIGNED_STACK" Bundle.steD)) (by simp [Bundle.npeArmAtoms]))
  obtain ⟨sen, hsen⟩ := Cond.staticRefV Y.sentinel L.sentinelStatic L.statics hcS0 hiss (a' (.isRef (.static Bundle.tN "SUPPRESSED_SENTINEL" Bundle.listD)) (by simp [Bundle.npeArmAtoms]))
  obtain ⟨ci198, i198, fB, hk198, hg198, ha198, hsB, -, hnB, htB, hffB⟩ := Cond.ownField (t := .object "java/lang/Object") Y.found L.cls (by decide +kernel) (a' (.fieldLink Bundle.tN 198 Bundle.tN "backtrace" Bundle.objD) (by simp [Bundle.npeArmAtoms])) (a' (.lays Bundle.tN Bundle.tN "backtrace" Bundle.objD) (by simp [Bundle.npeArmAtoms])) e.platform hpl
  obtain ⟨cellS, hcS', heS, -, hkeep⟩ := X.same.2.2.2.2.2 T.aS cellS0 hcS0
  have hcellS : W.heap[T.aS]? = some cellS := hcS'
  have hout' : ∀ i, (⟨T.aS, i⟩ : Loc) ∉ locs := fun i hmem => by
    have := hlocs _ hmem cellS0 hcS0
    rw [hiss] at this; cases this
  have hknownS : cellS.vm ≠ .unknown := by
    rw [heS]; intro hu
    rw [show cellS0.vm = .unknown from hu] at hiss
    cases hiss
  have hvU : cellS.slots[T.fUnassigned.slot]? = some u0.v := by rw [hkeep _ (hout' _)]; exact hu0
  have hvSen : cellS.slots[T.fSentinel.slot]? = some sen.v := by rw [hkeep _ (hout' _)]; exact hsen
  obtain ⟨tyC, dC, hdC, hdnC⟩ := Cond.laysAt hfound hk Y.cause (a' (.lays Bundle.nN Bundle.tN "cause" "Ljava/lang/Throwable;") (by simp [Bundle.npeArmAtoms]))
  obtain ⟨tyS, dS, hdS, hdnS⟩ := Cond.laysAt hfound hk Y.stack (a' (.lays Bundle.nN Bundle.tN "stackTrace" Bundle.steD) (by simp [Bundle.npeArmAtoms]))
  obtain ⟨tyP, dP, hdP, hdnP⟩ := Cond.laysAt hfound hk Y.supp (a' (.lays Bundle.nN Bundle.tN "suppressedExceptions" Bundle.listD) (by simp [Bundle.npeArmAtoms]))
  obtain ⟨tyX, dX, hdX, hdnX⟩ := Cond.laysAt hfound hk hffS (a' (.lays Bundle.nN Bundle.nN "extendedMessageState" "I") (by simp [Bundle.npeArmAtoms, Bundle.npeAtoms]))
  obtain ⟨hnX, htX⟩ := State.fieldFound?_type hffS (t := .int) (by decide +kernel)
  have xC := Cond.laysApart hdC hdX hdnC hdnX (by rw [hnX, Y.causeName]; decide)
  have xS := Cond.laysApart hdS hdX hdnS hdnX (by rw [hnX, Y.stackName]; decide)
  have xP := Cond.laysApart hdP hdX hdnP hdnX (by rw [hnX, Y.suppName]; decide)
  have hv0 : (freshCell P1.m.cls N.kN).slots[N.fState.slot]? = some (.int 0) := by
    have := fresh_default (c := P1.m.cls) tyX
    rw [htX] at this; exact this
  obtain ⟨tyB, dB, hdB, hdnB⟩ := Cond.laysAt hfound hk hffB (a' (.lays Bundle.nN Bundle.tN "backtrace" Bundle.objD) (by simp [Bundle.npeArmAtoms]))
  have bC := Cond.laysApart hdB hdC hdnB hdnC (by rw [hnB, Y.causeName]; decide)
  have bS := Cond.laysApart hdB hdS hdnB hdnS (by rw [hnB, Y.stackName]; decide)
  have bP := Cond.laysApart hdB hdP hdnB hdnP (by rw [hnB, Y.suppName]; decide)
  have bX := Cond.laysApart hdB hdX hdnB hdnX (by rw [hnB, hnX]; decide)
  have hbk : ((npeCell N.toNpeT (preparedCellV T.toThrowableT (freshCell P1.m.cls N.kN) W.heap.size u0 sen) W.cur).withEntry W.cur).slots[fB.slot]? = some .null := by
    have := fresh_default (c := P1.m.cls) tyB
    rw [htB] at this
    simpa [npeCell, preparedCellV, Cell.setSlot, Cell.withEntry, Array.getElem?_setIfInBounds, bC, bS, bP, bX, bC.symm, bS.symm, bP.symm, bX.symm, defaultValue] using this
  have tkC := Takes.of_laid (v := .ref W.heap.size) hk hordN tyC (by rw [Y.causeType]; rfl)
  have tkS := Takes.of_laid (v := u0.v) hk hordN tyS (by rw [Y.stackType]; exact fits_refV_array _ u0)
  have tkP := Takes.of_laid (v := sen.v) hk hordN tyP (by rw [Y.suppType]; exact fits_refV_object _ sen)
  have tkX := Takes.of_laid (v := .int 1) hk hordN tyX (by rw [htX]; rfl)
  have hskip : SkipFacts T e.platform s (fun u => u) u0 ((npeCell N.toNpeT (preparedCellV T.toThrowableT (freshCell P1.m.cls N.kN) W.heap.size u0 sen) W.cur).withEntry W.cur) := ⟨{ ci198 := ci198, i198 := i198, fBack := fB }, ⟨hk198, hg198, ha198, hsB⟩, hbk, fun _ _ => rfl⟩
  obtain ⟨vm', X3, st, -⟩ := X.throwsNpeColdBareVAt hexec hg hsize T L Z LZ N LN P1 L1 [PR, PE] hLs hlink1 ⟨hlinkR, hlinkE, trivial⟩ hfound hk hinit hordN hctor hsel0 hselF hcellS hknownS hvU hvSen
    hv0 xC xS xP tkC tkS tkP tkX Y.objLocals hskip (fun _ _ hA hW _ hroom _ hrest => L.nativeOff p htr hA hW hroom hrest) (by simpa using hRframes) hRlocals (by simp) hRcells (by rw [hn]; exact hRslots)
  have hlt : W.heap.size < ((W.pushCell (freshCell P1.m.cls N.kN)).setVm vm').heap.size := by
    show W.heap.size < (W.pushCell (freshCell P1.m.cls N.kN)).heap.size
    rw [State.heap_size_pushCell]; omega
  rw [hfsz] at X3
  obtain ⟨g₁, hfrM⟩ := X3.frames_eq
  have hU : ((((W.pushCell (freshCell P1.m.cls N.kN)).setVm vm').setCell W.heap.size (npeBareV T.toThrowableT N.toNpeT (freshCell P1.m.cls N.kN) W.heap.size u0 sen)).setTop g).pushFrame (.throwing W.heap.size) = (((W.pushCell (freshCell P1.m.cls N.kN)).setVm vm').setCell W.heap.size (npeBareV T.toThrowableT N.toNpeT (freshCell P1.m.cls N.kN) W.heap.size u0 sen)).setFrames (.throwing W.heap.size :: .java g :: below) := by
    rw [State.pushFrame, State.frames_setTop _ hfrM, State.setTop_of_frames _ hfrM, State.setFrames_setFrames]
  refine ⟨_, W.heap.size, _, fun target ht => st.trans (by rw [← hU]; exact ht), X3.forget (fun y hy => ?_), heapAt_setCell_self _ hlt, hfound, rfl⟩
  simp only [List.mem_cons, List.not_mem_nil, or_false] at hy
  have hge : s.heap.size ≤ W.heap.size := X.same.2.1
  rcases hy with rfl | rfl | rfl | rfl | rfl <;> exact hge
/-- the words of a machine's NullPointerException, but the four that speak of the heap -/
def vx_atN (n : Nat) : List Cond := (Bundle.npeArmAtoms n).filter vx_no
/-- the words of a machine's throw with a message, but the four that speak of the heap -/
def vx_atM (X : String) (names : List String) : List Cond := (Bundle.messageArmAtoms X names).filter vx_no
section
variable {p : Program} {l : Launch} {e : Env} {R : Room} {s : State} {m : MethodId} {args : Array Value} {below : List Frame} {meth : Method} {c : Code} {H : Heap} {locs : List Loc} {cells slots : Nat}
/-- a frame seen from a rebased start, seen from the first start again -/
theorem vx_back9 {T S : State} {R' : Room} {k n : Nat} (X : Stand p l e R s m args below meth c T locs cells slots) (Y : Stand p l e R' ((T.setVm s.vm).setFrames (.invoking m args :: below)) m args below meth c T [] 0 0) (Z : Stand p l e R' ((T.setVm s.vm).setFrames (.invoking m args :: below)) m args below meth c S [] k n) :
    Stand p l e R s m args below meth c S locs (cells + k) (slots + n) := by
  have hW0 : s.WarmedH ((T.setVm s.vm).setFrames (.invoking m args :: below)).vm := State.WarmedH.refl s
  refine { admits := X.admits, cas := X.cas, clock := X.clock, frames := X.frames, room := X.room, hears := X.hears, method := X.method, code := X.code, here := Z.here, tail := Z.tail, warmed := State.WarmedH.trans hW0 Z.warmed, limits := Z.limits.trans (Y.limits.symm.trans X.limits), bytes := Z.bytes.trans (Y.bytes.symm.trans X.bytes), same := ?_ }
  obtain ⟨e1, e2⟩ := Z.same
  rw [State.setFrames_setFrames] at e1
  have h2 : (T.setVm s.vm).sameButNew (S.setVm s.vm) [] k n := ⟨e1, e2⟩
  have h3 := X.same.trans h2
  rw [List.append_nil] at h3
  exact h3
/-- from the machine's note that E is thrown here with this text -/
def vx_Note (p : Program) (l : Launch) (e : Env) (R : Room) (s : State) (m : MethodId) (args : Array Value) (below : List Frame) (meth : Method) (c : Code) (H : Heap) (locs : List Loc) (cells slots : Nat) (Q : State → Prop) (g : JFrame) (E text : String) : Prop :=
  ∀ T : State, T.heap = H → Stand p l e R s m args below meth c T locs cells slots → ∃ t, Steps p.tables e below ((T.setTop g).pushFrame (.throwNew E (some text) none)) t ∧ Q t
theorem vx_vm {pc : Nat} {ls : Array Slot} {rest : List Value} {Q : State → Prop} (hexec : p.tables.exec = Jvm.exec) (hl : l.stackTraces = false) {cls text : String} {names : List String} {nb : Nat} {A : Nat → Prop}
    (hcls : Bundle.fit cls = true) (hnames : ∀ n ∈ names, Bundle.fit n = true) (hsoe : (cls == "java/lang/StackOverflowError") = false) (hoom : (cls == "java/lang/OutOfMemoryError") = false)
    (hat : ∀ w ∈ vx_atM cls names, w.before args s = true) (hgood : ∀ w ∈ vx_atM cls names, vx_ot w = true)
    (hU : vx_Zq Bundle.tN "UNASSIGNED_STACK" Bundle.steD A s s.heap) (hN : vx_Zq Bundle.tN "SUPPRESSED_SENTINEL" Bundle.listD A s s.heap) (hS : va_S A s.heap H locs) (hsize : ls.size = c.maxLocals)
    (htext : (text == notModelled) = false) (hnb : (stringBytes (stringToUtf16 text)).size ≤ nb) (hnb1 : nb ≤ 1000)
    (hRframes : names.length + 4 < R.frames) (hRlocals : (rest.map fun v => v.category).sum + 10240 ≤ R.locals) (hshort : 13 * names.length + 55 ≤ 10240) (hRcells : cells + 3 ≤ R.cells) (hRslots : slots + (nb + 10) ≤ R.slots) (hlocks : meth.locks = false)
    (k : ∀ (H1 : Heap) (q9 : Addr) (ce : Cell), H.size ≤ H1.size → (∀ q : Nat, q < H.size → H1[q]? = H[q]?) → va_S A s.heap H1 locs → H1[q9]? = some ce → ce.vm = .none → s.vm.findClass cls = some ce.cls → vx_W p l e R s m args below meth c H1 locs (cells + 3) (slots + (nb + 10)) Q (F0 m pc ls rest) q9) :
    vx_Note p l e R s m args below meth c H locs cells slots Q (F0 m pc ls rest) cls text := by
  intro T hT X
  have htr : e.platform.stackTraces = false := (show e.platform.stackTraces = l.stackTraces by rw [X.admits.platform]).trans hl
  have Y := vx_rebase X (R' := { frames := R.frames, locals := R.locals, cells := 3, slots := nb + 10 }) (Nat.le_refl _) (Nat.le_refl _) hRcells hRslots
  have hhp : ((T.setVm s.vm).setFrames (.invoking m args :: below)).heap = H := hT
  have hW0 : s.WarmedH ((T.setVm s.vm).setFrames (.invoking m args :: below)).vm := State.WarmedH.refl s
  have hat' : ∀ w ∈ vx_atM cls names, w.before args ((T.setVm s.vm).setFrames (.invoking m args :: below)) = true := fun w hw => vx_ot_at hW0 rfl (hgood w hw) (hat w hw)
  have hU' : vx_Zq Bundle.tN "UNASSIGNED_STACK" Bundle.steD A ((T.setVm s.vm).setFrames (.invoking m args :: below)) ((T.setVm s.vm).setFrames (.invoking m args :: below)).heap := by rw [hhp]; exact vx_Zq.moved hW0.alike (hU.kept hS.2.1)
  have hN' : vx_Zq Bundle.tN "SUPPRESSED_SENTINEL" Bundle.listD A ((T.setVm s.vm).setFrames (.invoking m args :: below)) ((T.setVm s.vm).setFrames (.invoking m args :: below)).heap := by rw [hhp]; exact vx_Zq.moved hW0.alike (hN.kept hS.2.1)
  obtain ⟨S, q, ce, st, Z, hce, hcl', hv⟩ := vx_vmAt Y hexec htr (cls := cls) (names := names) (text := text) hcls hnames hsoe hoom (vx_own hat' (vx_isRefq hU'.1) (vx_isRefq hN'.1) hU'.2.word hN'.2.word) (fun x hx => nomatch hx) htext
    (by rw [Launch.admits_arrayLengthLimit X.admits]; omega) (by rw [Launch.admits_maxHeapBytes X.admits]; simp only [componentBytes]; omega)
    (g := F0 m pc ls rest) rfl hsize hRframes (by show 2 * 0 + (rest.map fun v => v.category).sum + 10240 ≤ R.locals; omega) hshort (by show 0 + 3 ≤ 3; omega) (by show 0 + (_ + 4 + 6) ≤ nb + 10; omega) hlocks
  obtain ⟨f1, f2⟩ := vx_frame Z.same
  have f1' : H.size ≤ S.heap.size := by rw [← hT]; exact f1
  have f2' : ∀ q : Nat, q < H.size → S.heap[q]? = H[q]? := fun q hq => by
    rw [← hT]
    exact f2 q (by rw [← hT] at hq; exact hq) (fun z hz => nomatch hz)
  have X5 := vx_back9 X Y Z
  have X6 : Stand p l e R s m args below meth c S locs (cells + 3) (slots + (nb + 10)) := { X5 with same := X5.same.mono (by omega) (by omega) }
  obtain ⟨t, a1, b1⟩ := k S.heap q ce f1' f2' ⟨Nat.le_trans hS.1 f1', fun q h1 h2 => (f2' q (Nat.lt_of_lt_of_le h1 hS.1)).trans (hS.2.1 q h1 h2), hS.2.2⟩ hce hv hcl' S rfl X6
  exact ⟨t, st t a1, b1⟩
/-- from the machine's note that NullPointerException is thrown here -/
def vx_NoteN (p : Program) (l : Launch) (e : Env) (R : Room) (s : State) (m : MethodId) (args : Array Value) (below : List Frame) (meth : Method) (c : Code) (H : Heap) (locs : List Loc) (cells slots : Nat) (Q : State → Prop) (g : JFrame) : Prop :=
  ∀ T : State, T.heap = H → Stand p l e R s m args below meth c T locs cells slots → ∃ t, Steps p.tables e below ((T.setTop g).pushFrame (.throwNew "java/lang/NullPointerException" none none)) t ∧ Q t
theorem vx_npe {pc : Nat} {ls : Array Slot} {rest : List Value} {Q : State → Prop} (hexec : p.tables.exec = Jvm.exec) (hl : l.stackTraces = false) {nb : Nat} {A : Nat → Prop}
    (hat : ∀ w ∈ vx_atN nb, w.before args s = true) (hgood : ∀ w ∈ vx_atN nb, vx_ot w = true)
    (hU : vx_Zq Bundle.tN "UNASSIGNED_STACK" Bundle.steD A s s.heap) (hN : vx_Zq Bundle.tN "SUPPRESSED_SENTINEL" Bundle.listD A s s.heap) (hS : va_S A s.heap H locs) (hsize : ls.size = c.maxLocals)
    (hRframes : 7 < R.frames) (hRlocals : (rest.map fun v => v.category).sum + 10240 ≤ R.locals) (hRcells : cells + 1 ≤ R.cells) (hRslots : slots + nb ≤ R.slots) (hlocks : meth.locks = false)
    (k : ∀ (H1 : Heap) (q9 : Addr) (ce : Cell), H.size ≤ H1.size → (∀ q : Nat, q < H.size → H1[q]? = H[q]?) → va_S A s.heap H1 locs → H1[q9]? = some ce → ce.vm = .none → s.vm.findClass "java/lang/NullPointerException" = some ce.cls → vx_W p l e R s m args below meth c H1 locs (cells + 1) (slots + nb) Q (F0 m pc ls rest) q9) :
    vx_NoteN p l e R s m args below meth c H locs cells slots Q (F0 m pc ls rest) := by
  intro T hT X
  have htr : e.platform.stackTraces = false := (show e.platform.stackTraces = l.stackTraces by rw [X.admits.platform]).trans hl
  have Y := vx_rebase X (R' := { frames := R.frames, locals := R.locals, cells := 1, slots := nb }) (Nat.le_refl _) (Nat.le_refl _) hRcells hRslots
  have hhp : ((T.setVm s.vm).setFrames (.invoking m args :: below)).heap = H := hT
  have hW0 : s.WarmedH ((T.setVm s.vm).setFrames (.invoking m args :: below)).vm := State.WarmedH.refl s
  have hat' : ∀ w ∈ vx_atN nb, w.before args ((T.setVm s.vm).setFrames (.invoking m args :: below)) = true := fun w hw => vx_ot_at hW0 rfl (hgood w hw) (hat w hw)
  have hU' : vx_Zq Bundle.tN "UNASSIGNED_STACK" Bundle.steD A ((T.setVm s.vm).setFrames (.invoking m args :: below)) ((T.setVm s.vm).setFrames (.invoking m args :: below)).heap := by rw [hhp]; exact vx_Zq.moved hW0.alike (hU.kept hS.2.1)
  have hN' : vx_Zq Bundle.tN "SUPPRESSED_SENTINEL" Bundle.listD A ((T.setVm s.vm).setFrames (.invoking m args :: below)) ((T.setVm s.vm).setFrames (.invoking m args :: below)).heap := by rw [hhp]; exact vx_Zq.moved hW0.alike (hN.kept hS.2.1)
  obtain ⟨S, q, ce, st, Z, hce, hcl', hv⟩ := vx_npeAt Y hexec htr (n := nb) (vx_own hat' (vx_isRefq hU'.1) (vx_isRefq hN'.1) hU'.2.word hN'.2.word) (fun x hx => nomatch hx)
    (g := F0 m pc ls rest) rfl hsize hRframes (by show 2 * 0 + (rest.map fun v => v.category).sum + 10240 ≤ R.locals; omega) (by show 0 + 1 ≤ 1; omega) (by show 0 + nb ≤ nb; omega) hlocks
  obtain ⟨f1, f2⟩ := vx_frame Z.same
  have f1' : H.size ≤ S.heap.size := by rw [← hT]; exact f1
  have f2' : ∀ q : Nat, q < H.size → S.heap[q]? = H[q]? := fun q hq => by
    rw [← hT]
    exact f2 q (by rw [← hT] at hq; exact hq) (fun z hz => nomatch hz)
  have X5 := vx_back9 X Y Z
  have X6 : Stand p l e R s m args below meth c S locs (cells + 1) (slots + nb) := { X5 with same := X5.same.mono (by omega) (by omega) }
  obtain ⟨t, a1, b1⟩ := k S.heap q ce f1' f2' ⟨Nat.le_trans hS.1 f1', fun q h1 h2 => (f2' q (Nat.lt_of_lt_of_le h1 hS.1)).trans (hS.2.1 q h1 h2), hS.2.2⟩ hce hv hcl' S rfl X6
  exact ⟨t, st t a1, b1⟩
variable {Q : State → Prop} {cc : ByteArray} {pc : Nat} {ls : Array Slot} {rest : List Value}
theorem vx_idivZ (hexec : p.tables.exec = Jvm.exec) (hb : c.code = cc) {a b : Int32} (h0 : b = 0) (d : decode cc pc = .ok (.idiv, 1)) (k : vx_Note p l e R s m args below meth c H locs cells slots Q (F0 m pc ls rest) "java/lang/ArithmeticException" "/ by zero") :
    W p l e R s m args below meth c H locs cells slots Q (F0 m pc ls (.int b :: .int a :: rest)) := by
  intro T hT X
  obtain ⟨t, st, q⟩ := k T hT X
  exact ⟨t, X.idivZero hexec (g := F0 m pc ls (.int b :: .int a :: rest)) rfl (a := a) (rest := rest) (by rw [h0]) (by rw [hb]; exact d) t st, q⟩
theorem vx_iremZ (hexec : p.tables.exec = Jvm.exec) (hb : c.code = cc) {a b : Int32} (h0 : b = 0) (d : decode cc pc = .ok (.irem, 1)) (k : vx_Note p l e R s m args below meth c H locs cells slots Q (F0 m pc ls rest) "java/lang/ArithmeticException" "/ by zero") :
    W p l e R s m args below meth c H locs cells slots Q (F0 m pc ls (.int b :: .int a :: rest)) := by
  intro T hT X
  obtain ⟨t, st, q⟩ := k T hT X
  exact ⟨t, X.iremZero hexec (g := F0 m pc ls (.int b :: .int a :: rest)) rfl (a := a) (rest := rest) (by rw [h0]) (by rw [hb]; exact d) t st, q⟩
theorem vx_ldivZ (hexec : p.tables.exec = Jvm.exec) (hb : c.code = cc) {a b : Int64} (h0 : b = 0) (d : decode cc pc = .ok (.ldiv, 1)) (k : vx_Note p l e R s m args below meth c H locs cells slots Q (F0 m pc ls rest) "java/lang/ArithmeticException" "/ by zero") :
    W p l e R s m args below meth c H locs cells slots Q (F0 m pc ls (.long b :: .long a :: rest)) := by
  intro T hT X
  obtain ⟨t, st, q⟩ := k T hT X
  exact ⟨t, X.ldivZero hexec (g := F0 m pc ls (.long b :: .long a :: rest)) rfl (a := a) (rest := rest) (by rw [h0]) (by rw [hb]; exact d) t st, q⟩
theorem vx_lremZ (hexec : p.tables.exec = Jvm.exec) (hb : c.code = cc) {a b : Int64} (h0 : b = 0) (d : decode cc pc = .ok (.lrem, 1)) (k : vx_Note p l e R s m args below meth c H locs cells slots Q (F0 m pc ls rest) "java/lang/ArithmeticException" "/ by zero") :
    W p l e R s m args below meth c H locs cells slots Q (F0 m pc ls (.long b :: .long a :: rest)) := by
  intro T hT X
  obtain ⟨t, st, q⟩ := k T hT X
  exact ⟨t, X.lremZero hexec (g := F0 m pc ls (.long b :: .long a :: rest)) rfl (a := a) (rest := rest) (by rw [h0]) (by rw [hb]; exact d) t st, q⟩
theorem vx_ialdZ {D : va_G} {cl : List vw_C} {ws : va_W} {tys : List (ClassId × FieldType)} {a : Nat} (hexec : p.tables.exec = Jvm.exec) (hb : c.code = cc) (hK : va_K D cl tys s) (hP : va_P D cl ws H) (q0 t0 : Nat) {cA : ClassId} {n : Nat} {f : Nat → Int32} (ha : ws[q0]? = some (a, .inl (cA, n, .inl f))) (ht : tys[t0]? = some (cA, .int)) {i : Int32} (hout : ¬ vp_in i n) (hdg : decode cc pc = .ok (.iaload, 1))
    (k : ∀ tx : String, tx = (toString "Index " ++ toString i ++ toString " out of bounds for length " ++ toString n : String) → vx_Note p l e R s m args below meth c H locs cells slots Q (F0 m pc ls rest) "java/lang/ArrayIndexOutOfBoundsException" tx) : W p l e R s m args below meth c H locs cells slots Q (F0 m pc ls (.int i :: .ref a :: rest)) := by
  intro T hT X
  obtain ⟨t, st, q⟩ := k _ rfl T hT X
  refine ⟨t, ?_, q⟩
  have h1 := X.ialoadOut hexec (by rw [hT]; exact hP q0 _ ha) ((hK.2 t0 _ ht).1 n (fun j => .int (f j))) (j := i) (by show (i < 0 ∨ (arrV _ _ _).slots.size ≤ _); rw [arrV_size]; exact Classical.byContradiction hout) (g := F0 m pc ls (.int i :: .ref a :: rest)) rfl (rest := rest) rfl (by rw [hb]; exact hdg) t
  simp only [arrV_size] at h1
  exact h1 st
theorem vx_iastZ {D : va_G} {cl : List vw_C} {ws : va_W} {tys : List (ClassId × FieldType)} {a : Nat} (hexec : p.tables.exec = Jvm.exec) (hb : c.code = cc) (hK : va_K D cl tys s) (hP : va_P D cl ws H) (q0 t0 : Nat) {cA : ClassId} {n : Nat} {f : Nat → Int32} (ha : ws[q0]? = some (a, .inl (cA, n, .inl f))) (ht : tys[t0]? = some (cA, .int)) {i : Int32} {x : Int32} (hout : ¬ vp_in i n) (hdg : decode cc pc = .ok (.iastore, 1))
    (k : ∀ tx : String, tx = (toString "Index " ++ toString i ++ toString " out of bounds for length " ++ toString n : String) → vx_Note p l e R s m args below meth c H locs cells slots Q (F0 m pc ls rest) "java/lang/ArrayIndexOutOfBoundsException" tx) : W p l e R s m args below meth c H locs cells slots Q (F0 m pc ls (.int x :: .int i :: .ref a :: rest)) := by
  intro T hT X
  obtain ⟨t, st, q⟩ := k _ rfl T hT X
  refine ⟨t, ?_, q⟩
  have h1 := X.iastoreOut hexec (by rw [hT]; exact hP q0 _ ha) ((hK.2 t0 _ ht).1 n (fun j => .int (f j))) (j := i) (by show (i < 0 ∨ (arrV _ _ _).slots.size ≤ _); rw [arrV_size]; exact Classical.byContradiction hout) (g := F0 m pc ls (.int x :: .int i :: .ref a :: rest)) rfl (rest := rest) rfl (by rw [hb]; exact hdg) t
  simp only [arrV_size] at h1
  exact h1 st
theorem vx_baldZ {D : va_G} {cl : List vw_C} {ws : va_W} {tys : List (ClassId × FieldType)} {a : Nat} (hexec : p.tables.exec = Jvm.exec) (hb : c.code = cc) (hK : va_K D cl tys s) (hP : va_P D cl ws H) (q0 t0 : Nat) {cA : ClassId} {n : Nat} {f : Nat → Int32} (ha : ws[q0]? = some (a, .inl (cA, n, .inl f))) (ht : tys[t0]? = some (cA, .byte)) {i : Int32} (hout : ¬ vp_in i n) (hdg : decode cc pc = .ok (.baload, 1))
    (k : ∀ tx : String, tx = (toString "Index " ++ toString i ++ toString " out of bounds for length " ++ toString n : String) → vx_Note p l e R s m args below meth c H locs cells slots Q (F0 m pc ls rest) "java/lang/ArrayIndexOutOfBoundsException" tx) : W p l e R s m args below meth c H locs cells slots Q (F0 m pc ls (.int i :: .ref a :: rest)) := by
  intro T hT X
  obtain ⟨t, st, q⟩ := k _ rfl T hT X
  refine ⟨t, ?_, q⟩
  have h1 := X.baloadOut hexec (by rw [hT]; exact hP q0 _ ha) ((hK.2 t0 _ ht).1 n (fun j => .int (f j))) (j := i) (by show (i < 0 ∨ (arrV _ _ _).slots.size ≤ _); rw [arrV_size]; exact Classical.byContradiction hout) (g := F0 m pc ls (.int i :: .ref a :: rest)) rfl (rest := rest) rfl (by rw [hb]; exact hdg) t
  simp only [arrV_size] at h1
  exact h1 st
theorem vx_bastZ {D : va_G} {cl : List vw_C} {ws : va_W} {tys : List (ClassId × FieldType)} {a : Nat} (hexec : p.tables.exec = Jvm.exec) (hb : c.code = cc) (hK : va_K D cl tys s) (hP : va_P D cl ws H) (q0 t0 : Nat) {cA : ClassId} {n : Nat} {f : Nat → Int32} (ha : ws[q0]? = some (a, .inl (cA, n, .inl f))) (ht : tys[t0]? = some (cA, .byte)) {i : Int32} {x : Int32} (hout : ¬ vp_in i n) (hdg : decode cc pc = .ok (.bastore, 1))
    (k : ∀ tx : String, tx = (toString "Index " ++ toString i ++ toString " out of bounds for length " ++ toString n : String) → vx_Note p l e R s m args below meth c H locs cells slots Q (F0 m pc ls rest) "java/lang/ArrayIndexOutOfBoundsException" tx) : W p l e R s m args below meth c H locs cells slots Q (F0 m pc ls (.int x :: .int i :: .ref a :: rest)) := by
  intro T hT X
  obtain ⟨t, st, q⟩ := k _ rfl T hT X
  refine ⟨t, ?_, q⟩
  have h1 := X.bastoreOut hexec (by rw [hT]; exact hP q0 _ ha) ((hK.2 t0 _ ht).1 n (fun j => .int (f j))) (j := i) (by show (i < 0 ∨ (arrV _ _ _).slots.size ≤ _); rw [arrV_size]; exact Classical.byContradiction hout) (g := F0 m pc ls (.int x :: .int i :: .ref a :: rest)) rfl (rest := rest) rfl (by rw [hb]; exact hdg) t
  simp only [arrV_size] at h1
  exact h1 st
theorem vx_zaldZ {D : va_G} {cl : List vw_C} {ws : va_W} {tys : List (ClassId × FieldType)} {a : Nat} (hexec : p.tables.exec = Jvm.exec) (hb : c.code = cc) (hK : va_K D cl tys s) (hP : va_P D cl ws H) (q0 t0 : Nat) {cA : ClassId} {n : Nat} {f : Nat → Int32} (ha : ws[q0]? = some (a, .inl (cA, n, .inl f))) (ht : tys[t0]? = some (cA, .boolean)) {i : Int32} (hout : ¬ vp_in i n) (hdg : decode cc pc = .ok (.baload, 1))
    (k : ∀ tx : String, tx = (toString "Index " ++ toString i ++ toString " out of bounds for length " ++ toString n : String) → vx_Note p l e R s m args below meth c H locs cells slots Q (F0 m pc ls rest) "java/lang/ArrayIndexOutOfBoundsException" tx) : W p l e R s m args below meth c H locs cells slots Q (F0 m pc ls (.int i :: .ref a :: rest)) := by
  intro T hT X
  obtain ⟨t, st, q⟩ := k _ rfl T hT X
  refine ⟨t, ?_, q⟩
  have h1 := X.baloadOut hexec (by rw [hT]; exact hP q0 _ ha) ((hK.2 t0 _ ht).1 n (fun j => .int (f j))) (j := i) (by show (i < 0 ∨ (arrV _ _ _).slots.size ≤ _); rw [arrV_size]; exact Classical.byContradiction hout) (g := F0 m pc ls (.int i :: .ref a :: rest)) rfl (rest := rest) rfl (by rw [hb]; exact hdg) t
  simp only [arrV_size] at h1
  exact h1 st
theorem vx_zastZ {D : va_G} {cl : List vw_C} {ws : va_W} {tys : List (ClassId × FieldType)} {a : Nat} (hexec : p.tables.exec = Jvm.exec) (hb : c.code = cc) (hK : va_K D cl tys s) (hP : va_P D cl ws H) (q0 t0 : Nat) {cA : ClassId} {n : Nat} {f : Nat → Int32} (ha : ws[q0]? = some (a, .inl (cA, n, .inl f))) (ht : tys[t0]? = some (cA, .boolean)) {i : Int32} {x : Int32} (hout : ¬ vp_in i n) (hdg : decode cc pc = .ok (.bastore, 1))
    (k : ∀ tx : String, tx = (toString "Index " ++ toString i ++ toString " out of bounds for length " ++ toString n : String) → vx_Note p l e R s m args below meth c H locs cells slots Q (F0 m pc ls rest) "java/lang/ArrayIndexOutOfBoundsException" tx) : W p l e R s m args below meth c H locs cells slots Q (F0 m pc ls (.int x :: .int i :: .ref a :: rest)) := by
  intro T hT X
  obtain ⟨t, st, q⟩ := k _ rfl T hT X
  refine ⟨t, ?_, q⟩
  have h1 := X.bastoreOut hexec (by rw [hT]; exact hP q0 _ ha) ((hK.2 t0 _ ht).1 n (fun j => .int (f j))) (j := i) (by show (i < 0 ∨ (arrV _ _ _).slots.size ≤ _); rw [arrV_size]; exact Classical.byContradiction hout) (g := F0 m pc ls (.int x :: .int i :: .ref a :: rest)) rfl (rest := rest) rfl (by rw [hb]; exact hdg) t
  simp only [arrV_size] at h1
  exact h1 st
theorem vx_caldZ {D : va_G} {cl : List vw_C} {ws : va_W} {tys : List (ClassId × FieldType)} {a : Nat} (hexec : p.tables.exec = Jvm.exec) (hb : c.code = cc) (hK : va_K D cl tys s) (hP : va_P D cl ws H) (q0 t0 : Nat) {cA : ClassId} {n : Nat} {f : Nat → Int32} (ha : ws[q0]? = some (a, .inl (cA, n, .inl f))) (ht : tys[t0]? = some (cA, .char)) {i : Int32} (hout : ¬ vp_in i n) (hdg : decode cc pc = .ok (.caload, 1))
    (k : ∀ tx : String, tx = (toString "Index " ++ toString i ++ toString " out of bounds for length " ++ toString n : String) → vx_Note p l e R s m args below meth c H locs cells slots Q (F0 m pc ls rest) "java/lang/ArrayIndexOutOfBoundsException" tx) : W p l e R s m args below meth c H locs cells slots Q (F0 m pc ls (.int i :: .ref a :: rest)) := by
  intro T hT X
  obtain ⟨t, st, q⟩ := k _ rfl T hT X
  refine ⟨t, ?_, q⟩
  have h1 := X.caloadOut hexec (by rw [hT]; exact hP q0 _ ha) ((hK.2 t0 _ ht).1 n (fun j => .int (f j))) (j := i) (by show (i < 0 ∨ (arrV _ _ _).slots.size ≤ _); rw [arrV_size]; exact Classical.byContradiction hout) (g := F0 m pc ls (.int i :: .ref a :: rest)) rfl (rest := rest) rfl (by rw [hb]; exact hdg) t
  simp only [arrV_size] at h1
  exact h1 st
theorem vx_castZ {D : va_G} {cl : List vw_C} {ws : va_W} {tys : List (ClassId × FieldType)} {a : Nat} (hexec : p.tables.exec = Jvm.exec) (hb : c.code = cc) (hK : va_K D cl tys s) (hP : va_P D cl ws H) (q0 t0 : Nat) {cA : ClassId} {n : Nat} {f : Nat → Int32} (ha : ws[q0]? = some (a, .inl (cA, n, .inl f))) (ht : tys[t0]? = some (cA, .char)) {i : Int32} {x : Int32} (hout : ¬ vp_in i n) (hdg : decode cc pc = .ok (.castore, 1))
    (k : ∀ tx : String, tx = (toString "Index " ++ toString i ++ toString " out of bounds for length " ++ toString n : String) → vx_Note p l e R s m args below meth c H locs cells slots Q (F0 m pc ls rest) "java/lang/ArrayIndexOutOfBoundsException" tx) : W p l e R s m args below meth c H locs cells slots Q (F0 m pc ls (.int x :: .int i :: .ref a :: rest)) := by
  intro T hT X
  obtain ⟨t, st, q⟩ := k _ rfl T hT X
  refine ⟨t, ?_, q⟩
  have h1 := X.castoreOut hexec (by rw [hT]; exact hP q0 _ ha) ((hK.2 t0 _ ht).1 n (fun j => .int (f j))) (j := i) (by show (i < 0 ∨ (arrV _ _ _).slots.size ≤ _); rw [arrV_size]; exact Classical.byContradiction hout) (g := F0 m pc ls (.int x :: .int i :: .ref a :: rest)) rfl (rest := rest) rfl (by rw [hb]; exact hdg) t
  simp only [arrV_size] at h1
  exact h1 st
theorem vx_saldZ {D : va_G} {cl : List vw_C} {ws : va_W} {tys : List (ClassId × FieldType)} {a : Nat} (hexec : p.tables.exec = Jvm.exec) (hb : c.code = cc) (hK : va_K D cl tys s) (hP : va_P D cl ws H) (q0 t0 : Nat) {cA : ClassId} {n : Nat} {f : Nat → Int32} (ha : ws[q0]? = some (a, .inl (cA, n, .inl f))) (ht : tys[t0]? = some (cA, .short)) {i : Int32} (hout : ¬ vp_in i n) (hdg : decode cc pc = .ok (.saload, 1))
    (k : ∀ tx : String, tx = (toString "Index " ++ toString i ++ toString " out of bounds for length " ++ toString n : String) → vx_Note p l e R s m args below meth c H locs cells slots Q (F0 m pc ls rest) "java/lang/ArrayIndexOutOfBoundsException" tx) : W p l e R s m args below meth c H locs cells slots Q (F0 m pc ls (.int i :: .ref a :: rest)) := by
  intro T hT X
  obtain ⟨t, st, q⟩ := k _ rfl T hT X
  refine ⟨t, ?_, q⟩
  have h1 := X.saloadOut hexec (by rw [hT]; exact hP q0 _ ha) ((hK.2 t0 _ ht).1 n (fun j => .int (f j))) (j := i) (by show (i < 0 ∨ (arrV _ _ _).slots.size ≤ _); rw [arrV_size]; exact Classical.byContradiction hout) (g := F0 m pc ls (.int i :: .ref a :: rest)) rfl (rest := rest) rfl (by rw [hb]; exact hdg) t
  simp only [arrV_size] at h1
  exact h1 st
theorem vx_sastZ {D : va_G} {cl : List vw_C} {ws : va_W} {tys : List (ClassId × FieldType)} {a : Nat} (hexec : p.tables.exec = Jvm.exec) (hb : c.code = cc) (hK : va_K D cl tys s) (hP : va_P D cl ws H) (q0 t0 : Nat) {cA : ClassId} {n : Nat} {f : Nat → Int32} (ha : ws[q0]? = some (a, .inl (cA, n, .inl f))) (ht : tys[t0]? = some (cA, .short)) {i : Int32} {x : Int32} (hout : ¬ vp_in i n) (hdg : decode cc pc = .ok (.sastore, 1))
    (k : ∀ tx : String, tx = (toString "Index " ++ toString i ++ toString " out of bounds for length " ++ toString n : String) → vx_Note p l e R s m args below meth c H locs cells slots Q (F0 m pc ls rest) "java/lang/ArrayIndexOutOfBoundsException" tx) : W p l e R s m args below meth c H locs cells slots Q (F0 m pc ls (.int x :: .int i :: .ref a :: rest)) := by
  intro T hT X
  obtain ⟨t, st, q⟩ := k _ rfl T hT X
  refine ⟨t, ?_, q⟩
  have h1 := X.sastoreOut hexec (by rw [hT]; exact hP q0 _ ha) ((hK.2 t0 _ ht).1 n (fun j => .int (f j))) (j := i) (by show (i < 0 ∨ (arrV _ _ _).slots.size ≤ _); rw [arrV_size]; exact Classical.byContradiction hout) (g := F0 m pc ls (.int x :: .int i :: .ref a :: rest)) rfl (rest := rest) rfl (by rw [hb]; exact hdg) t
  simp only [arrV_size] at h1
  exact h1 st
theorem vx_laldZ {D : va_G} {cl : List vw_C} {ws : va_W} {tys : List (ClassId × FieldType)} {a : Nat} (hexec : p.tables.exec = Jvm.exec) (hb : c.code = cc) (hK : va_K D cl tys s) (hP : va_P D cl ws H) (q0 t0 : Nat) {cA : ClassId} {n : Nat} {f : Nat → Int64} (ha : ws[q0]? = some (a, .inl (cA, n, .inr (.inl f)))) (ht : tys[t0]? = some (cA, .long)) {i : Int32} (hout : ¬ vp_in i n) (hdg : decode cc pc = .ok (.laload, 1))
    (k : ∀ tx : String, tx = (toString "Index " ++ toString i ++ toString " out of bounds for length " ++ toString n : String) → vx_Note p l e R s m args below meth c H locs cells slots Q (F0 m pc ls rest) "java/lang/ArrayIndexOutOfBoundsException" tx) : W p l e R s m args below meth c H locs cells slots Q (F0 m pc ls (.int i :: .ref a :: rest)) := by
  intro T hT X
  obtain ⟨t, st, q⟩ := k _ rfl T hT X
  refine ⟨t, ?_, q⟩
  have h1 := X.laloadOut hexec (by rw [hT]; exact hP q0 _ ha) ((hK.2 t0 _ ht).1 n (fun j => .long (f j))) (j := i) (by show (i < 0 ∨ (arrV _ _ _).slots.size ≤ _); rw [arrV_size]; exact Classical.byContradiction hout) (g := F0 m pc ls (.int i :: .ref a :: rest)) rfl (rest := rest) rfl (by rw [hb]; exact hdg) t
  simp only [arrV_size] at h1
  exact h1 st
theorem vx_lastZ {D : va_G} {cl : List vw_C} {ws : va_W} {tys : List (ClassId × FieldType)} {a : Nat} (hexec : p.tables.exec = Jvm.exec) (hb : c.code = cc) (hK : va_K D cl tys s) (hP : va_P D cl ws H) (q0 t0 : Nat) {cA : ClassId} {n : Nat} {f : Nat → Int64} (ha : ws[q0]? = some (a, .inl (cA, n, .inr (.inl f)))) (ht : tys[t0]? = some (cA, .long)) {i : Int32} {x : Int64} (hout : ¬ vp_in i n) (hdg : decode cc pc = .ok (.lastore, 1))
    (k : ∀ tx : String, tx = (toString "Index " ++ toString i ++ toString " out of bounds for length " ++ toString n : String) → vx_Note p l e R s m args below meth c H locs cells slots Q (F0 m pc ls rest) "java/lang/ArrayIndexOutOfBoundsException" tx) : W p l e R s m args below meth c H locs cells slots Q (F0 m pc ls (.long x :: .int i :: .ref a :: rest)) := by
  intro T hT X
  obtain ⟨t, st, q⟩ := k _ rfl T hT X
  refine ⟨t, ?_, q⟩
  have h1 := X.lastoreOut hexec (by rw [hT]; exact hP q0 _ ha) ((hK.2 t0 _ ht).1 n (fun j => .long (f j))) (j := i) (by show (i < 0 ∨ (arrV _ _ _).slots.size ≤ _); rw [arrV_size]; exact Classical.byContradiction hout) (g := F0 m pc ls (.long x :: .int i :: .ref a :: rest)) rfl (rest := rest) rfl (by rw [hb]; exact hdg) t
  simp only [arrV_size] at h1
  exact h1 st
theorem vx_faldZ {D : va_G} {cl : List vw_C} {ws : va_W} {tys : List (ClassId × FieldType)} {a : Nat} (hexec : p.tables.exec = Jvm.exec) (hb : c.code = cc) (hK : va_K D cl tys s) (hP : va_P D cl ws H) (q0 t0 : Nat) {cA : ClassId} {n : Nat} {f : Nat → UInt32} (ha : ws[q0]? = some (a, .inl (cA, n, .inr (.inr (.inl f))))) (ht : tys[t0]? = some (cA, .float)) {i : Int32} (hout : ¬ vp_in i n) (hdg : decode cc pc = .ok (.faload, 1))
    (k : ∀ tx : String, tx = (toString "Index " ++ toString i ++ toString " out of bounds for length " ++ toString n : String) → vx_Note p l e R s m args below meth c H locs cells slots Q (F0 m pc ls rest) "java/lang/ArrayIndexOutOfBoundsException" tx) : W p l e R s m args below meth c H locs cells slots Q (F0 m pc ls (.int i :: .ref a :: rest)) := by
  intro T hT X
  obtain ⟨t, st, q⟩ := k _ rfl T hT X
  refine ⟨t, ?_, q⟩
  have h1 := X.faloadOut hexec (by rw [hT]; exact hP q0 _ ha) ((hK.2 t0 _ ht).1 n (fun j => .float (f j))) (j := i) (by show (i < 0 ∨ (arrV _ _ _).slots.size ≤ _); rw [arrV_size]; exact Classical.byContradiction hout) (g := F0 m pc ls (.int i :: .ref a :: rest)) rfl (rest := rest) rfl (by rw [hb]; exact hdg) t
  simp only [arrV_size] at h1
  exact h1 st
theorem vx_fastZ {D : va_G} {cl : List vw_C} {ws : va_W} {tys : List (ClassId × FieldType)} {a : Nat} (hexec : p.tables.exec = Jvm.exec) (hb : c.code = cc) (hK : va_K D cl tys s) (hP : va_P D cl ws H) (q0 t0 : Nat) {cA : ClassId} {n : Nat} {f : Nat → UInt32} (ha : ws[q0]? = some (a, .inl (cA, n, .inr (.inr (.inl f))))) (ht : tys[t0]? = some (cA, .float)) {i : Int32} {x : UInt32} (hout : ¬ vp_in i n) (hdg : decode cc pc = .ok (.fastore, 1))
    (k : ∀ tx : String, tx = (toString "Index " ++ toString i ++ toString " out of bounds for length " ++ toString n : String) → vx_Note p l e R s m args below meth c H locs cells slots Q (F0 m pc ls rest) "java/lang/ArrayIndexOutOfBoundsException" tx) : W p l e R s m args below meth c H locs cells slots Q (F0 m pc ls (.float x :: .int i :: .ref a :: rest)) := by
  intro T hT X
  obtain ⟨t, st, q⟩ := k _ rfl T hT X
  refine ⟨t, ?_, q⟩
  have h1 := X.fastoreOut hexec (by rw [hT]; exact hP q0 _ ha) ((hK.2 t0 _ ht).1 n (fun j => .float (f j))) (j := i) (by show (i < 0 ∨ (arrV _ _ _).slots.size ≤ _); rw [arrV_size]; exact Classical.byContradiction hout) (g := F0 m pc ls (.float x :: .int i :: .ref a :: rest)) rfl (rest := rest) rfl (by rw [hb]; exact hdg) t
  simp only [arrV_size] at h1
  exact h1 st
theorem vx_daldZ {D : va_G} {cl : List vw_C} {ws : va_W} {tys : List (ClassId × FieldType)} {a : Nat} (hexec : p.tables.exec = Jvm.exec) (hb : c.code = cc) (hK : va_K D cl tys s) (hP : va_P D cl ws H) (q0 t0 : Nat) {cA : ClassId} {n : Nat} {f : Nat → UInt64} (ha : ws[q0]? = some (a, .inl (cA, n, .inr (.inr (.inr (.inl f)))))) (ht : tys[t0]? = some (cA, .double)) {i : Int32} (hout : ¬ vp_in i n) (hdg : decode cc pc = .ok (.daload, 1))
    (k : ∀ tx : String, tx = (toString "Index " ++ toString i ++ toString " out of bounds for length " ++ toString n : String) → vx_Note p l e R s m args below meth c H locs cells slots Q (F0 m pc ls rest) "java/lang/ArrayIndexOutOfBoundsException" tx) : W p l e R s m args below meth c H locs cells slots Q (F0 m pc ls (.int i :: .ref a :: rest)) := by
  intro T hT X
  obtain ⟨t, st, q⟩ := k _ rfl T hT X
  refine ⟨t, ?_, q⟩
  have h1 := X.daloadOut hexec (by rw [hT]; exact hP q0 _ ha) ((hK.2 t0 _ ht).1 n (fun j => .double (f j))) (j := i) (by show (i < 0 ∨ (arrV _ _ _).slots.size ≤ _); rw [arrV_size]; exact Classical.byContradiction hout) (g := F0 m pc ls (.int i :: .ref a :: rest)) rfl (rest := rest) rfl (by rw [hb]; exact hdg) t
  simp only [arrV_size] at h1
  exact h1 st
theorem vx_dastZ {D : va_G} {cl : List vw_C} {ws : va_W} {tys : List (ClassId × FieldType)} {a : Nat} (hexec : p.tables.exec = Jvm.exec) (hb : c.code = cc) (hK : va_K D cl tys s) (hP : va_P D cl ws H) (q0 t0 : Nat) {cA : ClassId} {n : Nat} {f : Nat → UInt64} (ha : ws[q0]? = some (a, .inl (cA, n, .inr (.inr (.inr (.inl f)))))) (ht : tys[t0]? = some (cA, .double)) {i : Int32} {x : UInt64} (hout : ¬ vp_in i n) (hdg : decode cc pc = .ok (.dastore, 1))
    (k : ∀ tx : String, tx = (toString "Index " ++ toString i ++ toString " out of bounds for length " ++ toString n : String) → vx_Note p l e R s m args below meth c H locs cells slots Q (F0 m pc ls rest) "java/lang/ArrayIndexOutOfBoundsException" tx) : W p l e R s m args below meth c H locs cells slots Q (F0 m pc ls (.double x :: .int i :: .ref a :: rest)) := by
  intro T hT X
  obtain ⟨t, st, q⟩ := k _ rfl T hT X
  refine ⟨t, ?_, q⟩
  have h1 := X.dastoreOut hexec (by rw [hT]; exact hP q0 _ ha) ((hK.2 t0 _ ht).1 n (fun j => .double (f j))) (j := i) (by show (i < 0 ∨ (arrV _ _ _).slots.size ≤ _); rw [arrV_size]; exact Classical.byContradiction hout) (g := F0 m pc ls (.double x :: .int i :: .ref a :: rest)) rfl (rest := rest) rfl (by rw [hb]; exact hdg) t
  simp only [arrV_size] at h1
  exact h1 st
theorem vx_arraylengthN (hexec : p.tables.exec = Jvm.exec) (hb : c.code = cc) (hdg : decode cc pc = .ok (.arraylength, 1)) (k : vx_NoteN p l e R s m args below meth c H locs cells slots Q (F0 m pc ls rest)) : W p l e R s m args below meth c H locs cells slots Q (F0 m pc ls (.null :: rest)) := by
  intro T hT X
  obtain ⟨t, st, q⟩ := k T hT X
  exact ⟨t, X.arraylengthNull hexec (g := F0 m pc ls (.null :: rest)) rfl (rest := rest) rfl (by rw [hb]; exact hdg) t st, q⟩
theorem vx_ialoadN (hexec : p.tables.exec = Jvm.exec) (hb : c.code = cc) {i : Int32} (hdg : decode cc pc = .ok (.iaload, 1)) (k : vx_NoteN p l e R s m args below meth c H locs cells slots Q (F0 m pc ls rest)) : W p l e R s m args below meth c H locs cells slots Q (F0 m pc ls (.int i :: .null :: rest)) := by
  intro T hT X
  obtain ⟨t, st, q⟩ := k T hT X
  exact ⟨t, X.ialoadNull hexec (g := F0 m pc ls (.int i :: .null :: rest)) rfl (rest := rest) rfl (by rw [hb]; exact hdg) t st, q⟩
theorem vx_laloadN (hexec : p.tables.exec = Jvm.exec) (hb : c.code = cc) {i : Int32} (hdg : decode cc pc = .ok (.laload, 1)) (k : vx_NoteN p l e R s m args below meth c H locs cells slots Q (F0 m pc ls rest)) : W p l e R s m args below meth c H locs cells slots Q (F0 m pc ls (.int i :: .null :: rest)) := by
  intro T hT X
  obtain ⟨t, st, q⟩ := k T hT X
  exact ⟨t, X.laloadNull hexec (g := F0 m pc ls (.int i :: .null :: rest)) rfl (rest := rest) rfl (by rw [hb]; exact hdg) t st, q⟩
theorem vx_faloadN (hexec : p.tables.exec = Jvm.exec) (hb : c.code = cc) {i : Int32} (hdg : decode cc pc = .ok (.faload, 1)) (k : vx_NoteN p l e R s m args below meth c H locs cells slots Q (F0 m pc ls rest)) : W p l e R s m args below meth c H locs cells slots Q (F0 m pc ls (.int i :: .null :: rest)) := by
  intro T hT X
  obtain ⟨t, st, q⟩ := k T hT X
  exact ⟨t, X.faloadNull hexec (g := F0 m pc ls (.int i :: .null :: rest)) rfl (rest := rest) rfl (by rw [hb]; exact hdg) t st, q⟩
theorem vx_daloadN (hexec : p.tables.exec = Jvm.exec) (hb : c.code = cc) {i : Int32} (hdg : decode cc pc = .ok (.daload, 1)) (k : vx_NoteN p l e R s m args below meth c H locs cells slots Q (F0 m pc ls rest)) : W p l e R s m args below meth c H locs cells slots Q (F0 m pc ls (.int i :: .null :: rest)) := by
  intro T hT X
  obtain ⟨t, st, q⟩ := k T hT X
  exact ⟨t, X.daloadNull hexec (g := F0 m pc ls (.int i :: .null :: rest)) rfl (rest := rest) rfl (by rw [hb]; exact hdg) t st, q⟩
theorem vx_aaloadN (hexec : p.tables.exec = Jvm.exec) (hb : c.code = cc) {i : Int32} (hdg : decode cc pc = .ok (.aaload, 1)) (k : vx_NoteN p l e R s m args below meth c H locs cells slots Q (F0 m pc ls rest)) : W p l e R s m args below meth c H locs cells slots Q (F0 m pc ls (.int i :: .null :: rest)) := by
  intro T hT X
  obtain ⟨t, st, q⟩ := k T hT X
  exact ⟨t, X.aaloadNull hexec (g := F0 m pc ls (.int i :: .null :: rest)) rfl (rest := rest) rfl (by rw [hb]; exact hdg) t st, q⟩
theorem vx_baloadN (hexec : p.tables.exec = Jvm.exec) (hb : c.code = cc) {i : Int32} (hdg : decode cc pc = .ok (.baload, 1)) (k : vx_NoteN p l e R s m args below meth c H locs cells slots Q (F0 m pc ls rest)) : W p l e R s m args below meth c H locs cells slots Q (F0 m pc ls (.int i :: .null :: rest)) := by
  intro T hT X
  obtain ⟨t, st, q⟩ := k T hT X
  exact ⟨t, X.baloadNull hexec (g := F0 m pc ls (.int i :: .null :: rest)) rfl (rest := rest) rfl (by rw [hb]; exact hdg) t st, q⟩
theorem vx_caloadN (hexec : p.tables.exec = Jvm.exec) (hb : c.code = cc) {i : Int32} (hdg : decode cc pc = .ok (.caload, 1)) (k : vx_NoteN p l e R s m args below meth c H locs cells slots Q (F0 m pc ls rest)) : W p l e R s m args below meth c H locs cells slots Q (F0 m pc ls (.int i :: .null :: rest)) := by
  intro T hT X
  obtain ⟨t, st, q⟩ := k T hT X
  exact ⟨t, X.caloadNull hexec (g := F0 m pc ls (.int i :: .null :: rest)) rfl (rest := rest) rfl (by rw [hb]; exact hdg) t st, q⟩
theorem vx_saloadN (hexec : p.tables.exec = Jvm.exec) (hb : c.code = cc) {i : Int32} (hdg : decode cc pc = .ok (.saload, 1)) (k : vx_NoteN p l e R s m args below meth c H locs cells slots Q (F0 m pc ls rest)) : W p l e R s m args below meth c H locs cells slots Q (F0 m pc ls (.int i :: .null :: rest)) := by
  intro T hT X
  obtain ⟨t, st, q⟩ := k T hT X
  exact ⟨t, X.saloadNull hexec (g := F0 m pc ls (.int i :: .null :: rest)) rfl (rest := rest) rfl (by rw [hb]; exact hdg) t st, q⟩
theorem vx_iastoreN (hexec : p.tables.exec = Jvm.exec) (hb : c.code = cc) {x : Int32} {i : Int32} (hdg : decode cc pc = .ok (.iastore, 1)) (k : vx_NoteN p l e R s m args below meth c H locs cells slots Q (F0 m pc ls rest)) : W p l e R s m args below meth c H locs cells slots Q (F0 m pc ls (.int x :: .int i :: .null :: rest)) := by
  intro T hT X
  obtain ⟨t, st, q⟩ := k T hT X
  exact ⟨t, X.iastoreNull hexec (g := F0 m pc ls (.int x :: .int i :: .null :: rest)) rfl (rest := rest) rfl (by rw [hb]; exact hdg) t st, q⟩
theorem vx_lastoreN (hexec : p.tables.exec = Jvm.exec) (hb : c.code = cc) {x : Int64} {i : Int32} (hdg : decode cc pc = .ok (.lastore, 1)) (k : vx_NoteN p l e R s m args below meth c H locs cells slots Q (F0 m pc ls rest)) : W p l e R s m args below meth c H locs cells slots Q (F0 m pc ls (.long x :: .int i :: .null :: rest)) := by
  intro T hT X
  obtain ⟨t, st, q⟩ := k T hT X
  exact ⟨t, X.lastoreNull hexec (g := F0 m pc ls (.long x :: .int i :: .null :: rest)) rfl (rest := rest) rfl (by rw [hb]; exact hdg) t st, q⟩
theorem vx_fastoreN (hexec : p.tables.exec = Jvm.exec) (hb : c.code = cc) {x : UInt32} {i : Int32} (hdg : decode cc pc = .ok (.fastore, 1)) (k : vx_NoteN p l e R s m args below meth c H locs cells slots Q (F0 m pc ls rest)) : W p l e R s m args below meth c H locs cells slots Q (F0 m pc ls (.float x :: .int i :: .null :: rest)) := by
  intro T hT X
  obtain ⟨t, st, q⟩ := k T hT X
  exact ⟨t, X.fastoreNull hexec (g := F0 m pc ls (.float x :: .int i :: .null :: rest)) rfl (rest := rest) rfl (by rw [hb]; exact hdg) t st, q⟩
theorem vx_dastoreN (hexec : p.tables.exec = Jvm.exec) (hb : c.code = cc) {x : UInt64} {i : Int32} (hdg : decode cc pc = .ok (.dastore, 1)) (k : vx_NoteN p l e R s m args below meth c H locs cells slots Q (F0 m pc ls rest)) : W p l e R s m args below meth c H locs cells slots Q (F0 m pc ls (.double x :: .int i :: .null :: rest)) := by
  intro T hT X
  obtain ⟨t, st, q⟩ := k T hT X
  exact ⟨t, X.dastoreNull hexec (g := F0 m pc ls (.double x :: .int i :: .null :: rest)) rfl (rest := rest) rfl (by rw [hb]; exact hdg) t st, q⟩
theorem vx_bastoreN (hexec : p.tables.exec = Jvm.exec) (hb : c.code = cc) {x : Int32} {i : Int32} (hdg : decode cc pc = .ok (.bastore, 1)) (k : vx_NoteN p l e R s m args below meth c H locs cells slots Q (F0 m pc ls rest)) : W p l e R s m args below meth c H locs cells slots Q (F0 m pc ls (.int x :: .int i :: .null :: rest)) := by
  intro T hT X
  obtain ⟨t, st, q⟩ := k T hT X
  exact ⟨t, X.bastoreNull hexec (g := F0 m pc ls (.int x :: .int i :: .null :: rest)) rfl (rest := rest) rfl (by rw [hb]; exact hdg) t st, q⟩
theorem vx_castoreN (hexec : p.tables.exec = Jvm.exec) (hb : c.code = cc) {x : Int32} {i : Int32} (hdg : decode cc pc = .ok (.castore, 1)) (k : vx_NoteN p l e R s m args below meth c H locs cells slots Q (F0 m pc ls rest)) : W p l e R s m args below meth c H locs cells slots Q (F0 m pc ls (.int x :: .int i :: .null :: rest)) := by
  intro T hT X
  obtain ⟨t, st, q⟩ := k T hT X
  exact ⟨t, X.castoreNull hexec (g := F0 m pc ls (.int x :: .int i :: .null :: rest)) rfl (rest := rest) rfl (by rw [hb]; exact hdg) t st, q⟩
theorem vx_sastoreN (hexec : p.tables.exec = Jvm.exec) (hb : c.code = cc) {x : Int32} {i : Int32} (hdg : decode cc pc = .ok (.sastore, 1)) (k : vx_NoteN p l e R s m args below meth c H locs cells slots Q (F0 m pc ls rest)) : W p l e R s m args below meth c H locs cells slots Q (F0 m pc ls (.int x :: .int i :: .null :: rest)) := by
  intro T hT X
  obtain ⟨t, st, q⟩ := k T hT X
  exact ⟨t, X.sastoreNull hexec (g := F0 m pc ls (.int x :: .int i :: .null :: rest)) rfl (rest := rest) rfl (by rw [hb]; exact hdg) t st, q⟩
theorem vx_invokeN {own C : String} {index maxL : Nat} {y : MethodName} {bytes : ByteArray} {ret : Option FieldType} (hexec : p.tables.exec = Jvm.exec) (hb : c.code = cc) (hown : s.vm.findClass own = some m.cls) (hlink : (Cond.methodLink own index y).before args s = true) (hinst : (Cond.instanceMethod y).before args s = true) (hcode : (Cond.code y bytes maxL ret).before args s = true) (hsel : (Cond.selects C y y).before args s = true)
    (hx : y.cls ≠ "java/lang/invoke/MethodHandle" ∧ y.cls ≠ "java/lang/invoke/VarHandle") {As : List Value} (hlen : (parseMethodDescriptor y.desc).map (fun d => d.parameters.length) = some As.length) (hdg : decode cc pc = .ok (.invokevirtual index, 3))
    (k : vx_NoteN p l e R s m args below meth c H locs cells slots Q (F0 m pc ls rest)) {st0 : List Value} (hst : st0 = As.reverse ++ .null :: rest) : W p l e R s m args below meth c H locs cells slots Q (F0 m pc ls st0) := by
  intro T hT X
  obtain ⟨r0, r, hn, hrm, hstR, hsigR⟩ := va_Decl.of hinst hcode
  obtain ⟨c2, r2, m2, q1, q2, q3, q4, kP, hkP, hkPi⟩ := Cond.selects_spec hsel
  cases hn.symm.trans q3
  have hl9 : As.length = r.sig.parameters.length := by
    rw [hsigR] at hlen
    exact (Option.some.inj hlen).symm
  obtain ⟨vm', X1, st1⟩ := X.invokevirtualNull hexec hown hlink hn hrm hstR hkP hkPi hx (g := F0 m pc ls st0) rfl (argsL := As) (rest := rest) hl9 hst (by rw [hb]; exact hdg)
  obtain ⟨t, st, q⟩ := k (T.setVm vm') hT X1
  exact ⟨t, st1 t st, q⟩
theorem vx_newarrayZ {atype : ArrayType} (hexec : p.tables.exec = Jvm.exec) (hb : c.code = cc) {n : Int32} (h0 : n < 0) (hdg : decode cc pc = .ok (.newarray atype, 2)) (k : ∀ tx : String, tx = toString n → vx_Note p l e R s m args below meth c H locs cells slots Q (F0 m pc ls rest) "java/lang/NegativeArraySizeException" tx) : W p l e R s m args below meth c H locs cells slots Q (F0 m pc ls (.int n :: rest)) := by
  intro T hT X
  obtain ⟨t, st, q⟩ := k _ rfl T hT X
  exact ⟨t, X.newarrayNegative hexec (g := F0 m pc ls (.int n :: rest)) rfl h0 (rest := rest) rfl (by rw [hb]; exact hdg) t st, q⟩
end
end VXM
/-! ===== END ===== -/
/-! ===== BEGIN an exception as an object: made, kept, thrown later (no traces kept) ===== -/
section VXK
variable {p : Program} {l : Launch} {e : Env} {R : Room} {s : State} {m₀ : MethodId} {args : Array Value} {below : List Frame} {meth : Method} {c : Code} {W : State} {locs : List Loc} {cells slots : Nat}
set_option maxHeartbeats 1000000 in
theorem vx_ctorMadeS (X : Stand p l e R s m₀ args below meth c W locs cells slots) (hexec : p.tables.exec = Jvm.exec) (htr : e.platform.stackTraces = false) {own cls : String} {names : List String} {ic : Nat}
    (hown : s.vm.findClass own = some m₀.cls) (hcls : Bundle.fit cls = true) (hnames : ∀ n ∈ names, Bundle.fit n = true)
    (h : ∀ a ∈ Bundle.ownAtoms own ic cls names, a.before args s = true)
    (hlocs : ∀ x ∈ locs, ∀ cell, s.heap[x.base]? = some cell → cell.vm.isStatics = false)
    {a : Addr} {cX : ClassId} {kX : Class} (hfoundX : s.vm.findClass cls = some cX) (hkX : s.vm.classes[cX]? = some kX) (hcell : W.heap[a]? = some (freshCell cX kX)) (hnew : s.heap.size ≤ a)
    {msg : Value} (hmsg : msg.isRef = true)
    {g : JFrame} (hg : g.method = m₀) (hsize : g.locals.size = c.maxLocals) {rest : List Value} (hstack : g.stack = msg :: .ref a :: .ref a :: rest)
    (hd6 : decode c.code g.pc = .ok (.invokespecial ic, 3))
    (hRframes : names.length + 3 < R.frames) (hRlocals : 2 * g.monitorRoom + ((Value.ref a :: rest).map fun v => v.category).sum + (13 * (names.length + 1) + 42) ≤ R.locals) :
    ∃ (V : State) (ce : Cell) (L : List Loc), Stand p l e R s m₀ args below meth c (V.setCell a ce) (locs ++ L) cells slots ∧ (∀ y ∈ L, y.base = a) ∧ a < V.heap.size ∧ ce.cls = cX ∧ ce.vm = .none ∧
      ∀ target, Steps p.tables e below ((V.setCell a ce).setTop { g with stack := .ref a :: rest, pc := g.pc + 3 }) target → Steps p.tables e below (W.setTop g) target := by
  have howns : e.platform.frameOwnsMonitors = true := by rw [X.admits.platform]
  have hfin : e.platform.finalization = false := by rw [X.admits.platform]
  have hpl : e.platform.magicAccessors = ({} : Platform).magicAccessors := by rw [X.admits.platform]
  have a' : ∀ x, x ∈ Bundle.ownAtoms own ic cls names → x.holds args s none s [] = true := fun x hx => h x hx
  obtain ⟨T, Z0, L, -, Y⟩ := ThrowableC.of_atoms (args := args) howns hfin hpl (fun x hx => h x (by simp [Bundle.ownAtoms, hx]))
  obtain ⟨Z, M, LZ, LM, hnZ⟩ := Init0T.ofS_atoms (args := args) hpl L Y (fun x hx => h x (by simp [Bundle.ownAtoms, hx]))
  obtain ⟨P1, Ps, hlen, L1, hL, hP1m, hlink1, hlink⟩ := Bundle.chainS (args := args) hpl hnZ names cls hcls hnames (fun x hx => h x (by simp [Bundle.ownAtoms, hx]))
  have hfound : s.vm.findClass cls = some P1.m.cls := findClass_of_methodNamed hP1m
  cases Option.some.inj (hfoundX.symm.trans hfound)
  obtain ⟨c1, kX', hc1, hk, hord, -, -, hn6⟩ := Cond.instantiable_spec (a' (.instantiable cls 6) (by simp [Bundle.ownAtoms]))
  cases Option.some.inj (hc1.symm.trans hfound)
  cases Option.some.inj (hkX.symm.trans hk)
  have hsel0 : selectMethod e.platform s.vm P1.m.cls T.fill0 = .method T.fill0 := by
    obtain ⟨c2, r2, m2, q1, q2, q3, q4, -⟩ := Cond.selects_spec (a' (.selects cls Bundle.tFill0 Bundle.tFill0) (by simp [Bundle.ownAtoms]))
    cases Option.some.inj (q1.symm.trans hfound)
    cases Option.some.inj (q2.symm.trans (State.methodFound?_of_named Y.fill0 (by decide)))
    cases Option.some.inj (q3.symm.trans Y.fill0)
    rw [Launch.admits_selectMethod X.admits]; exact q4
  have hselF : selectMethod e.platform s.vm P1.m.cls T.fill = .method T.fill := by
    obtain ⟨c2, r2, m2, q1, q2, q3, q4, -⟩ := Cond.selects_spec (a' (.selects cls Bundle.tFill Bundle.tFill) (by simp [Bundle.ownAtoms]))
    cases Option.some.inj (q1.symm.trans hfound)
    cases Option.some.inj (q2.symm.trans (State.methodFound?_of_named Y.fill (by decide)))
    cases Option.some.inj (q3.symm.trans Y.fill)
    rw [Launch.admits_selectMethod X.admits]; exact q4
  obtain ⟨cellS0, hcS0, hiss⟩ := Y.statics
  obtain ⟨u0, hu0⟩ := Cond.staticRefV Y.unassigned L.unassignedStatic L.statics hcS0 hiss (a' (.isRef (.static Bundle.tN "UNASSIGNED_STACK" Bundle.steD)) (by simp [Bundle.ownAtoms]))
  obtain ⟨sen, hsen⟩ := Cond.staticRefV Y.sentinel L.sentinelStatic L.statics hcS0 hiss (a' (.isRef (.static Bundle.tN "SUPPRESSED_SENTINEL" Bundle.listD)) (by simp [Bundle.ownAtoms]))
  obtain ⟨ci198, i198, fB, hk198, hg198, ha198, hsB, -, hnB, htB, hffB⟩ := Cond.ownField (t := .object "java/lang/Object") Y.found L.cls (by decide +kernel) (a' (.fieldLink Bundle.tN 198 Bundle.tN "backtrace" "Ljava/lang/Object;") (by simp [Bundle.ownAtoms])) (a' (.lays Bundle.tN Bundle.tN "backtrace" "Ljava/lang/Object;") (by simp [Bundle.ownAtoms])) e.platform hpl
  obtain ⟨cellS, hcS', heS, -, hkeep⟩ := X.same.2.2.2.2.2 T.aS cellS0 hcS0
  have hcellS : W.heap[T.aS]? = some cellS := hcS'
  have hout' : ∀ i, (⟨T.aS, i⟩ : Loc) ∉ locs := fun i hmem => by
    have := hlocs _ hmem cellS0 hcS0
    rw [hiss] at this; cases this
  have hknownS : cellS.vm ≠ .unknown := by
    rw [heS]; intro hu
    rw [show cellS0.vm = .unknown from hu] at hiss
    cases hiss
  have hneS : T.aS ≠ a := Nat.ne_of_lt (Nat.lt_of_lt_of_le (Array.getElem?_eq_some_iff.mp hcS0).1 hnew)
  obtain ⟨iM, hffM⟩ := Y.msg
  obtain ⟨tyC, dC, hdC, hdnC⟩ := Cond.laysAt hfound hk Y.cause (a' (.lays cls Bundle.tN "cause" "Ljava/lang/Throwable;") (by simp [Bundle.ownAtoms]))
  obtain ⟨tyS, dS, hdS, hdnS⟩ := Cond.laysAt hfound hk Y.stack (a' (.lays cls Bundle.tN "stackTrace" Bundle.steD) (by simp [Bundle.ownAtoms]))
  obtain ⟨tyP, dP, hdP, hdnP⟩ := Cond.laysAt hfound hk Y.supp (a' (.lays cls Bundle.tN "suppressedExceptions" Bundle.listD) (by simp [Bundle.ownAtoms]))
  obtain ⟨tyM, dM, hdM, hdnM⟩ := Cond.laysAt hfound hk hffM (a' (.lays cls Bundle.tN "detailMessage" "Ljava/lang/String;") (by simp [Bundle.ownAtoms]))
  obtain ⟨tyB, dB, hdB, hdnB⟩ := Cond.laysAt hfound hk hffB (a' (.lays cls Bundle.tN "backtrace" "Ljava/lang/Object;") (by simp [Bundle.ownAtoms]))
  have bC := Cond.laysApart hdB hdC hdnB hdnC (by rw [hnB, Y.causeName]; decide)
  have bS := Cond.laysApart hdB hdS hdnB hdnS (by rw [hnB, Y.stackName]; decide)
  have bP := Cond.laysApart hdB hdP hdnB hdnP (by rw [hnB, Y.suppName]; decide)
  have hskip : SkipFacts T e.platform s (fun u => u) u0 ((preparedCellV T.toThrowableT (freshCell P1.m.cls kX) a u0 sen).withEntry W.cur) :=
    ⟨{ ci198 := ci198, i198 := i198, fBack := fB }, ⟨hk198, hg198, ha198, hsB⟩, by
      have := fresh_default (c := P1.m.cls) tyB
      rw [htB] at this
      simpa [preparedCellV, Cell.setSlot, Cell.withEntry, Array.getElem?_setIfInBounds, bC, bS, bP, bC.symm, bS.symm, bP.symm, defaultValue] using this, fun _ _ => rfl⟩
  obtain ⟨tm, methC, cdC, kC, vm₁, hnC, -, -, -, -, -, -, -, hW₁, st1⟩ := Steps.initColdS (tb := p.tables) (e := e) (below := below) (s := s) (U := W) X.here hexec X.warmed hpl hown (t := Bundle.initS cls) rfl rfl (Bundle.fit_spec hcls).2
    (a' (.methodLink own ic (Bundle.initS cls)) (by simp [Bundle.ownAtoms])) (h (.instanceMethod (Bundle.initS cls)) (by cases names <;> simp [Bundle.ownAtoms, Bundle.chainSAtoms, Bundle.passSAtoms])) (bytes := Bundle.six) (maxL := 2) (h (.code (Bundle.initS cls) Bundle.six 2 none) (by cases names <;> simp [Bundle.ownAtoms, Bundle.chainSAtoms, Bundle.passSAtoms]))
    (f := g) hg (a := a) (msg := msg) (rest := .ref a :: rest) hstack hd6
  cases Option.some.inj (hnC.symm.trans hP1m)
  have X₁ := X.noted hW₁
  obtain ⟨vm₂, X₂, st2⟩ := X₁.ctorMessageOffV hexec (g := { g with stack := .ref a :: rest }) hg hsize T L Z LZ M LM (P1 :: Ps)
    (fun P hP => by rcases List.mem_cons.mp hP with rfl | hP; exact L1; exact hL P hP) ⟨hlink1, hlink⟩ (u0 := u0) (sen := sen) (self := a) hmsg (cell := freshCell P1.m.cls kX) (cellS := cellS)
    hcell (fun _ => by simp) (by simp) rfl rfl hsel0 hselF hcellS hneS hknownS (by rw [hkeep _ (hout' _)]; exact hu0) (by rw [hkeep _ (hout' _)]; exact hsen)
    (Takes.of_laid hk hord tyC (by rw [Y.causeType]; rfl)) (Takes.of_laid hk hord tyS (by rw [Y.stackType]; exact fits_refV_array _ u0)) (Takes.of_laid hk hord tyP (by rw [Y.suppType]; exact fits_refV_object _ sen))
    (Takes.of_laid hk hord tyM (by rw [Y.msgType]; exact fits_refV_object _ ⟨msg, hmsg⟩)) Y.objLocals hskip htr [] hd6
    (by simp only [List.length_cons, hlen]; omega) (by simp only [List.length_cons, hlen]; exact hRlocals)
  have hlt : a < ((W.setVm vm₁).setVm vm₂).heap.size := (Array.getElem?_eq_some_iff.mp hcell).1
  refine ⟨(W.setVm vm₁).setVm vm₂, _, _, X₂, fun y hy => ?_, hlt, rfl, rfl, fun target hwalk => st1 _ (fun acts => ?_)⟩
  · simp only [List.mem_cons, List.not_mem_nil, or_false] at hy
    rcases hy with rfl | rfl | rfl | rfl | rfl <;> rfl
  · rw [doInvoke_state]
    exact st2 _ hwalk
set_option maxHeartbeats 1000000 in
theorem vx_ctorMade0 (X : Stand p l e R s m₀ args below meth c W locs cells slots) (hexec : p.tables.exec = Jvm.exec) (htr : e.platform.stackTraces = false) {own cls : String} {names : List String} {ic : Nat}
    (hown : s.vm.findClass own = some m₀.cls) (hcls : Bundle.fit cls = true) (hnames : ∀ n ∈ names, Bundle.fit n = true)
    (h : ∀ a ∈ Bundle.ownAtoms0 own ic cls names, a.before args s = true)
    (hlocs : ∀ x ∈ locs, ∀ cell, s.heap[x.base]? = some cell → cell.vm.isStatics = false)
    {a : Addr} {cX : ClassId} {kX : Class} (hfoundX : s.vm.findClass cls = some cX) (hkX : s.vm.classes[cX]? = some kX) (hcell : W.heap[a]? = some (freshCell cX kX)) (hnew : s.heap.size ≤ a)
    {g : JFrame} (hg : g.method = m₀) (hsize : g.locals.size = c.maxLocals) {rest : List Value} (hstack : g.stack = .ref a :: .ref a :: rest)
    (hd6 : decode c.code g.pc = .ok (.invokespecial ic, 3))
    (hRframes : names.length + 3 < R.frames) (hRlocals : 2 * g.monitorRoom + ((Value.ref a :: rest).map fun v => v.category).sum + (13 * (names.length + 1) + 41) ≤ R.locals) :
    ∃ (V : State) (ce : Cell) (L : List Loc), Stand p l e R s m₀ args below meth c (V.setCell a ce) (locs ++ L) cells slots ∧ (∀ y ∈ L, y.base = a) ∧ a < V.heap.size ∧ ce.cls = cX ∧ ce.vm = .none ∧
      ∀ target, Steps p.tables e below ((V.setCell a ce).setTop { g with stack := .ref a :: rest, pc := g.pc + 3 }) target → Steps p.tables e below (W.setTop g) target := by
  have howns : e.platform.frameOwnsMonitors = true := by rw [X.admits.platform]
  have hfin : e.platform.finalization = false := by rw [X.admits.platform]
  have hpl : e.platform.magicAccessors = ({} : Platform).magicAccessors := by rw [X.admits.platform]
  have a' : ∀ x, x ∈ Bundle.ownAtoms0 own ic cls names → x.holds args s none s [] = true := fun x hx => h x hx
  obtain ⟨T, Z, L, LZ, Y⟩ := ThrowableC.of_atoms (args := args) howns hfin hpl (fun x hx => h x (by simp [Bundle.ownAtoms0, hx]))
  obtain ⟨P1, Ps, hlen, L1, hL, hP1m, hlink1, hlink⟩ := Bundle.chain0 (args := args) hpl Y.init0 names cls hcls hnames (fun x hx => h x (by simp [Bundle.ownAtoms0, hx]))
  have hfound : s.vm.findClass cls = some P1.m.cls := findClass_of_methodNamed hP1m
  cases Option.some.inj (hfoundX.symm.trans hfound)
  obtain ⟨c1, kX', hc1, hk, hord, -, -, hn6⟩ := Cond.instantiable_spec (a' (.instantiable cls 6) (by simp [Bundle.ownAtoms0]))
  cases Option.some.inj (hc1.symm.trans hfound)
  cases Option.some.inj (hkX.symm.trans hk)
  have hsel0 : selectMethod e.platform s.vm P1.m.cls T.fill0 = .method T.fill0 := by
    obtain ⟨c2, r2, m2, q1, q2, q3, q4, -⟩ := Cond.selects_spec (a' (.selects cls Bundle.tFill0 Bundle.tFill0) (by simp [Bundle.ownAtoms0]))
    cases Option.some.inj (q1.symm.trans hfound)
    cases Option.some.inj (q2.symm.trans (State.methodFound?_of_named Y.fill0 (by decide)))
    cases Option.some.inj (q3.symm.trans Y.fill0)
    rw [Launch.admits_selectMethod X.admits]; exact q4
  have hselF : selectMethod e.platform s.vm P1.m.cls T.fill = .method T.fill := by
    obtain ⟨c2, r2, m2, q1, q2, q3, q4, -⟩ := Cond.selects_spec (a' (.selects cls Bundle.tFill Bundle.tFill) (by simp [Bundle.ownAtoms0]))
    cases Option.some.inj (q1.symm.trans hfound)
    cases Option.some.inj (q2.symm.trans (State.methodFound?_of_named Y.fill (by decide)))
    cases Option.some.inj (q3.symm.trans Y.fill)
    rw [Launch.admits_selectMethod X.admits]; exact q4
  obtain ⟨cellS0, hcS0, hiss⟩ := Y.statics
  obtain ⟨u0, hu0⟩ := Cond.staticRefV Y.unassigned L.unassignedStatic L.statics hcS0 hiss (a' (.isRef (.static Bundle.tN "UNASSIGNED_STACK" Bundle.steD)) (by simp [Bundle.ownAtoms0]))
  obtain ⟨sen, hsen⟩ := Cond.staticRefV Y.sentinel L.sentinelStatic L.statics hcS0 hiss (a' (.isRef (.static Bundle.tN "SUPPRESSED_SENTINEL" Bundle.listD)) (by simp [Bundle.ownAtoms0]))
  obtain ⟨ci198, i198, fB, hk198, hg198, ha198, hsB, -, hnB, htB, hffB⟩ := Cond.ownField (t := .object "java/lang/Object") Y.found L.cls (by decide +kernel) (a' (.fieldLink Bundle.tN 198 Bundle.tN "backtrace" "Ljava/lang/Object;") (by simp [Bundle.ownAtoms0])) (a' (.lays Bundle.tN Bundle.tN "backtrace" "Ljava/lang/Object;") (by simp [Bundle.ownAtoms0])) e.platform hpl
  obtain ⟨cellS, hcS', heS, -, hkeep⟩ := X.same.2.2.2.2.2 T.aS cellS0 hcS0
  have hcellS : W.heap[T.aS]? = some cellS := hcS'
  have hout' : ∀ i, (⟨T.aS, i⟩ : Loc) ∉ locs := fun i hmem => by
    have := hlocs _ hmem cellS0 hcS0
    rw [hiss] at this; cases this
  have hknownS : cellS.vm ≠ .unknown := by
    rw [heS]; intro hu
    rw [show cellS0.vm = .unknown from hu] at hiss
    cases hiss
  have hneS : T.aS ≠ a := Nat.ne_of_lt (Nat.lt_of_lt_of_le (Array.getElem?_eq_some_iff.mp hcS0).1 hnew)
  obtain ⟨iM, hffM⟩ := Y.msg
  obtain ⟨tyC, dC, hdC, hdnC⟩ := Cond.laysAt hfound hk Y.cause (a' (.lays cls Bundle.tN "cause" "Ljava/lang/Throwable;") (by simp [Bundle.ownAtoms0]))
  obtain ⟨tyS, dS, hdS, hdnS⟩ := Cond.laysAt hfound hk Y.stack (a' (.lays cls Bundle.tN "stackTrace" Bundle.steD) (by simp [Bundle.ownAtoms0]))
  obtain ⟨tyP, dP, hdP, hdnP⟩ := Cond.laysAt hfound hk Y.supp (a' (.lays cls Bundle.tN "suppressedExceptions" Bundle.listD) (by simp [Bundle.ownAtoms0]))
  obtain ⟨tyM, dM, hdM, hdnM⟩ := Cond.laysAt hfound hk hffM (a' (.lays cls Bundle.tN "detailMessage" "Ljava/lang/String;") (by simp [Bundle.ownAtoms0]))
  obtain ⟨tyB, dB, hdB, hdnB⟩ := Cond.laysAt hfound hk hffB (a' (.lays cls Bundle.tN "backtrace" "Ljava/lang/Object;") (by simp [Bundle.ownAtoms0]))
  have bC := Cond.laysApart hdB hdC hdnB hdnC (by rw [hnB, Y.causeName]; decide)
  have bS := Cond.laysApart hdB hdS hdnB hdnS (by rw [hnB, Y.stackName]; decide)
  have bP := Cond.laysApart hdB hdP hdnB hdnP (by rw [hnB, Y.suppName]; decide)
  have hskip : SkipFacts T e.platform s (fun u => u) u0 ((preparedCellV T.toThrowableT (freshCell P1.m.cls kX) a u0 sen).withEntry W.cur) :=
    ⟨{ ci198 := ci198, i198 := i198, fBack := fB }, ⟨hk198, hg198, ha198, hsB⟩, by
      have := fresh_default (c := P1.m.cls) tyB
      rw [htB] at this
      simpa [preparedCellV, Cell.setSlot, Cell.withEntry, Array.getElem?_setIfInBounds, bC, bS, bP, bC.symm, bS.symm, bP.symm, defaultValue] using this, fun _ _ => rfl⟩
  obtain ⟨tm, methC, cdC, kC, vm₁, hnC, -, -, -, -, -, -, -, hW₁, st1⟩ := Steps.initCold (tb := p.tables) (e := e) (below := below) (s := s) (U := W) X.here hexec X.warmed hpl hown (t := Bundle.init0 cls) rfl rfl (Bundle.fit_spec hcls).2
    (a' (.methodLink own ic (Bundle.init0 cls)) (by simp [Bundle.ownAtoms0])) (h (.instanceMethod (Bundle.init0 cls)) (by cases names <;> simp [Bundle.ownAtoms0, Bundle.chain0Atoms, Bundle.passAtoms])) (bytes := Bundle.five) (maxL := 1) (h (.code (Bundle.init0 cls) Bundle.five 1 none) (by cases names <;> simp [Bundle.ownAtoms0, Bundle.chain0Atoms, Bundle.passAtoms]))
    (f := g) hg (a := a) (rest := .ref a :: rest) hstack hd6
  cases Option.some.inj (hnC.symm.trans hP1m)
  have X₁ := X.noted hW₁
  obtain ⟨vm₂, X₂, st2⟩ := X₁.ctorPlainOffV hexec (g := { g with stack := .ref a :: rest }) hg hsize T L Z LZ (P1 :: Ps)
    (fun P hP => by rcases List.mem_cons.mp hP with rfl | hP; exact L1; exact hL P hP) ⟨hlink1, hlink⟩ (u0 := u0) (sen := sen) (self := a) (cell := freshCell P1.m.cls kX) (cellS := cellS)
    hcell (fun _ => by simp) (by simp) rfl rfl hsel0 hselF hcellS hneS hknownS (by rw [hkeep _ (hout' _)]; exact hu0) (by rw [hkeep _ (hout' _)]; exact hsen)
    (Takes.of_laid hk hord tyC (by rw [Y.causeType]; rfl)) (Takes.of_laid hk hord tyS (by rw [Y.stackType]; exact fits_refV_array _ u0)) (Takes.of_laid hk hord tyP (by rw [Y.suppType]; exact fits_refV_object _ sen)) Y.objLocals hskip htr [] hd6
    (by simp only [List.length_cons, hlen]; omega) (by simp only [List.length_cons, hlen]; exact hRlocals)
  have hlt : a < ((W.setVm vm₁).setVm vm₂).heap.size := (Array.getElem?_eq_some_iff.mp hcell).1
  refine ⟨(W.setVm vm₁).setVm vm₂, _, _, X₂, fun y hy => ?_, hlt, rfl, rfl, fun target hwalk => st1 _ (fun acts => ?_)⟩
  · simp only [List.mem_cons, List.not_mem_nil, or_false] at hy
    rcases hy with rfl | rfl | rfl | rfl <;> rfl
  · rw [doInvoke_state]
    exact st2 _ hwalk
end VXK
section VXK2
variable {p : Program} {l : Launch} {e : Env} {R : Room} {s : State} {m : MethodId} {args : Array Value} {below : List Frame} {meth : Method} {c : Code} {H : Heap} {locs : List Loc} {cells slots : Nat} {Q : State → Prop}
variable {ls : Array Slot} {rest : List Value} {D : va_G} {cl : List vw_C} {tys : List (ClassId × FieldType)} {ws : va_W}
/-- 'new E("text")' that isn't thrown at once: the object goes on the stack -/
theorem vx_makeS {cc : ByteArray} {pc : Nat} (hexec : p.tables.exec = Jvm.exec) (hb : c.code = cc) (hl : l.stackTraces = false) {own cls text : String} {names : List String} {ik is ic sa ci : Nat} {A : Nat → Prop} {T0 : u_T}
    (hown : s.vm.findClass own = some m.cls) (hcls : Bundle.fit cls = true) (hnames : ∀ n ∈ names, Bundle.fit n = true)
    (hk : (Cond.classLink own ik cls).before args s = true) (hini : (Cond.initialized cls).before args s = true) (hstr : vk_R own is text sa s) (hat : ∀ w ∈ vx_atS own ic cls names, w.before args s = true)
    (hgood : ∀ w ∈ Cond.classLink own ik cls :: Cond.initialized cls :: vx_atS own ic cls names, vx_ot w = true)
    (hU : vx_Zq Bundle.tN "UNASSIGNED_STACK" Bundle.steD A s s.heap) (hN : vx_Zq Bundle.tN "SUPPRESSED_SENTINEL" Bundle.listD A s s.heap) (hS : va_S A s.heap H locs) (hsize : ls.size = c.maxLocals)
    (d0 : decode cc pc = .ok (.new ik, 3)) (d3 : decode cc (pc + 3) = .ok (.dup, 1)) (d4 : decode cc (pc + 4) = .ok (.ldc is, 2)) (d6 : decode cc (pc + 6) = .ok (.invokespecial ic, 3))
    (hK : va_K D cl tys s) (hP : va_P D cl ws H) (hD : va_D A ws) (hA : ∀ q, s.heap.size ≤ q → A q) (hc : cl[ci]? = some (cls, T0, 0))
    (hRframes : names.length + 3 < R.frames) (hRlocals : (rest.map fun v => v.category).sum + (13 * (names.length + 1) + 43) ≤ R.locals) (hRcells : cells + 1 ≤ R.cells) (hRslots : slots + 6 ≤ R.slots)
    (kk : ∀ (q : Nat) (H1 : Heap), va_P D cl (ws ++ [(q, .inr (ci, []))]) H1 → va_D A (ws ++ [(q, .inr (ci, []))]) → va_S A s.heap H1 locs → W p l e R s m args below meth c H1 locs (cells + 1) (slots + 6) Q (F0 m (pc + 9) ls (.ref q :: rest))) :
    W p l e R s m args below meth c H locs cells slots Q (F0 m pc ls rest) := by
  intro T hT X
  subst hT
  have htr : e.platform.stackTraces = false := (show e.platform.stackTraces = l.stackTraces by rw [X.admits.platform]).trans hl
  have Y := vx_rebase X (R' := { frames := R.frames, locals := R.locals, cells := 1, slots := 6 }) (Nat.le_refl _) (Nat.le_refl _) hRcells hRslots
  obtain ⟨s', hA'⟩ : ∃ z, z = (T.setVm s.vm).setFrames (.invoking m args :: below) := ⟨_, rfl⟩
  rw [← hA'] at Y
  have hvm : s'.vm = s.vm := by rw [hA']; rfl
  have hhp : s'.heap = T.heap := by rw [hA']; rfl
  have hW0 : s.WarmedH s'.vm := by rw [hvm]; exact State.WarmedH.refl s
  have hat' : ∀ w ∈ vx_atS own ic cls names, w.before args s' = true := fun w hw => vx_ot_at hW0 hvm.symm (hgood w (List.mem_cons_of_mem _ (List.mem_cons_of_mem _ hw))) (hat w hw)
  have hk' : (Cond.classLink own ik cls).before args s' = true := vx_ot_at hW0 hvm.symm (hgood _ List.mem_cons_self) hk
  have hini' : (Cond.initialized cls).before args s' = true := vx_ot_at hW0 hvm.symm (hgood _ (List.mem_cons_of_mem _ List.mem_cons_self)) hini
  have hU' : vx_Zq Bundle.tN "UNASSIGNED_STACK" Bundle.steD A s' s'.heap := by rw [hhp]; exact vx_Zq.moved hW0.alike (hU.kept hS.2.1)
  have hN' : vx_Zq Bundle.tN "SUPPRESSED_SENTINEL" Bundle.listD A s' s'.heap := by rw [hhp]; exact vx_Zq.moved hW0.alike (hN.kept hS.2.1)
  have h : ∀ w ∈ Bundle.ownAtoms own ic cls names, w.before args s' = true := vx_own hat' (vx_isRefq hU'.1) (vx_isRefq hN'.1) hU'.2.word hN'.2.word
  have hown' : s'.vm.findClass own = some m.cls := by rw [hvm]; exact hown
  have hins : (Cond.instantiable cls 6).before args s' = true := h _ (by simp [Bundle.ownAtoms])
  obtain ⟨vm₁, cX, kX, hfX, hkX, -, -, X₁, st1⟩ := Y.newCold hexec (own := own) (C := cls) (index := ik) (n := 6) hown' hk' hins hini'
    (g := F0 m pc ls rest) rfl (by rw [hb]; exact d0) (Nat.le_refl _) (Nat.le_refl _)
  generalize hT1 : (T.setVm vm₁).pushCell { cls := cX, slots := kX.instanceTypes.map defaultValue, vm := .none } = T1 at X₁ st1
  have hcat : (Value.ref T.heap.size).category = 1 := rfl
  have hcellA : T1.heap[T.heap.size]? = some (freshCell cX kX) := by rw [← hT1]; exact State.heap_pushCell_size _ _
  have d3' : decode c.code (pc + 3) = .ok (.dup, 1) := by rw [hb]; exact d3
  have d4' : decode c.code (pc + 4) = .ok (.ldc is, 2) := by rw [hb]; exact d4
  have hstr' : vk_R own is text sa s' := vk_R.warm hW0 hstr
  obtain ⟨V, ce, L, Z, hL, hlt, hcl9, hvm9, st⟩ := vx_ctorMadeS X₁ hexec htr (own := own) (cls := cls) (names := names) (ic := ic) hown' hcls hnames h (fun x hx => nomatch hx) hfX hkX hcellA (by rw [hhp]; exact Nat.le_refl _) (msg := .ref sa) rfl
    (g := { method := m, pc := pc + 6, locals := ls, stack := .ref sa :: .ref T.heap.size :: .ref T.heap.size :: rest, locked := none }) rfl hsize (rest := rest) rfl
    (by rw [hb]; exact d6) hRframes (by simp only [List.map_cons, List.sum_cons, hcat]; omega)
  have Z0 := Stand.forget (locs := []) Z (fun y hy => by rw [hL y hy, hhp]; exact Nat.le_refl _)
  obtain ⟨f1, f2⟩ := vx_frame Z0.same
  rw [hhp] at f1 f2
  have hcid : ce.cls = D.1 ci := by
    rw [hcl9]
    have h1 := (hK.1 ci _ hc).2.1
    rw [hvm] at hfX
    exact Option.some.inj (hfX.symm.trans h1)
  have hh : (V.setCell T.heap.size ce).heap[T.heap.size]? = some ce := heapAt_setCell_self (s := V) ce hlt
  subst hA'
  have X5 := vx_back9 X Y Z0
  have X6 : Stand p l e R s m args below meth c (V.setCell T.heap.size ce) locs (cells + 1) (slots + 6) := { X5 with same := X5.same.mono (by omega) (by omega) }
  have hk9 : ∀ (k : Nat) (x : Nat × va_E), ws[k]? = some x → (V.setCell T.heap.size ce).heap[x.1]? = T.heap[x.1]? := fun k x hx => f2 x.1 ((hP k x hx).lt) (fun z hz => nomatch hz)
  obtain ⟨t, a1, b1⟩ := kk T.heap.size (V.setCell T.heap.size ce).heap ((hP.kept hk9).app (fun k x hx => by
      have hz : k < 1 := (List.getElem?_eq_some_iff.mp hx).1
      rw [show k = 0 by omega] at hx
      cases hx
      exact ⟨_, hc, ce, hh, hcid, hvm9, fun k hk => absurd hk (Nat.not_lt_zero k)⟩)) (hD.push hP rfl (hA _ hS.1)) ⟨Nat.le_trans hS.1 f1, fun q h1 h2 => (f2 q (Nat.lt_of_lt_of_le h1 hS.1) (fun z hz => nomatch hz)).trans (hS.2.1 q h1 h2), hS.2.2⟩ _ rfl X6
  refine ⟨t, st1 _ ?_, b1⟩
  show Steps p.tables e below (T1.setTop { method := m, pc := pc + 3, locals := ls, stack := .ref T.heap.size :: rest, locked := none }) _
  jvm_step X₁.here [X₁.here.top, hexec, d3', Value.category]
  exact X₁.ldcString hexec (own := own) (text := text) (index := is) (a := sa) hown' hstr'.1 hstr'.2
    (g := { method := m, pc := pc + 4, locals := ls, stack := .ref T.heap.size :: .ref T.heap.size :: rest, locked := none }) rfl d4' _ (st _ a1)
/-- 'new E()' that isn't thrown at once: the object goes on the stack -/
theorem vx_make0 {cc : ByteArray} {pc : Nat} (hexec : p.tables.exec = Jvm.exec) (hb : c.code = cc) (hl : l.stackTraces = false) {own cls : String} {names : List String} {ik ic ci : Nat} {A : Nat → Prop} {T0 : u_T}
    (hown : s.vm.findClass own = some m.cls) (hcls : Bundle.fit cls = true) (hnames : ∀ n ∈ names, Bundle.fit n = true)
    (hk : (Cond.classLink own ik cls).before args s = true) (hini : (Cond.initialized cls).before args s = true) (hat : ∀ w ∈ vx_at0 own ic cls names, w.before args s = true)
    (hgood : ∀ w ∈ Cond.classLink own ik cls :: Cond.initialized cls :: vx_at0 own ic cls names, vx_ot w = true)
    (hU : vx_Zq Bundle.tN "UNASSIGNED_STACK" Bundle.steD A s s.heap) (hN : vx_Zq Bundle.tN "SUPPRESSED_SENTINEL" Bundle.listD A s s.heap) (hS : va_S A s.heap H locs) (hsize : ls.size = c.maxLocals)
    (d0 : decode cc pc = .ok (.new ik, 3)) (d3 : decode cc (pc + 3) = .ok (.dup, 1)) (d4 : decode cc (pc + 4) = .ok (.invokespecial ic, 3))
    (hK : va_K D cl tys s) (hP : va_P D cl ws H) (hD : va_D A ws) (hA : ∀ q, s.heap.size ≤ q → A q) (hc : cl[ci]? = some (cls, T0, 0))
    (hRframes : names.length + 3 < R.frames) (hRlocals : (rest.map fun v => v.category).sum + (13 * (names.length + 1) + 42) ≤ R.locals) (hRcells : cells + 1 ≤ R.cells) (hRslots : slots + 6 ≤ R.slots)
    (kk : ∀ (q : Nat) (H1 : Heap), va_P D cl (ws ++ [(q, .inr (ci, []))]) H1 → va_D A (ws ++ [(q, .inr (ci, []))]) → va_S A s.heap H1 locs → W p l e R s m args below meth c H1 locs (cells + 1) (slots + 6) Q (F0 m (pc + 7) ls (.ref q :: rest))) :
    W p l e R s m args below meth c H locs cells slots Q (F0 m pc ls rest) := by
  intro T hT X
  subst hT
  have htr : e.platform.stackTraces = false := (show e.platform.stackTraces = l.stackTraces by rw [X.admits.platform]).trans hl
  have Y := vx_rebase X (R' := { frames := R.frames, locals := R.locals, cells := 1, slots := 6 }) (Nat.le_refl _) (Nat.le_refl _) hRcells hRslots
  obtain ⟨s', hA'⟩ : ∃ z, z = (T.setVm s.vm).setFrames (.invoking m args :: below) := ⟨_, rfl⟩
  rw [← hA'] at Y
  have hvm : s'.vm = s.vm := by rw [hA']; rfl
  have hhp : s'.heap = T.heap := by rw [hA']; rfl
  have hW0 : s.WarmedH s'.vm := by rw [hvm]; exact State.WarmedH.refl s
  have hat' : ∀ w ∈ vx_at0 own ic cls names, w.before args s' = true := fun w hw => vx_ot_at hW0 hvm.symm (hgood w (List.mem_cons_of_mem _ (List.mem_cons_of_mem _ hw))) (hat w hw)
  have hk' : (Cond.classLink own ik cls).before args s' = true := vx_ot_at hW0 hvm.symm (hgood _ List.mem_cons_self) hk
  have hini' : (Cond.initialized cls).before args s' = true := vx_ot_at hW0 hvm.symm (hgood _ (List.mem_cons_of_mem _ List.mem_cons_self)) hini
  have hU' : vx_Zq Bundle.tN "UNASSIGNED_STACK" Bundle.steD A s' s'.heap := by rw [hhp]; exact vx_Zq.moved hW0.alike (hU.kept hS.2.1)
  have hN' : vx_Zq Bundle.tN "SUPPRESSED_SENTINEL" Bundle.listD A s' s'.heap := by rw [hhp]; exact vx_Zq.moved hW0.alike (hN.kept hS.2.1)
  have h : ∀ w ∈ Bundle.ownAtoms0 own ic cls names, w.before args s' = true := vx_own hat' (vx_isRefq hU'.1) (vx_isRefq hN'.1) hU'.2.word hN'.2.word
  have hown' : s'.vm.findClass own = some m.cls := by rw [hvm]; exact hown
  have hins : (Cond.instantiable cls 6).before args s' = true := h _ (by simp [Bundle.ownAtoms0])
  obtain ⟨vm₁, cX, kX, hfX, hkX, -, -, X₁, st1⟩ := Y.newCold hexec (own := own) (C := cls) (index := ik) (n := 6) hown' hk' hins hini'
    (g := F0 m pc ls rest) rfl (by rw [hb]; exact d0) (Nat.le_refl _) (Nat.le_refl _)
  generalize hT1 : (T.setVm vm₁).pushCell { cls := cX, slots := kX.instanceTypes.map defaultValue, vm := .none } = T1 at X₁ st1
  have hcat : (Value.ref T.heap.size).category = 1 := rfl
  have hcellA : T1.heap[T.heap.size]? = some (freshCell cX kX) := by rw [← hT1]; exact State.heap_pushCell_size _ _
  have d3' : decode c.code (pc + 3) = .ok (.dup, 1) := by rw [hb]; exact d3
  obtain ⟨V, ce, L, Z, hL, hlt, hcl9, hvm9, st⟩ := vx_ctorMade0 X₁ hexec htr (own := own) (cls := cls) (names := names) (ic := ic) hown' hcls hnames h (fun x hx => nomatch hx) hfX hkX hcellA (by rw [hhp]; exact Nat.le_refl _)
    (g := { method := m, pc := pc + 4, locals := ls, stack := .ref T.heap.size :: .ref T.heap.size :: rest, locked := none }) rfl hsize (rest := rest) rfl
    (by rw [hb]; exact d4) hRframes (by simp only [List.map_cons, List.sum_cons, hcat]; omega)
  have Z0 := Stand.forget (locs := []) Z (fun y hy => by rw [hL y hy, hhp]; exact Nat.le_refl _)
  obtain ⟨f1, f2⟩ := vx_frame Z0.same
  rw [hhp] at f1 f2
  have hcid : ce.cls = D.1 ci := by
    rw [hcl9]
    have h1 := (hK.1 ci _ hc).2.1
    rw [hvm] at hfX
    exact Option.some.inj (hfX.symm.trans h1)
  have hh : (V.setCell T.heap.size ce).heap[T.heap.size]? = some ce := heapAt_setCell_self (s := V) ce hlt
  subst hA'
  have X5 := vx_back9 X Y Z0
  have X6 : Stand p l e R s m args below meth c (V.setCell T.heap.size ce) locs (cells + 1) (slots + 6) := { X5 with same := X5.same.mono (by omega) (by omega) }
  have hk9 : ∀ (k : Nat) (x : Nat × va_E), ws[k]? = some x → (V.setCell T.heap.size ce).heap[x.1]? = T.heap[x.1]? := fun k x hx => f2 x.1 ((hP k x hx).lt) (fun z hz => nomatch hz)
  obtain ⟨t, a1, b1⟩ := kk T.heap.size (V.setCell T.heap.size ce).heap ((hP.kept hk9).app (fun k x hx => by
      have hz : k < 1 := (List.getElem?_eq_some_iff.mp hx).1
      rw [show k = 0 by omega] at hx
      cases hx
      exact ⟨_, hc, ce, hh, hcid, hvm9, fun k hk => absurd hk (Nat.not_lt_zero k)⟩)) (hD.push hP rfl (hA _ hS.1)) ⟨Nat.le_trans hS.1 f1, fun q h1 h2 => (f2 q (Nat.lt_of_lt_of_le h1 hS.1) (fun z hz => nomatch hz)).trans (hS.2.1 q h1 h2), hS.2.2⟩ _ rfl X6
  refine ⟨t, st1 _ ?_, b1⟩
  show Steps p.tables e below (T1.setTop { method := m, pc := pc + 3, locals := ls, stack := .ref T.heap.size :: rest, locked := none }) _
  jvm_step X₁.here [X₁.here.top, hexec, d3', Value.category]
  exact st _ a1
/-- 'throw x' of an object that was made before -/
theorem vx_athrow {cc : ByteArray} {pc : Nat} (hexec : p.tables.exec = Jvm.exec) (hb : c.code = cc) {q : Addr} (hdg : decode cc pc = .ok (.athrow, 1)) (k : vx_W p l e R s m args below meth c H locs cells slots Q (F0 m pc ls rest) q) : W p l e R s m args below meth c H locs cells slots Q (F0 m pc ls (.ref q :: rest)) := by
  intro T hT X
  obtain ⟨t, st, hq⟩ := k T hT X
  refine ⟨t, ?_, hq⟩
  have hdg' : decode c.code pc = .ok (.athrow, 1) := by rw [hb]; exact hdg
  jvm_step X.here [X.here.top, hexec, hdg', athrow.wp_sem]
  exact st
end VXK2
/-! ===== END ===== -/
/-! ===== BEGIN a constructor that throws (launches without stack traces) ===== -/
section VXIA
variable {p : Program} {l : Launch} {e : Env} {R : Room} {s : State} {m : MethodId} {args : Array Value} {below : List Frame} {meth : Method} {c : Code} {T : State} {locs : List Loc} {cells slots : Nat}
theorem vx_callI (X : Stand p l e R s m args below meth c T locs cells slots) (hexec : p.tables.exec = Jvm.exec) {own : String} {index : Nat} {y : MethodName} {bytes : ByteArray} {maxL : Nat}
    (hown : s.vm.findClass own = some m.cls) (hy1 : y.name = "<init>") (hlink : (Cond.methodLink own index y).before args s = true) (hinst : (Cond.instanceMethod y).before args s = true)
    (hcode : (Cond.code y bytes maxL none).before args s = true) (hy : y.cls ≠ "java/lang/invoke/MethodHandle" ∧ y.cls ≠ "java/lang/invoke/VarHandle")
    {W9 : Nat} {Pre : Pt → Array Value → Prop} {Post : Pt → Array Value → Option Value → Pt → Prop} {PostX : Pt → Array Value → Addr → Pt → Prop} (hK : vx_Back l R p e below s args y 3 W9 Pre Post PostX)
    {g : JFrame} (hg : g.method = m) (hsize : g.locals.size = c.maxLocals) {a : Addr} {argsL rest : List Value} (hlen : ∀ sig, parseMethodDescriptor y.desc = some sig → argsL.length = sig.parameters.length)
    (hstack : g.stack = argsL.reverse ++ .ref a :: rest) (hW : 2 * g.monitorRoom + (rest.map fun v => v.category).sum ≤ W9) (hdg : decode c.code g.pc = .ok (.invokespecial index, 3))
    (hpre : ∀ vm₁, s.WarmedH vm₁ → Pre ⟨T.setVm vm₁, locs, cells, slots⟩ (Value.ref a :: argsL).toArray) :
    (∃ (v : Option Value) (vm₁ : Vm) (B : Pt), s.WarmedH vm₁ ∧ Stand p l e R s m args below meth c B.U B.locs B.cells B.slots ∧ Post ⟨T.setVm vm₁, locs, cells, slots⟩ (Value.ref a :: argsL).toArray v B ∧
      ∀ target, Steps p.tables e below (B.U.setTop { g with pc := g.pc + 3, stack := v.toList ++ rest }) target → Steps p.tables e below (T.setTop g) target) ∨
    (∃ (q : Addr) (vm₁ : Vm) (B : Pt), s.WarmedH vm₁ ∧ Stand p l e R s m args below meth c B.U B.locs B.cells B.slots ∧ PostX ⟨T.setVm vm₁, locs, cells, slots⟩ (Value.ref a :: argsL).toArray q B ∧
      Steps p.tables e below (T.setTop g) ((B.U.setTop { g with stack := rest }).pushFrame (.throwing q))) := by
  subst hg
  have hpl : e.platform.magicAccessors = ({} : Platform).magicAccessors := by rw [X.admits.platform]
  obtain ⟨mk, methM, cM, kP, vm₁, hnamed, hmethM, hcodeM, -, hlocalsM, -, hkP, -, hW₁, hstep₁⟩ := Steps.initColdArgs (e := e) X.here hexec X.warmed hpl hown hy1 hy hlink hinst hcode (f := g) rfl hlen hstack hdg
  have X₁ := X.noted hW₁
  rcases hK g.method meth c ⟨T.setVm vm₁, locs, cells, slots⟩ { g with stack := rest } (.invokespecial index) mk (Value.ref a :: argsL).toArray X₁ rfl hsize hdg hW (X₁.named hnamed) (hpre vm₁ X₁.warmed) with ⟨v, B, X', hpost, hsteps⟩ | ⟨q, B, X', hpost, hsteps⟩
  · exact Or.inl ⟨v, vm₁, B, X₁.warmed, X', hpost, fun target h => hstep₁ _ fun acts => by rw [doInvoke_state]; exact hsteps.trans h⟩
  · exact Or.inr ⟨q, vm₁, B, X₁.warmed, X', hpost, hstep₁ _ fun acts => by rw [doInvoke_state]; exact hsteps⟩
end VXIA
section VXIB
variable {p : Program} {l : Launch} {e : Env} {R : Room} {s : State} {m : MethodId} {args : Array Value} {below : List Frame} {meth : Method} {c : Code} {H : Heap} {locs : List Loc} {cells slots : Nat}
variable {y : MethodName} {bytes cc : ByteArray} {maxL nL mc ms n index : Nat} {ret : Option FieldType} {ws : List Cond} {rm : Room} {Pc : Array Value → State → Prop} {Qc : Array Value → State → Outcome → State → Prop} {XC : String → State → State → Prop} {free : Addr → Prop} {Ts : List Cond} {own C : String} {b : Addr} {As rest : List Value} {g : JFrame}
theorem vx_runI (S : CallFix p m c cc nL s args Ts own) (hM : vx_Met l y ws rm Pc Qc XC mc ms free) (cw : CallB R s args own index y bytes maxL none ws rm mc ms n ∧ y.name = "<init>" ∧ (Cond.instanceMethod y).before args s = true) (hp : PreS s H Pc (.ref b :: As))
    (hg : g.method = m) (hn : As.length = n) (hsize : g.locals.size = nL) (hstack : g.stack = As.reverse ++ .ref b :: rest) (hW : 2 * g.monitorRoom + (rest.map fun v => v.category).sum ≤ 8) (hdg : decode cc g.pc = .ok (.invokespecial index, 3)) (hf : cells + mc ≤ R.cells ∧ slots + ms ≤ R.slots) :
    vx_Run p l e R s m args below meth c H locs cells slots mc ms g rest (Qc (Value.ref b :: As).toArray) XC free := by
  have hK : vx_Back l R p e below s args y 3 8 (PreOf R mc ms Pc) (PostOf Qc mc ms free) (vx_Post XC mc ms free) := vx_callBack cw.1 hM hp.1
  obtain ⟨⟨-, -, -, -, -, -, hcode, -, hy, hlen, hl⟩, hy1, hin⟩ := cw
  obtain ⟨hx, hb, hml, ho, -⟩ := S
  have hPc := hp.2
  intro T hT X
  rcases vx_callI X hx (bytes := bytes) (maxL := maxL) ho hy1 hl hin hcode hy hK hg (hsize.trans hml.symm) (a := b) (argsL := As) (rest := rest) (fun sig h => hn.trans (hlen sig h)) hstack hW (by rw [hb]; exact hdg)
    (fun vm₁ hW₁ => ⟨hf.1, hf.2, hPc (T.setVm vm₁) hT hW₁⟩) with ⟨v, vm₁, ⟨U', l2, c2, s2⟩, hW₁, X', ⟨g', mk, t, L, e1, e2, hq, h1, hL, h2, h3⟩, st⟩ | ⟨q, vm₁, ⟨U', l2, c2, s2⟩, hW₁, X', ⟨g', mk, t, L, E, ce, e1, e2, hq, hce, hcv, hcl, h1, hL, h2, h3⟩, st⟩
  · dsimp only [Pt.U, Pt.locs, Pt.cells, Pt.slots] at X' e1 e2 h1 h2 h3 st
    subst h1; subst h2; subst h3
    exact Or.inl ⟨v, (T.setVm vm₁).calling g' mk (Value.ref b :: As).toArray, t, U', L, hT, X', hL, e1, e2, hq, st⟩
  · dsimp only [Pt.U, Pt.locs, Pt.cells, Pt.slots] at X' e1 e2 h1 h2 h3 st hcl
    subst h1; subst h2; subst h3
    exact Or.inr ⟨q, (T.setVm vm₁).calling g' mk (Value.ref b :: As).toArray, t, U', L, E, ce, hT, X', hL, e1, e2, hq, hce, hcv, vx_cls hW₁ hcl, st⟩
end VXIB
/-! ===== END ===== -/
/-! ===== BEGIN a private constructor of a nest mate that throws ===== -/
section VXIC
variable {p : Program} {l : Launch} {e : Env} {R : Room} {s : State} {m : MethodId} {args : Array Value} {below : List Frame} {meth : Method} {c : Code} {T : State} {locs : List Loc} {cells slots : Nat}
theorem vx_callIN (X : Stand p l e R s m args below meth c T locs cells slots) (hexec : p.tables.exec = Jvm.exec) {own : String} {index : Nat} {host : String} {y : MethodName} {bytes : ByteArray} {maxL : Nat}
    (hown : s.vm.findClass own = some m.cls) (hy1 : y.name = "<init>") (hlink : (Cond.methodLinkNest own index y host).before args s = true) (hinst : (Cond.instanceMethod y).before args s = true)
    (hcode : (Cond.code y bytes maxL none).before args s = true) (hy : y.cls ≠ "java/lang/invoke/MethodHandle" ∧ y.cls ≠ "java/lang/invoke/VarHandle")
    {W9 : Nat} {Pre : Pt → Array Value → Prop} {Post : Pt → Array Value → Option Value → Pt → Prop} {PostX : Pt → Array Value → Addr → Pt → Prop} (hK : vx_Back l R p e below s args y 3 W9 Pre Post PostX)
    {g : JFrame} (hg : g.method = m) (hsize : g.locals.size = c.maxLocals) {a : Addr} {argsL rest : List Value} (hlen : ∀ sig, parseMethodDescriptor y.desc = some sig → argsL.length = sig.parameters.length)
    (hstack : g.stack = argsL.reverse ++ .ref a :: rest) (hW : 2 * g.monitorRoom + (rest.map fun v => v.category).sum ≤ W9) (hdg : decode c.code g.pc = .ok (.invokespecial index, 3))
    (hpre : ∀ vm₁, s.WarmedH vm₁ → Pre ⟨T.setVm vm₁, locs, cells, slots⟩ (Value.ref a :: argsL).toArray) :
    (∃ (v : Option Value) (vm₁ : Vm) (B : Pt), s.WarmedH vm₁ ∧ Stand p l e R s m args below meth c B.U B.locs B.cells B.slots ∧ Post ⟨T.setVm vm₁, locs, cells, slots⟩ (Value.ref a :: argsL).toArray v B ∧
      ∀ target, Steps p.tables e below (B.U.setTop { g with pc := g.pc + 3, stack := v.toList ++ rest }) target → Steps p.tables e below (T.setTop g) target) ∨
    (∃ (q : Addr) (vm₁ : Vm) (B : Pt), s.WarmedH vm₁ ∧ Stand p l e R s m args below meth c B.U B.locs B.cells B.slots ∧ PostX ⟨T.setVm vm₁, locs, cells, slots⟩ (Value.ref a :: argsL).toArray q B ∧
      Steps p.tables e below (T.setTop g) ((B.U.setTop { g with stack := rest }).pushFrame (.throwing q))) := by
  subst hg
  have hpl : e.platform.magicAccessors = ({} : Platform).magicAccessors := by rw [X.admits.platform]
  obtain ⟨mk, methM, cM, kP, vm₁, hnamed, hmethM, hcodeM, -, hlocalsM, -, hkP, -, hW₁, hstep₁⟩ := Steps.initColdArgsNest (e := e) X.here hexec X.warmed hpl hown hy1 hy hlink hinst hcode (f := g) rfl hlen hstack hdg
  have X₁ := X.noted hW₁
  rcases hK g.method meth c ⟨T.setVm vm₁, locs, cells, slots⟩ { g with stack := rest } (.invokespecial index) mk (Value.ref a :: argsL).toArray X₁ rfl hsize hdg hW (X₁.named hnamed) (hpre vm₁ X₁.warmed) with ⟨v, B, X', hpost, hsteps⟩ | ⟨q, B, X', hpost, hsteps⟩
  · exact Or.inl ⟨v, vm₁, B, X₁.warmed, X', hpost, fun target h => hstep₁ _ fun acts => by rw [doInvoke_state]; exact hsteps.trans h⟩
  · exact Or.inr ⟨q, vm₁, B, X₁.warmed, X', hpost, hstep₁ _ fun acts => by rw [doInvoke_state]; exact hsteps⟩
end VXIC
section VXID
variable {p : Program} {l : Launch} {e : Env} {R : Room} {s : State} {m : MethodId} {args : Array Value} {below : List Frame} {meth : Method} {c : Code} {H : Heap} {locs : List Loc} {cells slots : Nat}
theorem vx_runIN {y : MethodName} {bytes cc : ByteArray} {maxL nL mc ms n index : Nat} {ws : List Cond} {rm : Room} {Pc : Array Value → State → Prop} {Qc : Array Value → State → Outcome → State → Prop} {XC : String → State → State → Prop} {free : Addr → Prop} {Ts : List Cond} {own host : String} {b : Addr} {As rest : List Value} {g : JFrame}
    (S : CallFix p m c cc nL s args Ts own) (hM : vx_Met l y ws rm Pc Qc XC mc ms free) (cw : va_CN R s args own index y host bytes maxL none ws rm mc ms n ∧ y.name = "<init>" ∧ (Cond.instanceMethod y).before args s = true) (hp : PreS s H Pc (.ref b :: As))
    (hg : g.method = m) (hn : As.length = n) (hsize : g.locals.size = nL) (hstack : g.stack = As.reverse ++ .ref b :: rest) (hW : 2 * g.monitorRoom + (rest.map fun v => v.category).sum ≤ 8) (hdg : decode cc g.pc = .ok (.invokespecial index, 3)) (hf : cells + mc ≤ R.cells ∧ slots + ms ≤ R.slots) :
    vx_Run p l e R s m args below meth c H locs cells slots mc ms g rest (Qc (Value.ref b :: As).toArray) XC free := by
  obtain ⟨⟨⟨hrc, hrs, hfr, hlo, hws, hcw⟩, hcode, hini, hy, hlen, hl⟩, hx1, hx2⟩ := cw
  have hK : vx_Back l R p e below s args y 3 8 (PreOf R mc ms Pc) (PostOf Qc mc ms free) (vx_Post XC mc ms free) := vx_back (bytes := bytes) (maxL := maxL) (ret := none) hM hp.1 hrc hrs hfr hlo hws hcw (fun a' U hW => word_at hW (Or.inl (by first | rfl | simp [Cond.onTables, Cond.keeps, Cond.steady])) hini)
  obtain ⟨hx, hb, hml, ho, -⟩ := S
  have hPc := hp.2
  intro T hT X
  rcases vx_callIN X hx (bytes := bytes) (maxL := maxL) ho hx1 hl hx2 hcode hy hK hg (hsize.trans hml.symm) (a := b) (argsL := As) (rest := rest) (fun sig h => hn.trans (hlen sig h)) hstack hW (by rw [hb]; exact hdg)
    (fun vm₁ hW₁ => ⟨hf.1, hf.2, hPc (T.setVm vm₁) hT hW₁⟩) with ⟨v, vm₁, ⟨U', l2, c2, s2⟩, hW₁, X', ⟨g', mk, t, L, e1, e2, hq, h1, hL, h2, h3⟩, st⟩ | ⟨q, vm₁, ⟨U', l2, c2, s2⟩, hW₁, X', ⟨g', mk, t, L, E, ce, e1, e2, hq, hce, hcv, hcl, h1, hL, h2, h3⟩, st⟩
  · dsimp only [Pt.U, Pt.locs, Pt.cells, Pt.slots] at X' e1 e2 h1 h2 h3 st
    subst h1; subst h2; subst h3
    exact Or.inl ⟨v, (T.setVm vm₁).calling g' mk (Value.ref b :: As).toArray, t, U', L, hT, X', hL, e1, e2, hq, st⟩
  · dsimp only [Pt.U, Pt.locs, Pt.cells, Pt.slots] at X' e1 e2 h1 h2 h3 st hcl
    subst h1; subst h2; subst h3
    exact Or.inr ⟨q, (T.setVm vm₁).calling g' mk (Value.ref b :: As).toArray, t, U', L, E, ce, hT, X', hL, e1, e2, hq, hce, hcv, vx_cls hW₁ hcl, st⟩
end VXID
/-! ===== END ===== -/
/-! ===== BEGIN a method of a class above, found by the receiver, that may throw (follows va_callVU, va_runU of this kit) ===== -/
section
variable {p : Program} {l : Launch} {e : Env} {R : Room} {s : State} {m : MethodId} {args : Array Value} {below : List Frame} {meth : Method} {c : Code} {H : Heap} {locs : List Loc} {cells slots : Nat}
theorem vx_callVU {T : State} {locs : List Loc} {cells slots : Nat} (X : Stand p l e R s m args below meth c T locs cells slots) (hexec : p.tables.exec = Jvm.exec) {own C owner : String} {index : Nat} {x y : MethodName} {bytes : ByteArray} {maxL : Nat} {ret : Option FieldType}
    (hown : s.vm.findClass own = some m.cls) (hlink : (Cond.methodLink own index x).before args s = true) (hsame : (Cond.sameMethod x.cls owner x.name x.desc).before args s = true)
    (hd0 : va_Decl s ⟨owner, x.name, x.desc⟩) (howner : owner ≠ "java/lang/invoke/MethodHandle" ∧ owner ≠ "java/lang/invoke/VarHandle")
    (hsel : (Cond.selects C x y).before args s = true) (hinst : (Cond.instanceMethod y).before args s = true) (hcode : (Cond.code y bytes maxL ret).before args s = true)
    {W : Nat} {Pre : Pt → Array Value → Prop} {Post : Pt → Array Value → Option Value → Pt → Prop} {PostX : Pt → Array Value → Addr → Pt → Prop} (hK : vx_Back l R p e below s args y 3 W Pre Post PostX)
    {b : Addr} {cellB : Cell} (hcell : T.heap[b]? = some cellB) (hobj : cellB.vm.isStatics = false) (hcls : s.vm.findClass C = some cellB.cls)
    {g : JFrame} (hg : g.method = m) (hsize : g.locals.size = c.maxLocals) {argsL rest : List Value} (hlen : ∀ sig, parseMethodDescriptor x.desc = some sig → argsL.length = sig.parameters.length)
    (hstack : g.stack = argsL.reverse ++ .ref b :: rest) (hW : 2 * g.monitorRoom + (rest.map fun v => v.category).sum ≤ W) (hdg : decode c.code g.pc = .ok (.invokevirtual index, 3))
    (hpre : ∀ vm₁, s.WarmedH vm₁ → Pre ⟨T.setVm vm₁, locs, cells, slots⟩ (Value.ref b :: argsL).toArray) :
    (∃ (v : Option Value) (vm₁ : Vm) (B : Pt), s.WarmedH vm₁ ∧ Stand p l e R s m args below meth c B.U B.locs B.cells B.slots ∧ Post ⟨T.setVm vm₁, locs, cells, slots⟩ (Value.ref b :: argsL).toArray v B ∧
      ∀ target, Steps p.tables e below (B.U.setTop { g with pc := g.pc + 3, stack := v.toList ++ rest }) target → Steps p.tables e below (T.setTop g) target) ∨
    (∃ (q : Addr) (vm₁ : Vm) (B : Pt), s.WarmedH vm₁ ∧ Stand p l e R s m args below meth c B.U B.locs B.cells B.slots ∧ PostX ⟨T.setVm vm₁, locs, cells, slots⟩ (Value.ref b :: argsL).toArray q B ∧
      Steps p.tables e below (T.setTop g) ((B.U.setTop { g with stack := rest }).pushFrame (.throwing q))) := by
  obtain ⟨r0, r, hn, hrm, hstR, hsigR⟩ := hd0
  obtain ⟨cn, ck, r1, hcn, hck, hni, hf, hn1⟩ := Cond.sameMethod_found hsame
  cases hn.symm.trans hn1
  obtain ⟨mk, methM, hnamed, hmethM, -, habM⟩ := Cond.instanceMethod_spec hinst
  obtain ⟨c2, r2, m2, q1, q2, q3, q4, kP, hkP, hkPi⟩ := Cond.selects_spec hsel
  cases hcls.symm.trans q1
  cases hf.symm.trans q2
  cases hnamed.symm.trans q3
  have hselP : selectMethod e.platform s.vm cellB.cls r0 = .method mk := by rw [Launch.admits_selectMethod X.admits]; exact q4
  obtain ⟨vm₁, X₁, hstep₁⟩ := X.invokevirtualUp hexec hown hlink hsame howner hn hrm hstR (a := b) (cell := cellB) hcell
    (fun z h => by rw [h] at hobj; cases hobj) hselP hmethM habM hkP hkPi (g := g) hg (argsL := argsL) (rest := rest) (hlen _ hsigR) hstack hdg
  rcases hK m meth c ⟨T.setVm vm₁, locs, cells, slots⟩ { g with stack := rest } (.invokevirtual index) mk (Value.ref b :: argsL).toArray X₁ hg hsize hdg hW (X₁.named hnamed) (hpre vm₁ X₁.warmed) with ⟨v, B, X', hpost, hsteps⟩ | ⟨q, B, X', hpost, hsteps⟩
  · exact Or.inl ⟨v, vm₁, B, X₁.warmed, X', hpost, fun target h => hstep₁ _ fun acts => by rw [doInvoke_state]; exact hsteps.trans h⟩
  · exact Or.inr ⟨q, vm₁, B, X₁.warmed, X', hpost, hstep₁ _ fun acts => by rw [doInvoke_state]; exact hsteps⟩
theorem vx_runU {x y : MethodName} {bytes cc : ByteArray} {maxL nL mc ms n index : Nat} {ret : Option FieldType} {ws : List Cond} {rm : Room} {Pc : Array Value → State → Prop} {Qc : Array Value → State → Outcome → State → Prop} {XC : String → State → State → Prop} {free : Addr → Prop} {Ts : List Cond} {own C owner : String} {b : Addr} {As rest : List Value} {g : JFrame}
    (S : CallFix p m c cc nL s args Ts own) (hM : vx_Met l y ws rm Pc Qc XC mc ms free) (cw : va_CU R s args own C owner index x y bytes maxL ret ws rm mc ms n) (hp : PreV s H C b Pc As)
    (hg : g.method = m) (hn : As.length = n) (hsize : g.locals.size = nL) (hstack : g.stack = As.reverse ++ .ref b :: rest) (hW : 2 * g.monitorRoom + (rest.map fun v => v.category).sum ≤ 8) (hdg : decode cc g.pc = .ok (.invokevirtual index, 3)) (hf : cells + mc ≤ R.cells ∧ slots + ms ≤ R.slots) :
    vx_Run p l e R s m args below meth c H locs cells slots mc ms g rest (Qc (Value.ref b :: As).toArray) XC free := by
  obtain ⟨hrc, hrs, hfr, hlo, hws, hcw⟩ := cw.back
  have hini := cw.init
  have hK : vx_Back l R p e below s args y 3 8 (PreOf R mc ms Pc) (PostOf Qc mc ms free) (vx_Post XC mc ms free) := vx_back (bytes := bytes) (maxL := maxL) (ret := ret) hM hp.1 hrc hrs hfr hlo hws hcw (fun a' U hW => word_at hW (Or.inl (by first | rfl | simp [Cond.onTables, Cond.keeps, Cond.steady])) hini)
  obtain ⟨hx, hb, hml, ho, -⟩ := S
  obtain ⟨-, ⟨cellB, hcB, hoB, hclB⟩, hPc⟩ := hp
  intro T hT X
  rcases vx_callVU X hx (C := C) (owner := owner) (bytes := bytes) (maxL := maxL) (ret := ret) ho cw.link cw.same cw.decl cw.notMH cw.sel cw.inst cw.code hK (by rw [hT]; exact hcB) hoB hclB hg (hsize.trans hml.symm) (argsL := As) (rest := rest) (fun sig h => hn.trans (cw.len sig h)) hstack hW (by rw [hb]; exact hdg)
    (fun vm₁ hW₁ => ⟨hf.1, hf.2, hPc (T.setVm vm₁) hT hW₁⟩) with ⟨v, vm₁, ⟨U', l2, c2, s2⟩, hW₁, X', ⟨g', mk, t, L, e1, e2, hq, h1, hL, h2, h3⟩, st⟩ | ⟨q, vm₁, ⟨U', l2, c2, s2⟩, hW₁, X', ⟨g', mk, t, L, E, ce, e1, e2, hq, hce, hcv, hcl, h1, hL, h2, h3⟩, st⟩
  · dsimp only [Pt.U, Pt.locs, Pt.cells, Pt.slots] at X' e1 e2 h1 h2 h3 st
    subst h1; subst h2; subst h3
    exact Or.inl ⟨v, (T.setVm vm₁).calling g' mk (Value.ref b :: As).toArray, t, U', L, hT, X', hL, e1, e2, hq, st⟩
  · dsimp only [Pt.U, Pt.locs, Pt.cells, Pt.slots] at X' e1 e2 h1 h2 h3 st hcl
    subst h1; subst h2; subst h3
    exact Or.inr ⟨q, (T.setVm vm₁).calling g' mk (Value.ref b :: As).toArray, t, U', L, E, ce, hT, X', hL, e1, e2, hq, hce, hcv, vx_cls hW₁ hcl, st⟩
end
/-! ===== END ===== -/
/-! ===== BEGIN super.m(..) that may throw (follows va_callSU, va_runSU) ===== -/
section
variable {p : Program} {l : Launch} {e : Env} {R : Room} {s : State} {m : MethodId} {args : Array Value} {below : List Frame} {meth : Method} {c : Code} {H : Heap} {locs : List Loc} {cells slots : Nat}
theorem vx_callSU {T : State} {locs : List Loc} {cells slots : Nat} (X : Stand p l e R s m args below meth c T locs cells slots) (hexec : p.tables.exec = Jvm.exec) {own : String} {index : Nat} {y : MethodName} {bytes : ByteArray} {maxL : Nat} {ret : Option FieldType}
    (hown : s.vm.findClass own = some m.cls) (hlink : (Cond.methodLink own index y).before args s = true) (hsame : (Cond.sameMethod y.cls y.cls y.name y.desc).before args s = true) (hsup : (Cond.superclass own y.cls).before args s = true)
    (hinst : (Cond.instanceMethod y).before args s = true) (hcode : (Cond.code y bytes maxL ret).before args s = true) (hno : y.name ≠ "<init>")
    {W : Nat} {Pre : Pt → Array Value → Prop} {Post : Pt → Array Value → Option Value → Pt → Prop} {PostX : Pt → Array Value → Addr → Pt → Prop} (hK : vx_Back l R p e below s args y 3 W Pre Post PostX)
    {b : Addr} {cellB : Cell} {kB : Class} (hcell : T.heap[b]? = some cellB) (hobj : cellB.vm.isStatics = false) (hkB : s.vm.classes[cellB.cls]? = some kB)
    {g : JFrame} (hg : g.method = m) (hsize : g.locals.size = c.maxLocals) {argsL rest : List Value} (hlen : ∀ sig, parseMethodDescriptor y.desc = some sig → argsL.length = sig.parameters.length)
    (hstack : g.stack = argsL.reverse ++ .ref b :: rest) (hW : 2 * g.monitorRoom + (rest.map fun v => v.category).sum ≤ W) (hdg : decode c.code g.pc = .ok (.invokespecial index, 3))
    (hpre : ∀ vm₁, s.WarmedH vm₁ → Pre ⟨T.setVm vm₁, locs, cells, slots⟩ (Value.ref b :: argsL).toArray) :
    (∃ (v : Option Value) (vm₁ : Vm) (B : Pt), s.WarmedH vm₁ ∧ Stand p l e R s m args below meth c B.U B.locs B.cells B.slots ∧ Post ⟨T.setVm vm₁, locs, cells, slots⟩ (Value.ref b :: argsL).toArray v B ∧
      ∀ target, Steps p.tables e below (B.U.setTop { g with pc := g.pc + 3, stack := v.toList ++ rest }) target → Steps p.tables e below (T.setTop g) target) ∨
    (∃ (q : Addr) (vm₁ : Vm) (B : Pt), s.WarmedH vm₁ ∧ Stand p l e R s m args below meth c B.U B.locs B.cells B.slots ∧ PostX ⟨T.setVm vm₁, locs, cells, slots⟩ (Value.ref b :: argsL).toArray q B ∧
      Steps p.tables e below (T.setTop g) ((B.U.setTop { g with stack := rest }).pushFrame (.throwing q))) := by
  obtain ⟨mk, methM, hnamed, hmethM, hstM, habM⟩ := Cond.instanceMethod_spec hinst
  obtain ⟨methM', cM, hmethM', -, -, -, -, -, -, hsigM⟩ := Cond.code_spec hnamed hcode
  cases hmethM.symm.trans hmethM'
  obtain ⟨ps, dk, kp, hps, hdk, hkp, hsuper, -, -, hnid⟩ := Cond.superclass_spec hown hsup
  have hn : s.methodNamed? ⟨y.cls, y.name, y.desc⟩ = some mk := hnamed
  have hpm : ps = mk.cls := Option.some.inj (hps.symm.trans (findClass_of_methodNamed hnamed))
  have hsub : s.vm.isSubclass ps mk.cls = true := by rw [hpm]; simp [Vm.isSubclass, Vm.isSubclassAux]
  obtain ⟨vm₁, X₁, hstep₁⟩ := X.invokespecialUp hexec hown hlink hsame hn hmethM hstM habM hno hdk hnid hps hsuper hsub (a := b) (cell := cellB) hcell
    (fun z h => by rw [h] at hobj; cases hobj) hkB (g := g) hg (argsL := argsL) (rest := rest) (hlen _ hsigM) hstack hdg
  rcases hK m meth c ⟨T.setVm vm₁, locs, cells, slots⟩ { g with stack := rest } (.invokespecial index) mk (Value.ref b :: argsL).toArray X₁ hg hsize hdg hW (X₁.named hnamed) (hpre vm₁ X₁.warmed) with ⟨v, B, X', hpost, hsteps⟩ | ⟨q, B, X', hpost, hsteps⟩
  · exact Or.inl ⟨v, vm₁, B, X₁.warmed, X', hpost, fun target h => hstep₁ _ (by rw [doInvoke_state]; exact hsteps.trans h)⟩
  · exact Or.inr ⟨q, vm₁, B, X₁.warmed, X', hpost, hstep₁ _ (by rw [doInvoke_state]; exact hsteps)⟩
theorem vx_runSU {y : MethodName} {bytes cc : ByteArray} {maxL nL mc ms n index : Nat} {ret : Option FieldType} {ws : List Cond} {rm : Room} {Pc : Array Value → State → Prop} {Qc : Array Value → State → Outcome → State → Prop} {XC : String → State → State → Prop} {free : Addr → Prop} {Ts : List Cond} {own C : String} {cC : ClassId} {b : Addr} {As rest : List Value} {g : JFrame}
    (hat : ClassAt s C cC) (S : CallFix p m c cc nL s args Ts own) (hM : vx_Met l y ws rm Pc Qc XC mc ms free) (cw : va_CS R s args own index y bytes maxL ret ws rm mc ms n) (hp : PreV s H C b Pc As)
    (hg : g.method = m) (hn : As.length = n) (hsize : g.locals.size = nL) (hstack : g.stack = As.reverse ++ .ref b :: rest) (hW : 2 * g.monitorRoom + (rest.map fun v => v.category).sum ≤ 8) (hdg : decode cc g.pc = .ok (.invokespecial index, 3)) (hf : cells + mc ≤ R.cells ∧ slots + ms ≤ R.slots) :
    vx_Run p l e R s m args below meth c H locs cells slots mc ms g rest (Qc (Value.ref b :: As).toArray) XC free := by
  obtain ⟨⟨hrc, hrs, hfr, hlo, hws, hcw⟩, hl1, hl2, hl3, hl4, hini, hcode, hno, hlen⟩ := cw
  have hK : vx_Back l R p e below s args y 3 8 (PreOf R mc ms Pc) (PostOf Qc mc ms free) (vx_Post XC mc ms free) := vx_back (bytes := bytes) (maxL := maxL) (ret := ret) hM hp.1 hrc hrs hfr hlo hws hcw (fun a' U hW => word_at hW (Or.inl (by first | rfl | simp [Cond.onTables, Cond.keeps, Cond.steady])) hini)
  obtain ⟨hx, hb, hml, ho, -⟩ := S
  obtain ⟨-, ⟨cellB, hcB, hoB, hclB⟩, hPc⟩ := hp
  obtain ⟨hfc, kB, hkB, -⟩ := hat
  cases hfc.symm.trans hclB
  intro T hT X
  rcases vx_callSU X hx (bytes := bytes) (maxL := maxL) (ret := ret) ho hl1 hl2 hl3 hl4 hcode hno hK (by rw [hT]; exact hcB) hoB hkB hg (hsize.trans hml.symm) (argsL := As) (rest := rest) (fun sig h => hn.trans (hlen sig h)) hstack hW (by rw [hb]; exact hdg)
    (fun vm₁ hW₁ => ⟨hf.1, hf.2, hPc (T.setVm vm₁) hT hW₁⟩) with ⟨v, vm₁, ⟨U', l2, c2, s2⟩, hW₁, X', ⟨g', mk, t, L, e1, e2, hq, h1, hL, h2, h3⟩, st⟩ | ⟨q, vm₁, ⟨U', l2, c2, s2⟩, hW₁, X', ⟨g', mk, t, L, E, ce, e1, e2, hq, hce, hcv, hcl, h1, hL, h2, h3⟩, st⟩
  · dsimp only [Pt.U, Pt.locs, Pt.cells, Pt.slots] at X' e1 e2 h1 h2 h3 st
    subst h1; subst h2; subst h3
    exact Or.inl ⟨v, (T.setVm vm₁).calling g' mk (Value.ref b :: As).toArray, t, U', L, hT, X', hL, e1, e2, hq, st⟩
  · dsimp only [Pt.U, Pt.locs, Pt.cells, Pt.slots] at X' e1 e2 h1 h2 h3 st hcl
    subst h1; subst h2; subst h3
    exact Or.inr ⟨q, (T.setVm vm₁).calling g' mk (Value.ref b :: As).toArray, t, U', L, E, ce, hT, X', hL, e1, e2, hq, hce, hcv, vx_cls hW₁ hcl, st⟩
end
/-! ===== END ===== -/
/-! ===== BEGIN a private method of a nest mate that may throw (follows va_callVN, va_callSN, va_runVN, va_runSN) ===== -/
section
variable {p : Program} {l : Launch} {e : Env} {R : Room} {s : State} {m : MethodId} {args : Array Value} {below : List Frame} {meth : Method} {c : Code} {H : Heap} {locs : List Loc} {cells slots : Nat}
variable {T : State}
theorem vx_callVN (X : Stand p l e R s m args below meth c T locs cells slots) (hexec : p.tables.exec = Jvm.exec) {own C : String} {index : Nat} {host : String} {y : MethodName} {bytes : ByteArray} {maxL : Nat} {ret : Option FieldType}
    (hown : s.vm.findClass own = some m.cls) (hlink : (Cond.methodLinkNest own index y host).before args s = true) (hinst : (Cond.instanceMethod y).before args s = true) (hsel : (Cond.selects C y y).before args s = true)
    (hcode : (Cond.code y bytes maxL ret).before args s = true) (hy : y.cls ≠ "java/lang/invoke/MethodHandle" ∧ y.cls ≠ "java/lang/invoke/VarHandle")
    {W : Nat} {Pre : Pt → Array Value → Prop} {Post : Pt → Array Value → Option Value → Pt → Prop} {PostX : Pt → Array Value → Addr → Pt → Prop} (hK : vx_Back l R p e below s args y 3 W Pre Post PostX)
    {b : Addr} {cellB : Cell} (hcell : T.heap[b]? = some cellB) (hobj : cellB.vm.isStatics = false) (hcls : s.vm.findClass C = some cellB.cls)
    {g : JFrame} (hg : g.method = m) (hsize : g.locals.size = c.maxLocals) {argsL rest : List Value} (hlen : ∀ sig, parseMethodDescriptor y.desc = some sig → argsL.length = sig.parameters.length)
    (hstack : g.stack = argsL.reverse ++ .ref b :: rest) (hW : 2 * g.monitorRoom + (rest.map fun v => v.category).sum ≤ W) (hdg : decode c.code g.pc = .ok (.invokevirtual index, 3))
    (hpre : ∀ vm₁, s.WarmedH vm₁ → Pre ⟨T.setVm vm₁, locs, cells, slots⟩ (Value.ref b :: argsL).toArray) :
    (∃ (v : Option Value) (vm₁ : Vm) (B : Pt), s.WarmedH vm₁ ∧ Stand p l e R s m args below meth c B.U B.locs B.cells B.slots ∧ Post ⟨T.setVm vm₁, locs, cells, slots⟩ (Value.ref b :: argsL).toArray v B ∧
      ∀ target, Steps p.tables e below (B.U.setTop { g with pc := g.pc + 3, stack := v.toList ++ rest }) target → Steps p.tables e below (T.setTop g) target) ∨
    (∃ (q : Addr) (vm₁ : Vm) (B : Pt), s.WarmedH vm₁ ∧ Stand p l e R s m args below meth c B.U B.locs B.cells B.slots ∧ PostX ⟨T.setVm vm₁, locs, cells, slots⟩ (Value.ref b :: argsL).toArray q B ∧
      Steps p.tables e below (T.setTop g) ((B.U.setTop { g with stack := rest }).pushFrame (.throwing q))) := by
  obtain ⟨mk, methM, hnamed, hmethM, hstM, habM⟩ := Cond.instanceMethod_spec hinst
  obtain ⟨methM', cM, hmethM', -, -, -, -, -, -, hsigM⟩ := Cond.code_spec hnamed hcode
  cases hmethM.symm.trans hmethM'
  obtain ⟨c2, r2, m2, q1, q2, q3, q4, kP, hkP, hkPi⟩ := Cond.selects_spec hsel
  cases hcls.symm.trans q1
  cases (State.methodFound?_of_named hnamed hy).symm.trans q2
  cases hnamed.symm.trans q3
  have hselP : selectMethod e.platform s.vm cellB.cls mk = .method mk := by rw [Launch.admits_selectMethod X.admits]; exact q4
  obtain ⟨vm₁, X₁, hstep₁⟩ := X.invokevirtualNest hexec hown hlink hnamed hmethM hstM hkP hkPi hy (a := b) (cell := cellB) hcell
    (fun z h => by rw [h] at hobj; cases hobj) hselP hmethM habM hkP hkPi (g := g) hg (argsL := argsL) (rest := rest) (hlen _ hsigM) hstack hdg
  rcases hK m meth c ⟨T.setVm vm₁, locs, cells, slots⟩ { g with stack := rest } (.invokevirtual index) mk (Value.ref b :: argsL).toArray X₁ hg hsize hdg hW (X₁.named hnamed) (hpre vm₁ X₁.warmed) with ⟨v, B, X', hpost, hsteps⟩ | ⟨q, B, X', hpost, hsteps⟩
  · exact Or.inl ⟨v, vm₁, B, X₁.warmed, X', hpost, fun target h => hstep₁ _ fun acts => by rw [doInvoke_state]; exact hsteps.trans h⟩
  · exact Or.inr ⟨q, vm₁, B, X₁.warmed, X', hpost, hstep₁ _ fun acts => by rw [doInvoke_state]; exact hsteps⟩
theorem vx_callSN (X : Stand p l e R s m args below meth c T locs cells slots) (hexec : p.tables.exec = Jvm.exec) {own : String} {index : Nat} {host : String} {y : MethodName} {bytes : ByteArray} {maxL : Nat} {ret : Option FieldType}
    (hown : s.vm.findClass own = some m.cls) (hlink : (Cond.methodLinkNest own index y host).before args s = true) (hstat : (Cond.static y).before args s = true) (hinit : (Cond.initialized y.cls).before args s = true)
    (hcode : (Cond.code y bytes maxL ret).before args s = true) (hy : y.cls ≠ "java/lang/invoke/MethodHandle" ∧ y.cls ≠ "java/lang/invoke/VarHandle")
    {W : Nat} {Pre : Pt → Array Value → Prop} {Post : Pt → Array Value → Option Value → Pt → Prop} {PostX : Pt → Array Value → Addr → Pt → Prop} (hK : vx_Back l R p e below s args y 3 W Pre Post PostX)
    {g : JFrame} (hg : g.method = m) (hsize : g.locals.size = c.maxLocals) {argsL rest : List Value} (hlen : ∀ sig, parseMethodDescriptor y.desc = some sig → argsL.length = sig.parameters.length)
    (hstack : g.stack = argsL.reverse ++ rest) (hW : 2 * g.monitorRoom + (rest.map fun v => v.category).sum ≤ W) (hdg : decode c.code g.pc = .ok (.invokestatic index, 3))
    (hpre : ∀ vm₁, s.WarmedH vm₁ → Pre ⟨T.setVm vm₁, locs, cells, slots⟩ argsL.toArray) :
    (∃ (v : Option Value) (vm₁ : Vm) (B : Pt), s.WarmedH vm₁ ∧ Stand p l e R s m args below meth c B.U B.locs B.cells B.slots ∧ Post ⟨T.setVm vm₁, locs, cells, slots⟩ argsL.toArray v B ∧
      ∀ target, Steps p.tables e below (B.U.setTop { g with pc := g.pc + 3, stack := v.toList ++ rest }) target → Steps p.tables e below (T.setTop g) target) ∨
    (∃ (q : Addr) (vm₁ : Vm) (B : Pt), s.WarmedH vm₁ ∧ Stand p l e R s m args below meth c B.U B.locs B.cells B.slots ∧ PostX ⟨T.setVm vm₁, locs, cells, slots⟩ argsL.toArray q B ∧
      Steps p.tables e below (T.setTop g) ((B.U.setTop { g with stack := rest }).pushFrame (.throwing q))) := by
  obtain ⟨mk, hnamed⟩ := Cond.code_named hcode
  obtain ⟨methM, cM, hmethM, -, -, -, -, -, -, hsigM⟩ := Cond.code_spec hnamed hcode
  have hstatic : methM.isStatic = true := Cond.static_spec hnamed hmethM hstat
  obtain ⟨kP, hkP, -⟩ := className_of_methodNamed hnamed
  have hinitP : kP.init = .initialized := Cond.initialized_spec (findClass_of_methodNamed hnamed) hkP hinit
  obtain ⟨vm₁, X₁, hstep₁⟩ := X.invokestaticNest hexec hown hlink hnamed hmethM hstatic hkP hinitP hy (g := g) hg (argsL := argsL) (rest := rest) (hlen _ hsigM) hstack hdg
  rcases hK m meth c ⟨T.setVm vm₁, locs, cells, slots⟩ { g with stack := rest } (.invokestatic index) mk argsL.toArray X₁ hg hsize hdg hW (X₁.named hnamed) (hpre vm₁ X₁.warmed) with ⟨v, B, X', hpost, hsteps⟩ | ⟨q, B, X', hpost, hsteps⟩
  · exact Or.inl ⟨v, vm₁, B, X₁.warmed, X', hpost, fun target h => hstep₁ _ fun acts => by rw [doInvoke_state]; exact hsteps.trans h⟩
  · exact Or.inr ⟨q, vm₁, B, X₁.warmed, X', hpost, hstep₁ _ fun acts => by rw [doInvoke_state]; exact hsteps⟩
theorem vx_runVN {y : MethodName} {bytes cc : ByteArray} {maxL nL mc ms n index : Nat} {ret : Option FieldType} {ws : List Cond} {rm : Room} {Pc : Array Value → State → Prop} {Qc : Array Value → State → Outcome → State → Prop} {XC : String → State → State → Prop} {free : Addr → Prop} {Ts : List Cond} {own C host : String} {b : Addr} {As rest : List Value} {g : JFrame}
    (S : CallFix p m c cc nL s args Ts own) (hM : vx_Met l y ws rm Pc Qc XC mc ms free) (cw : va_CN R s args own index y host bytes maxL ret ws rm mc ms n ∧ (Cond.instanceMethod y).before args s = true ∧ (Cond.selects C y y).before args s = true) (hp : PreV s H C b Pc As)
    (hg : g.method = m) (hn : As.length = n) (hsize : g.locals.size = nL) (hstack : g.stack = As.reverse ++ .ref b :: rest) (hW : 2 * g.monitorRoom + (rest.map fun v => v.category).sum ≤ 8) (hdg : decode cc g.pc = .ok (.invokevirtual index, 3)) (hf : cells + mc ≤ R.cells ∧ slots + ms ≤ R.slots) :
    vx_Run p l e R s m args below meth c H locs cells slots mc ms g rest (Qc (Value.ref b :: As).toArray) XC free := by
  obtain ⟨⟨⟨hrc, hrs, hfr, hlo, hws, hcw⟩, hcode, hini, hy, hlen, hl⟩, hx1, hx2⟩ := cw
  have hK : vx_Back l R p e below s args y 3 8 (PreOf R mc ms Pc) (PostOf Qc mc ms free) (vx_Post XC mc ms free) := vx_back (bytes := bytes) (maxL := maxL) (ret := ret) hM hp.1 hrc hrs hfr hlo hws hcw (fun a' U hW => word_at hW (Or.inl (by first | rfl | simp [Cond.onTables, Cond.keeps, Cond.steady])) hini)
  obtain ⟨hx, hb, hml, ho, -⟩ := S
  obtain ⟨-, ⟨cellB, hcB, hoB, hclB⟩, hPc⟩ := hp
  intro T hT X
  rcases vx_callVN X hx (C := C) (bytes := bytes) (maxL := maxL) (ret := ret) ho hl hx1 hx2 hcode hy hK (by rw [hT]; exact hcB) hoB hclB hg (hsize.trans hml.symm) (argsL := As) (rest := rest) (fun sig h => hn.trans (hlen sig h)) hstack hW (by rw [hb]; exact hdg)
    (fun vm₁ hW₁ => ⟨hf.1, hf.2, hPc (T.setVm vm₁) hT hW₁⟩) with ⟨v, vm₁, ⟨U', l2, c2, s2⟩, hW₁, X', ⟨g', mk, t, L, e1, e2, hq, h1, hL, h2, h3⟩, st⟩ | ⟨q, vm₁, ⟨U', l2, c2, s2⟩, hW₁, X', ⟨g', mk, t, L, E, ce, e1, e2, hq, hce, hcv, hcl, h1, hL, h2, h3⟩, st⟩
  · dsimp only [Pt.U, Pt.locs, Pt.cells, Pt.slots] at X' e1 e2 h1 h2 h3 st
    subst h1; subst h2; subst h3
    exact Or.inl ⟨v, (T.setVm vm₁).calling g' mk (Value.ref b :: As).toArray, t, U', L, hT, X', hL, e1, e2, hq, st⟩
  · dsimp only [Pt.U, Pt.locs, Pt.cells, Pt.slots] at X' e1 e2 h1 h2 h3 st hcl
    subst h1; subst h2; subst h3
    exact Or.inr ⟨q, (T.setVm vm₁).calling g' mk (Value.ref b :: As).toArray, t, U', L, E, ce, hT, X', hL, e1, e2, hq, hce, hcv, vx_cls hW₁ hcl, st⟩
theorem vx_runSN {y : MethodName} {bytes cc : ByteArray} {maxL nL mc ms n index : Nat} {ret : Option FieldType} {ws : List Cond} {rm : Room} {Pc : Array Value → State → Prop} {Qc : Array Value → State → Outcome → State → Prop} {XC : String → State → State → Prop} {free : Addr → Prop} {Ts : List Cond} {own host : String} {As rest : List Value} {g : JFrame}
    (S : CallFix p m c cc nL s args Ts own) (hM : vx_Met l y ws rm Pc Qc XC mc ms free) (cw : va_CN R s args own index y host bytes maxL ret ws rm mc ms n ∧ (Cond.static y).before args s = true ∧ True) (hp : PreS s H Pc As)
    (hg : g.method = m) (hn : As.length = n) (hsize : g.locals.size = nL) (hstack : g.stack = As.reverse ++ rest) (hW : 2 * g.monitorRoom + (rest.map fun v => v.category).sum ≤ 8) (hdg : decode cc g.pc = .ok (.invokestatic index, 3)) (hf : cells + mc ≤ R.cells ∧ slots + ms ≤ R.slots) :
    vx_Run p l e R s m args below meth c H locs cells slots mc ms g rest (Qc As.toArray) XC free := by
  obtain ⟨⟨⟨hrc, hrs, hfr, hlo, hws, hcw⟩, hcode, hini, hy, hlen, hl⟩, hx1, hx2⟩ := cw
  have hK : vx_Back l R p e below s args y 3 8 (PreOf R mc ms Pc) (PostOf Qc mc ms free) (vx_Post XC mc ms free) := vx_back (bytes := bytes) (maxL := maxL) (ret := ret) hM hp.1 hrc hrs hfr hlo hws hcw (fun a' U hW => word_at hW (Or.inl (by first | rfl | simp [Cond.onTables, Cond.keeps, Cond.steady])) hini)
  obtain ⟨hx, hb, hml, ho, -⟩ := S
  have hPc := hp.2
  intro T hT X
  rcases vx_callSN X hx (bytes := bytes) (maxL := maxL) (ret := ret) ho hl hx1 hini hcode hy hK hg (hsize.trans hml.symm) (argsL := As) (rest := rest) (fun sig h => hn.trans (hlen sig h)) hstack hW (by rw [hb]; exact hdg)
    (fun vm₁ hW₁ => ⟨hf.1, hf.2, hPc (T.setVm vm₁) hT hW₁⟩) with ⟨v, vm₁, ⟨U', l2, c2, s2⟩, hW₁, X', ⟨g', mk, t, L, e1, e2, hq, h1, hL, h2, h3⟩, st⟩ | ⟨q, vm₁, ⟨U', l2, c2, s2⟩, hW₁, X', ⟨g', mk, t, L, E, ce, e1, e2, hq, hce, hcv, hcl, h1, hL, h2, h3⟩, st⟩
  · dsimp only [Pt.U, Pt.locs, Pt.cells, Pt.slots] at X' e1 e2 h1 h2 h3 st
    subst h1; subst h2; subst h3
    exact Or.inl ⟨v, (T.setVm vm₁).calling g' mk As.toArray, t, U', L, hT, X', hL, e1, e2, hq, st⟩
  · dsimp only [Pt.U, Pt.locs, Pt.cells, Pt.slots] at X' e1 e2 h1 h2 h3 st hcl
    subst h1; subst h2; subst h3
    exact Or.inr ⟨q, (T.setVm vm₁).calling g' mk As.toArray, t, U', L, E, ce, hT, X', hL, e1, e2, hq, hce, hcv, vx_cls hW₁ hcl, st⟩
end
/-! ===== END ===== -/
/-! ===== BEGIN calls by an interface of methods that may throw (vx_callIF, vx_runF follow va_callIF, va_runF of this kit) ===== -/
section
variable {p : Program} {l : Launch} {e : Env} {R : Room} {s : State} {m : MethodId} {args : Array Value} {below : List Frame} {meth : Method} {c : Code} {H : Heap} {locs : List Loc} {cells slots : Nat} {Q : State → Prop}
variable {mc ms : Nat} {free : Addr → Prop} {A0 A1 : Nat → Prop} {H0 : Heap} {a : Array Value} {pc : Nat} {ls : Array Slot} {st0 rest : List Value}
def vx_Run5 (p : Program) (l : Launch) (e : Env) (R : Room) (s : State) (m : MethodId) (args : Array Value) (below : List Frame) (meth : Method) (c : Code) (H : Heap) (locs : List Loc) (cells slots mc ms : Nat) (g : JFrame) (rest : List Value) (Qa : State → Outcome → State → Prop) (XC : String → State → State → Prop) (free : Addr → Prop) : Prop :=
  ∀ T : State, T.heap = H → Stand p l e R s m args below meth c T locs cells slots →
    (∃ (v : Option Value) (st₀ t T' : State) (L : List Loc), st₀.heap = H ∧ Stand p l e R s m args below meth c T' (locs ++ L) (cells + mc) (slots + ms) ∧ (∀ q ∈ L, free q.base) ∧ T'.heap = t.heap ∧ T'.vm = t.vm ∧ Qa st₀ (.returned v) t ∧
      Goes p e below T g T' { g with pc := g.pc + 5, stack := v.toList ++ rest }) ∨
    (∃ (q : Addr) (st₀ t T' : State) (L : List Loc) (E : String) (ce : Cell), st₀.heap = H ∧ Stand p l e R s m args below meth c T' (locs ++ L) (cells + mc) (slots + ms) ∧ (∀ z ∈ L, free z.base) ∧ T'.heap = t.heap ∧ T'.vm = t.vm ∧ XC E st₀ t ∧ t.heap[q]? = some ce ∧ ce.vm = .none ∧ s.vm.findClass E = some ce.cls ∧
      Steps p.tables e below (T.setTop g) ((T'.setTop { g with stack := rest }).pushFrame (.throwing q)))
theorem vx_callIF {T : State} (X : Stand p l e R s m args below meth c T locs cells slots) (hexec : p.tables.exec = Jvm.exec) {own C : String} {index count : Nat} {x y : MethodName} {bytes : ByteArray} {maxL : Nat} {ret : Option FieldType}
    (hown : s.vm.findClass own = some m.cls) (hlink : (Cond.methodLink own index x).before args s = true) (hdecl : (Cond.declares x).before args s = true) (hface : (Cond.interfaceMethod x.cls x.cls x.name x.desc).before args s = true)
    (hsel : (Cond.selects C x y).before args s = true) (hinst : (Cond.instanceMethod y).before args s = true) (hpub : (Cond.publicMethod y).before args s = true) (hunh : (Cond.unhidden C x.name x.desc).before args s = true)
    (hcast : (Cond.castable C x.cls).before args s = true) (hcode : (Cond.code y bytes maxL ret).before args s = true) (hx : x.cls ≠ "java/lang/invoke/MethodHandle" ∧ x.cls ≠ "java/lang/invoke/VarHandle")
    {W9 : Nat} {Pre : Pt → Array Value → Prop} {Post : Pt → Array Value → Option Value → Pt → Prop} {PostX : Pt → Array Value → Addr → Pt → Prop} (hK : vx_Back l R p e below s args y 5 W9 Pre Post PostX)
    {b : Addr} {cellB : Cell} {kB : Class} (hcell : T.heap[b]? = some cellB) (hobj : cellB.vm.isStatics = false) (hcls : s.vm.findClass C = some cellB.cls) (hkB : s.vm.classes[cellB.cls]? = some kB)
    {g : JFrame} (hg : g.method = m) (hsize : g.locals.size = c.maxLocals) {argsL rest : List Value} (hlen : ∀ sig, parseMethodDescriptor x.desc = some sig → argsL.length = sig.parameters.length)
    (hstack : g.stack = argsL.reverse ++ .ref b :: rest) (hW : 2 * g.monitorRoom + (rest.map fun v => v.category).sum ≤ W9) (hdg : decode c.code g.pc = .ok (.invokeinterface index count, 5))
    (hpre : ∀ vm₁, s.WarmedH vm₁ → Pre ⟨T.setVm vm₁, locs, cells, slots⟩ (Value.ref b :: argsL).toArray) :
    (∃ (v : Option Value) (vm₁ : Vm) (B : Pt), s.WarmedH vm₁ ∧ Stand p l e R s m args below meth c B.U B.locs B.cells B.slots ∧ Post ⟨T.setVm vm₁, locs, cells, slots⟩ (Value.ref b :: argsL).toArray v B ∧
      ∀ target, Steps p.tables e below (B.U.setTop { g with pc := g.pc + 5, stack := v.toList ++ rest }) target → Steps p.tables e below (T.setTop g) target) ∨
    (∃ (q : Addr) (vm₁ : Vm) (B : Pt), s.WarmedH vm₁ ∧ Stand p l e R s m args below meth c B.U B.locs B.cells B.slots ∧ PostX ⟨T.setVm vm₁, locs, cells, slots⟩ (Value.ref b :: argsL).toArray q B ∧
      Steps p.tables e below (T.setTop g) ((B.U.setTop { g with stack := rest }).pushFrame (.throwing q))) := by
  obtain ⟨r0, r, hn, hrm, hstR, hsigR⟩ := Cond.declares_spec hdecl
  obtain ⟨cL, kL, r1, hcL, hkL, hiL, hfoundL, hn1⟩ := Cond.interfaceMethod_spec hface
  cases hn.symm.trans hn1
  have hr0cls : r0.cls = cL := Option.some.inj ((findClass_of_methodNamed hn).symm.trans hcL)
  obtain ⟨hnameR, hdescR⟩ := name_of_methodNamed hn hrm
  obtain ⟨mk, methM, hnamed, hmethM, -, habM⟩ := Cond.instanceMethod_spec hinst
  obtain ⟨c2, r2, m2, q1, q2, q3, q4, -⟩ := Cond.selects_spec hsel
  cases hcls.symm.trans q1
  cases hfoundL.symm.trans q2
  cases hnamed.symm.trans q3
  have hselP : selectMethod e.platform s.vm cellB.cls r0 = .method mk := by rw [Launch.admits_selectMethod X.admits]; exact q4
  have hpubM : hasFlag methM.accessFlags Acc.public_ = true := Cond.publicMethod_spec hnamed hmethM hpub
  have hway : ((cellB.cls :: s.vm.superclasses cellB.cls).any fun k => (declaredIn s.vm r.name r.desc k).any fun (_, z) => z.isPrivate || z.isStatic) = false := by
    rw [hnameR, hdescR]; exact Cond.unhidden_spec hcls hunh
  obtain ⟨c3, t3, w1, w2, w3⟩ := Cond.castable_spec hcast
  cases hcls.symm.trans w1
  cases hcL.symm.trans w2
  obtain ⟨vm₁, X₁, hstep₁⟩ := X.invokeinterface hexec hown hlink hn hrm hstR (by rw [hr0cls]; exact hkL) hiL hx (a := b) (cell := cellB) (kcell := kB) hcell
    (fun z h => by rw [h] at hobj; cases hobj) hkB (by rw [hr0cls]; exact w3) hselP hmethM hway hpubM habM (g := g) hg (argsL := argsL) (rest := rest) (hlen _ hsigR) hstack hdg
  rcases hK m meth c ⟨T.setVm vm₁, locs, cells, slots⟩ { g with stack := rest } (.invokeinterface index count) mk (Value.ref b :: argsL).toArray X₁ hg hsize hdg hW (X₁.named hnamed) (hpre vm₁ X₁.warmed) with ⟨v, B, X', hpost, hsteps⟩ | ⟨q, B, X', hpost, hsteps⟩
  · exact Or.inl ⟨v, vm₁, B, X₁.warmed, X', hpost, fun target h => hstep₁ _ fun acts => by rw [doInvoke_state]; exact hsteps.trans h⟩
  · exact Or.inr ⟨q, vm₁, B, X₁.warmed, X', hpost, hstep₁ _ fun acts => by rw [doInvoke_state]; exact hsteps⟩
theorem vx_runF {x y : MethodName} {bytes cc : ByteArray} {maxL nL mc ms n index count : Nat} {ret : Option FieldType} {ws : List Cond} {rm : Room} {Pc : Array Value → State → Prop} {Qc : Array Value → State → Outcome → State → Prop} {XC : String → State → State → Prop} {free : Addr → Prop} {Ts : List Cond} {own C : String} {cC : ClassId} {b : Addr} {As rest : List Value} {g : JFrame}
    (hat : ClassAt s C cC) (S : CallFix p m c cc nL s args Ts own) (hM : vx_Met l y ws rm Pc Qc XC mc ms free) (cw : va_CI R s args own C index x y bytes maxL ret ws rm mc ms n) (hp : PreV s H C b Pc As)
    (hg : g.method = m) (hn : As.length = n) (hsize : g.locals.size = nL) (hstack : g.stack = As.reverse ++ .ref b :: rest) (hW : 2 * g.monitorRoom + (rest.map fun v => v.category).sum ≤ 8) (hdg : decode cc g.pc = .ok (.invokeinterface index count, 5)) (hf : cells + mc ≤ R.cells ∧ slots + ms ≤ R.slots) :
    vx_Run5 p l e R s m args below meth c H locs cells slots mc ms g rest (Qc (Value.ref b :: As).toArray) XC free := by
  obtain ⟨hrc, hrs, hfr, hlo, hws, hcw⟩ := cw.back
  have hini := cw.init
  have hK : vx_Back l R p e below s args y 5 8 (PreOf R mc ms Pc) (PostOf Qc mc ms free) (vx_Post XC mc ms free) := vx_back (bytes := bytes) (maxL := maxL) (ret := ret) hM hp.1 hrc hrs hfr hlo hws hcw (fun a' U hW => word_at hW (Or.inl (by first | rfl | simp [Cond.onTables, Cond.keeps, Cond.steady])) hini)
  obtain ⟨hx, hb, hml, ho, -⟩ := S
  obtain ⟨-, ⟨cellB, hcB, hoB, hclB⟩, hPc⟩ := hp
  obtain ⟨hfc, kB, hkB, -⟩ := hat
  cases hfc.symm.trans hclB
  intro T hT X
  rcases vx_callIF X hx (C := C) (bytes := bytes) (maxL := maxL) (ret := ret) ho cw.link cw.decl cw.face cw.sel cw.inst cw.pub cw.unh cw.cast cw.code cw.notMH hK (by rw [hT]; exact hcB) hoB hclB hkB hg (hsize.trans hml.symm) (argsL := As) (rest := rest) (fun sig h => hn.trans (cw.len sig h)) hstack hW (by rw [hb]; exact hdg)
    (fun vm₁ hW₁ => ⟨hf.1, hf.2, hPc (T.setVm vm₁) hT hW₁⟩) with ⟨v, vm₁, ⟨U', l2, c2, s2⟩, hW₁, X', ⟨g', mk, t, L, e1, e2, hq, h1, hL, h2, h3⟩, st⟩ | ⟨q, vm₁, ⟨U', l2, c2, s2⟩, hW₁, X', ⟨g', mk, t, L, E, ce, e1, e2, hq, hce, hcv, hcl, h1, hL, h2, h3⟩, st⟩
  · dsimp only [Pt.U, Pt.locs, Pt.cells, Pt.slots] at X' e1 e2 h1 h2 h3 st
    subst h1; subst h2; subst h3
    exact Or.inl ⟨v, (T.setVm vm₁).calling g' mk (Value.ref b :: As).toArray, t, U', L, hT, X', hL, e1, e2, hq, st⟩
  · dsimp only [Pt.U, Pt.locs, Pt.cells, Pt.slots] at X' e1 e2 h1 h2 h3 st hcl
    subst h1; subst h2; subst h3
    exact Or.inr ⟨q, (T.setVm vm₁).calling g' mk (Value.ref b :: As).toArray, t, U', L, E, ce, hT, X', hL, e1, e2, hq, hce, hcv, vx_cls hW₁ hcl, st⟩
theorem vx_callFv {S SX : Type} {post : S → Prop} {px : SX → Prop} {B : S → State → Prop} {BX : String → SX → State → Prop} {AX : Nat → Prop} (hr : vx_Run5 p l e R s m args below meth c H locs cells slots mc ms (F0 m pc ls st0) rest (va_Qv post B A1 a) (vx_X px BX AX) free) (hS : va_S A0 H0 H locs) (hA : ∀ q, q < H.size → A1 q → A0 q) (hf : ∀ q, free q → A0 q) (hAX : ∀ q, q < H.size → AX q → A0 q)
    (kx : ∀ (E : String) (ce : Cell) (q9 : Addr) (u : SX) (t : State) (H1 : Heap) (locs1 : List Loc), t.heap = H1 → s.vm.Alike t.vm → px u → BX E u t → H.size ≤ H1.size → (∀ q : Nat, q < H.size → ¬ AX q → H1[q]? = H[q]?) → va_S A0 H0 H1 locs1 → H1[q9]? = some ce → ce.vm = .none → s.vm.findClass E = some ce.cls → vx_W p l e R s m args below meth c H1 locs1 (cells + mc) (slots + ms) Q (F0 m pc ls rest) q9)
    (kk : ∀ (u : S) (t : State) (H1 : Heap) (locs1 : List Loc), t.heap = H1 → s.vm.Alike t.vm → post u → B u t → H.size ≤ H1.size → (∀ q : Nat, q < H.size → ¬ A1 q → H1[q]? = H[q]?) → va_S A0 H0 H1 locs1 → W p l e R s m args below meth c H1 locs1 (cells + mc) (slots + ms) Q (F0 m (pc + 5) ls (rest))) : W p l e R s m args below meth c H locs cells slots Q (F0 m pc ls st0) := by
  intro T hT X
  rcases hr T hT X with ⟨v, st₀, t, T', L, h0, X', hL, e1, e2, ⟨⟨u, hv, hp, hb⟩, hF⟩, st⟩ | ⟨q, st₀, t, T', L, E, ce, h0, X', hL, e1, e2, ⟨u, hp, hb, hF⟩, hce, hcv, hcl, st⟩
  · cases hv
    obtain ⟨k1, k2, k3⟩ := vx_keep h0 e1 hS hA hf hL hF
    obtain ⟨t2, a1, b1⟩ := kk u t T'.heap (locs ++ L) e1.symm (by rw [← e2]; exact X'.warmed.alike) hp hb k1 k2 k3 T' rfl X'
    exact ⟨t2, st t2 a1, b1⟩
  · obtain ⟨k1, k2, k3⟩ := vx_keep h0 e1 hS hAX hf hL hF
    obtain ⟨t2, a1, b1⟩ := kx E ce q u t T'.heap (locs ++ L) e1.symm (by rw [← e2]; exact X'.warmed.alike) hp hb k1 k2 k3 (by rw [e1]; exact hce) hcv hcl T' rfl X'
    exact ⟨t2, st.trans a1, b1⟩
theorem vx_callFi {S SX : Type} {post : Int32 → S → Prop} {px : SX → Prop} {B : S → State → Prop} {BX : String → SX → State → Prop} {AX : Nat → Prop} (hr : vx_Run5 p l e R s m args below meth c H locs cells slots mc ms (F0 m pc ls st0) rest (va_Qi post B A1 a) (vx_X px BX AX) free) (hS : va_S A0 H0 H locs) (hA : ∀ q, q < H.size → A1 q → A0 q) (hf : ∀ q, free q → A0 q) (hAX : ∀ q, q < H.size → AX q → A0 q)
    (kx : ∀ (E : String) (ce : Cell) (q9 : Addr) (u : SX) (t : State) (H1 : Heap) (locs1 : List Loc), t.heap = H1 → s.vm.Alike t.vm → px u → BX E u t → H.size ≤ H1.size → (∀ q : Nat, q < H.size → ¬ AX q → H1[q]? = H[q]?) → va_S A0 H0 H1 locs1 → H1[q9]? = some ce → ce.vm = .none → s.vm.findClass E = some ce.cls → vx_W p l e R s m args below meth c H1 locs1 (cells + mc) (slots + ms) Q (F0 m pc ls rest) q9)
    (kk : ∀ (r : Int32) (u : S) (t : State) (H1 : Heap) (locs1 : List Loc), t.heap = H1 → s.vm.Alike t.vm → post r u → B u t → H.size ≤ H1.size → (∀ q : Nat, q < H.size → ¬ A1 q → H1[q]? = H[q]?) → va_S A0 H0 H1 locs1 → W p l e R s m args below meth c H1 locs1 (cells + mc) (slots + ms) Q (F0 m (pc + 5) ls (.int r :: rest))) : W p l e R s m args below meth c H locs cells slots Q (F0 m pc ls st0) := by
  intro T hT X
  rcases hr T hT X with ⟨v, st₀, t, T', L, h0, X', hL, e1, e2, ⟨⟨r, u, hv, hp, hb⟩, hF⟩, st⟩ | ⟨q, st₀, t, T', L, E, ce, h0, X', hL, e1, e2, ⟨u, hp, hb, hF⟩, hce, hcv, hcl, st⟩
  · cases hv
    obtain ⟨k1, k2, k3⟩ := vx_keep h0 e1 hS hA hf hL hF
    obtain ⟨t2, a1, b1⟩ := kk r u t T'.heap (locs ++ L) e1.symm (by rw [← e2]; exact X'.warmed.alike) hp hb k1 k2 k3 T' rfl X'
    exact ⟨t2, st t2 a1, b1⟩
  · obtain ⟨k1, k2, k3⟩ := vx_keep h0 e1 hS hAX hf hL hF
    obtain ⟨t2, a1, b1⟩ := kx E ce q u t T'.heap (locs ++ L) e1.symm (by rw [← e2]; exact X'.warmed.alike) hp hb k1 k2 k3 (by rw [e1]; exact hce) hcv hcl T' rfl X'
    exact ⟨t2, st.trans a1, b1⟩
theorem vx_callFl {S SX : Type} {post : Int64 → S → Prop} {px : SX → Prop} {B : S → State → Prop} {BX : String → SX → State → Prop} {AX : Nat → Prop} (hr : vx_Run5 p l e R s m args below meth c H locs cells slots mc ms (F0 m pc ls st0) rest (va_Ql post B A1 a) (vx_X px BX AX) free) (hS : va_S A0 H0 H locs) (hA : ∀ q, q < H.size → A1 q → A0 q) (hf : ∀ q, free q → A0 q) (hAX : ∀ q, q < H.size → AX q → A0 q)
    (kx : ∀ (E : String) (ce : Cell) (q9 : Addr) (u : SX) (t : State) (H1 : Heap) (locs1 : List Loc), t.heap = H1 → s.vm.Alike t.vm → px u → BX E u t → H.size ≤ H1.size → (∀ q : Nat, q < H.size → ¬ AX q → H1[q]? = H[q]?) → va_S A0 H0 H1 locs1 → H1[q9]? = some ce → ce.vm = .none → s.vm.findClass E = some ce.cls → vx_W p l e R s m args below meth c H1 locs1 (cells + mc) (slots + ms) Q (F0 m pc ls rest) q9)
    (kk : ∀ (r : Int64) (u : S) (t : State) (H1 : Heap) (locs1 : List Loc), t.heap = H1 → s.vm.Alike t.vm → post r u → B u t → H.size ≤ H1.size → (∀ q : Nat, q < H.size → ¬ A1 q → H1[q]? = H[q]?) → va_S A0 H0 H1 locs1 → W p l e R s m args below meth c H1 locs1 (cells + mc) (slots + ms) Q (F0 m (pc + 5) ls (.long r :: rest))) : W p l e R s m args below meth c H locs cells slots Q (F0 m pc ls st0) := by
  intro T hT X
  rcases hr T hT X with ⟨v, st₀, t, T', L, h0, X', hL, e1, e2, ⟨⟨r, u, hv, hp, hb⟩, hF⟩, st⟩ | ⟨q, st₀, t, T', L, E, ce, h0, X', hL, e1, e2, ⟨u, hp, hb, hF⟩, hce, hcv, hcl, st⟩
  · cases hv
    obtain ⟨k1, k2, k3⟩ := vx_keep h0 e1 hS hA hf hL hF
    obtain ⟨t2, a1, b1⟩ := kk r u t T'.heap (locs ++ L) e1.symm (by rw [← e2]; exact X'.warmed.alike) hp hb k1 k2 k3 T' rfl X'
    exact ⟨t2, st t2 a1, b1⟩
  · obtain ⟨k1, k2, k3⟩ := vx_keep h0 e1 hS hAX hf hL hF
    obtain ⟨t2, a1, b1⟩ := kx E ce q u t T'.heap (locs ++ L) e1.symm (by rw [← e2]; exact X'.warmed.alike) hp hb k1 k2 k3 (by rw [e1]; exact hce) hcv hcl T' rfl X'
    exact ⟨t2, st.trans a1, b1⟩
theorem vx_callFf {S SX : Type} {post : UInt32 → S → Prop} {px : SX → Prop} {B : S → State → Prop} {BX : String → SX → State → Prop} {AX : Nat → Prop} (hr : vx_Run5 p l e R s m args below meth c H locs cells slots mc ms (F0 m pc ls st0) rest (va_Qf post B A1 a) (vx_X px BX AX) free) (hS : va_S A0 H0 H locs) (hA : ∀ q, q < H.size → A1 q → A0 q) (hf : ∀ q, free q → A0 q) (hAX : ∀ q, q < H.size → AX q → A0 q)
    (kx : ∀ (E : String) (ce : Cell) (q9 : Addr) (u : SX) (t : State) (H1 : Heap) (locs1 : List Loc), t.heap = H1 → s.vm.Alike t.vm → px u → BX E u t → H.size ≤ H1.size → (∀ q : Nat, q < H.size → ¬ AX q → H1[q]? = H[q]?) → va_S A0 H0 H1 locs1 → H1[q9]? = some ce → ce.vm = .none → s.vm.findClass E = some ce.cls → vx_W p l e R s m args below meth c H1 locs1 (cells + mc) (slots + ms) Q (F0 m pc ls rest) q9)
    (kk : ∀ (r : UInt32) (u : S) (t : State) (H1 : Heap) (locs1 : List Loc), t.heap = H1 → s.vm.Alike t.vm → post r u → B u t → H.size ≤ H1.size → (∀ q : Nat, q < H.size → ¬ A1 q → H1[q]? = H[q]?) → va_S A0 H0 H1 locs1 → W p l e R s m args below meth c H1 locs1 (cells + mc) (slots + ms) Q (F0 m (pc + 5) ls (.float r :: rest))) : W p l e R s m args below meth c H locs cells slots Q (F0 m pc ls st0) := by
  intro T hT X
  rcases hr T hT X with ⟨v, st₀, t, T', L, h0, X', hL, e1, e2, ⟨⟨r, u, hv, hp, hb⟩, hF⟩, st⟩ | ⟨q, st₀, t, T', L, E, ce, h0, X', hL, e1, e2, ⟨u, hp, hb, hF⟩, hce, hcv, hcl, st⟩
  · cases hv
    obtain ⟨k1, k2, k3⟩ := vx_keep h0 e1 hS hA hf hL hF
    obtain ⟨t2, a1, b1⟩ := kk r u t T'.heap (locs ++ L) e1.symm (by rw [← e2]; exact X'.warmed.alike) hp hb k1 k2 k3 T' rfl X'
    exact ⟨t2, st t2 a1, b1⟩
  · obtain ⟨k1, k2, k3⟩ := vx_keep h0 e1 hS hAX hf hL hF
    obtain ⟨t2, a1, b1⟩ := kx E ce q u t T'.heap (locs ++ L) e1.symm (by rw [← e2]; exact X'.warmed.alike) hp hb k1 k2 k3 (by rw [e1]; exact hce) hcv hcl T' rfl X'
    exact ⟨t2, st.trans a1, b1⟩
theorem vx_callFd {S SX : Type} {post : UInt64 → S → Prop} {px : SX → Prop} {B : S → State → Prop} {BX : String → SX → State → Prop} {AX : Nat → Prop} (hr : vx_Run5 p l e R s m args below meth c H locs cells slots mc ms (F0 m pc ls st0) rest (va_Qd post B A1 a) (vx_X px BX AX) free) (hS : va_S A0 H0 H locs) (hA : ∀ q, q < H.size → A1 q → A0 q) (hf : ∀ q, free q → A0 q) (hAX : ∀ q, q < H.size → AX q → A0 q)
    (kx : ∀ (E : String) (ce : Cell) (q9 : Addr) (u : SX) (t : State) (H1 : Heap) (locs1 : List Loc), t.heap = H1 → s.vm.Alike t.vm → px u → BX E u t → H.size ≤ H1.size → (∀ q : Nat, q < H.size → ¬ AX q → H1[q]? = H[q]?) → va_S A0 H0 H1 locs1 → H1[q9]? = some ce → ce.vm = .none → s.vm.findClass E = some ce.cls → vx_W p l e R s m args below meth c H1 locs1 (cells + mc) (slots + ms) Q (F0 m pc ls rest) q9)
    (kk : ∀ (r : UInt64) (u : S) (t : State) (H1 : Heap) (locs1 : List Loc), t.heap = H1 → s.vm.Alike t.vm → post r u → B u t → H.size ≤ H1.size → (∀ q : Nat, q < H.size → ¬ A1 q → H1[q]? = H[q]?) → va_S A0 H0 H1 locs1 → W p l e R s m args below meth c H1 locs1 (cells + mc) (slots + ms) Q (F0 m (pc + 5) ls (.double r :: rest))) : W p l e R s m args below meth c H locs cells slots Q (F0 m pc ls st0) := by
  intro T hT X
  rcases hr T hT X with ⟨v, st₀, t, T', L, h0, X', hL, e1, e2, ⟨⟨r, u, hv, hp, hb⟩, hF⟩, st⟩ | ⟨q, st₀, t, T', L, E, ce, h0, X', hL, e1, e2, ⟨u, hp, hb, hF⟩, hce, hcv, hcl, st⟩
  · cases hv
    obtain ⟨k1, k2, k3⟩ := vx_keep h0 e1 hS hA hf hL hF
    obtain ⟨t2, a1, b1⟩ := kk r u t T'.heap (locs ++ L) e1.symm (by rw [← e2]; exact X'.warmed.alike) hp hb k1 k2 k3 T' rfl X'
    exact ⟨t2, st t2 a1, b1⟩
  · obtain ⟨k1, k2, k3⟩ := vx_keep h0 e1 hS hAX hf hL hF
    obtain ⟨t2, a1, b1⟩ := kx E ce q u t T'.heap (locs ++ L) e1.symm (by rw [← e2]; exact X'.warmed.alike) hp hb k1 k2 k3 (by rw [e1]; exact hce) hcv hcl T' rfl X'
    exact ⟨t2, st.trans a1, b1⟩
end
/-! ===== END ===== -/
/-! ===== BEGIN by an interface, a method with a table of its own that may throw (follows va_callIFW, va_runFW) ===== -/
section
variable {p : Program} {l : Launch} {e : Env} {R : Room} {s : State} {m : MethodId} {args : Array Value} {below : List Frame} {meth : Method} {c : Code} {H : Heap} {locs : List Loc} {cells slots : Nat}
theorem vx_callIFW {T : State} (X : Stand p l e R s m args below meth c T locs cells slots) (hexec : p.tables.exec = Jvm.exec) {own C : String} {index count : Nat} {x y : MethodName} {bytes : ByteArray} {maxL : Nat} {ret : Option FieldType} {hh : List (Nat × Nat × Nat × Nat)}
    (hown : s.vm.findClass own = some m.cls) (hlink : (Cond.methodLink own index x).before args s = true) (hdecl : (Cond.declares x).before args s = true) (hface : (Cond.interfaceMethod x.cls x.cls x.name x.desc).before args s = true)
    (hsel : (Cond.selects C x y).before args s = true) (hinst : (Cond.instanceMethod y).before args s = true) (hpub : (Cond.publicMethod y).before args s = true) (hunh : (Cond.unhidden C x.name x.desc).before args s = true)
    (hcast : (Cond.castable C x.cls).before args s = true) (hcode : (Cond.codeWith y bytes maxL ret hh).before args s = true) (hx : x.cls ≠ "java/lang/invoke/MethodHandle" ∧ x.cls ≠ "java/lang/invoke/VarHandle")
    {W : Nat} {Pre : Pt → Array Value → Prop} {Post : Pt → Array Value → Option Value → Pt → Prop} {PostX : Pt → Array Value → Addr → Pt → Prop} (hK : vx_Back l R p e below s args y 5 W Pre Post PostX)
    {b : Addr} {cellB : Cell} {kB : Class} (hcell : T.heap[b]? = some cellB) (hobj : cellB.vm.isStatics = false) (hcls : s.vm.findClass C = some cellB.cls) (hkB : s.vm.classes[cellB.cls]? = some kB)
    {g : JFrame} (hg : g.method = m) (hsize : g.locals.size = c.maxLocals) {argsL rest : List Value} (hlen : ∀ sig, parseMethodDescriptor x.desc = some sig → argsL.length = sig.parameters.length)
    (hstack : g.stack = argsL.reverse ++ .ref b :: rest) (hW : 2 * g.monitorRoom + (rest.map fun v => v.category).sum ≤ W) (hdg : decode c.code g.pc = .ok (.invokeinterface index count, 5))
    (hpre : ∀ vm₁, s.WarmedH vm₁ → Pre ⟨T.setVm vm₁, locs, cells, slots⟩ (Value.ref b :: argsL).toArray) :
    (∃ (v : Option Value) (vm₁ : Vm) (B : Pt), s.WarmedH vm₁ ∧ Stand p l e R s m args below meth c B.U B.locs B.cells B.slots ∧ Post ⟨T.setVm vm₁, locs, cells, slots⟩ (Value.ref b :: argsL).toArray v B ∧
      ∀ target, Steps p.tables e below (B.U.setTop { g with pc := g.pc + 5, stack := v.toList ++ rest }) target → Steps p.tables e below (T.setTop g) target) ∨
    (∃ (q : Addr) (vm₁ : Vm) (B : Pt), s.WarmedH vm₁ ∧ Stand p l e R s m args below meth c B.U B.locs B.cells B.slots ∧ PostX ⟨T.setVm vm₁, locs, cells, slots⟩ (Value.ref b :: argsL).toArray q B ∧
      Steps p.tables e below (T.setTop g) ((B.U.setTop { g with stack := rest }).pushFrame (.throwing q))) := by
  obtain ⟨r0, r, hn, hrm, hstR, hsigR⟩ := Cond.declares_spec hdecl
  obtain ⟨cL, kL, r1, hcL, hkL, hiL, hfoundL, hn1⟩ := Cond.interfaceMethod_spec hface
  cases hn.symm.trans hn1
  have hr0cls : r0.cls = cL := Option.some.inj ((findClass_of_methodNamed hn).symm.trans hcL)
  obtain ⟨hnameR, hdescR⟩ := name_of_methodNamed hn hrm
  obtain ⟨mk, methM, hnamed, hmethM, -, habM⟩ := Cond.instanceMethod_spec hinst
  obtain ⟨c2, r2, m2, q1, q2, q3, q4, -⟩ := Cond.selects_spec hsel
  cases hcls.symm.trans q1
  cases hfoundL.symm.trans q2
  cases hnamed.symm.trans q3
  have hselP : selectMethod e.platform s.vm cellB.cls r0 = .method mk := by rw [Launch.admits_selectMethod X.admits]; exact q4
  have hpubM : hasFlag methM.accessFlags Acc.public_ = true := Cond.publicMethod_spec hnamed hmethM hpub
  have hway : ((cellB.cls :: s.vm.superclasses cellB.cls).any fun k => (declaredIn s.vm r.name r.desc k).any fun (_, z) => z.isPrivate || z.isStatic) = false := by
    rw [hnameR, hdescR]; exact Cond.unhidden_spec hcls hunh
  obtain ⟨c3, t3, w1, w2, w3⟩ := Cond.castable_spec hcast
  cases hcls.symm.trans w1
  cases hcL.symm.trans w2
  obtain ⟨vm₁, X₁, hstep₁⟩ := X.invokeinterface hexec hown hlink hn hrm hstR (by rw [hr0cls]; exact hkL) hiL hx (a := b) (cell := cellB) (kcell := kB) hcell
    (fun z h => by rw [h] at hobj; cases hobj) hkB (by rw [hr0cls]; exact w3) hselP hmethM hway hpubM habM (g := g) hg (argsL := argsL) (rest := rest) (hlen _ hsigR) hstack hdg
  rcases hK m meth c ⟨T.setVm vm₁, locs, cells, slots⟩ { g with stack := rest } (.invokeinterface index count) mk (Value.ref b :: argsL).toArray X₁ hg hsize hdg hW (X₁.named hnamed) (hpre vm₁ X₁.warmed) with ⟨v, B, X', hpost, hsteps⟩ | ⟨q, B, X', hpost, hsteps⟩
  · exact Or.inl ⟨v, vm₁, B, X₁.warmed, X', hpost, fun target h => hstep₁ _ fun acts => by rw [doInvoke_state]; exact hsteps.trans h⟩
  · exact Or.inr ⟨q, vm₁, B, X₁.warmed, X', hpost, hstep₁ _ fun acts => by rw [doInvoke_state]; exact hsteps⟩
theorem vx_runFW {x y : MethodName} {bytes cc : ByteArray} {maxL nL mc ms n index count : Nat} {ret : Option FieldType} {hh : List (Nat × Nat × Nat × Nat)} {ws : List Cond} {rm : Room} {Pc : Array Value → State → Prop} {Qc : Array Value → State → Outcome → State → Prop} {XC : String → State → State → Prop} {free : Addr → Prop} {Ts : List Cond} {own C : String} {cC : ClassId} {b : Addr} {As rest : List Value} {g : JFrame}
    (hat : ClassAt s C cC) (S : CallFix p m c cc nL s args Ts own) (hM : vx_Met l y ws rm Pc Qc XC mc ms free) (cw : va_CIW R s args own C index x y bytes maxL ret hh ws rm mc ms n) (hp : PreV s H C b Pc As)
    (hg : g.method = m) (hn : As.length = n) (hsize : g.locals.size = nL) (hstack : g.stack = As.reverse ++ .ref b :: rest) (hW : 2 * g.monitorRoom + (rest.map fun v => v.category).sum ≤ 8) (hdg : decode cc g.pc = .ok (.invokeinterface index count, 5)) (hf : cells + mc ≤ R.cells ∧ slots + ms ≤ R.slots) :
    vx_Run5 p l e R s m args below meth c H locs cells slots mc ms g rest (Qc (Value.ref b :: As).toArray) XC free := by
  obtain ⟨hrc, hrs, hfr, hlo, hws, hcw⟩ := cw.back
  have hini := cw.init
  have hK : vx_Back l R p e below s args y 5 8 (PreOf R mc ms Pc) (PostOf Qc mc ms free) (vx_Post XC mc ms free) := vx_backW (hh := hh) (bytes := bytes) (maxL := maxL) (ret := ret) hM hp.1 hrc hrs hfr hlo hws hcw (fun a' U hW => word_at hW (Or.inl (by first | rfl | simp [Cond.onTables, Cond.keeps, Cond.steady])) hini)
  obtain ⟨hx, hb, hml, ho, -⟩ := S
  obtain ⟨-, ⟨cellB, hcB, hoB, hclB⟩, hPc⟩ := hp
  obtain ⟨hfc, kB, hkB, -⟩ := hat
  cases hfc.symm.trans hclB
  intro T hT X
  rcases vx_callIFW X hx (C := C) (hh := hh) (bytes := bytes) (maxL := maxL) (ret := ret) ho cw.link cw.decl cw.face cw.sel cw.inst cw.pub cw.unh cw.cast cw.code cw.notMH hK (by rw [hT]; exact hcB) hoB hclB hkB hg (hsize.trans hml.symm) (argsL := As) (rest := rest) (fun sig h => hn.trans (cw.len sig h)) hstack hW (by rw [hb]; exact hdg)
    (fun vm₁ hW₁ => ⟨hf.1, hf.2, hPc (T.setVm vm₁) hT hW₁⟩) with ⟨v, vm₁, ⟨U', l2, c2, s2⟩, hW₁, X', ⟨g', mk, t, L, e1, e2, hq, h1, hL, h2, h3⟩, st⟩ | ⟨q, vm₁, ⟨U', l2, c2, s2⟩, hW₁, X', ⟨g', mk, t, L, E, ce, e1, e2, hq, hce, hcv, hcl, h1, hL, h2, h3⟩, st⟩
  · dsimp only [Pt.U, Pt.locs, Pt.cells, Pt.slots] at X' e1 e2 h1 h2 h3 st
    subst h1; subst h2; subst h3
    exact Or.inl ⟨v, (T.setVm vm₁).calling g' mk (Value.ref b :: As).toArray, t, U', L, hT, X', hL, e1, e2, hq, st⟩
  · dsimp only [Pt.U, Pt.locs, Pt.cells, Pt.slots] at X' e1 e2 h1 h2 h3 st hcl
    subst h1; subst h2; subst h3
    exact Or.inr ⟨q, (T.setVm vm₁).calling g' mk (Value.ref b :: As).toArray, t, U', L, E, ce, hT, X', hL, e1, e2, hq, hce, hcv, vx_cls hW₁ hcl, st⟩
end
/-! ===== END ===== -/
/-! ===== BEGIN .. of methods that hand back an object of the pool ===== -/
section
variable {p : Program} {l : Launch} {e : Env} {R : Room} {s : State} {m : MethodId} {args : Array Value} {below : List Frame} {meth : Method} {c : Code} {H : Heap} {locs : List Loc} {cells slots : Nat} {Q : State → Prop}
variable {mc ms : Nat} {free : Addr → Prop} {A0 A1 : Nat → Prop} {H0 : Heap} {a : Array Value} {pc : Nat} {ls : Array Slot} {st0 rest : List Value}
theorem vx_callq {S SX : Type} {post : Option Nat → S → Prop} {px : SX → Prop} {B : S → State → Prop} {BX : String → SX → State → Prop} {AX : Nat → Prop} (hr : vx_Run p l e R s m args below meth c H locs cells slots mc ms (F0 m pc ls st0) rest (va_Qq post B A1 a) (vx_X px BX AX) free) (hS : va_S A0 H0 H locs) (hA : ∀ q, q < H.size → A1 q → A0 q) (hf : ∀ q, free q → A0 q) (hAX : ∀ q, q < H.size → AX q → A0 q)
    (kx : ∀ (E : String) (ce : Cell) (q9 : Addr) (u : SX) (t : State) (H1 : Heap) (locs1 : List Loc), t.heap = H1 → s.vm.Alike t.vm → px u → BX E u t → H.size ≤ H1.size → (∀ q : Nat, q < H.size → ¬ AX q → H1[q]? = H[q]?) → va_S A0 H0 H1 locs1 → H1[q9]? = some ce → ce.vm = .none → s.vm.findClass E = some ce.cls → vx_W p l e R s m args below meth c H1 locs1 (cells + mc) (slots + ms) Q (F0 m pc ls rest) q9)
    (kk : ∀ (r : Option Nat) (u : S) (t : State) (H1 : Heap) (locs1 : List Loc), t.heap = H1 → s.vm.Alike t.vm → post r u → B u t → H.size ≤ H1.size → (∀ q : Nat, q < H.size → ¬ A1 q → H1[q]? = H[q]?) → va_S A0 H0 H1 locs1 → W p l e R s m args below meth c H1 locs1 (cells + mc) (slots + ms) Q (F0 m (pc + 3) ls (va_rf r :: rest))) : W p l e R s m args below meth c H locs cells slots Q (F0 m pc ls st0) := by
  intro T hT X
  rcases hr T hT X with ⟨v, st₀, t, T', L, h0, X', hL, e1, e2, ⟨⟨r, u, hv, hp, hb⟩, hF⟩, st⟩ | ⟨q, st₀, t, T', L, E, ce, h0, X', hL, e1, e2, ⟨u, hp, hb, hF⟩, hce, hcv, hcl, st⟩
  · cases hv
    obtain ⟨k1, k2, k3⟩ := vx_keep h0 e1 hS hA hf hL hF
    obtain ⟨t2, a1, b1⟩ := kk r u t T'.heap (locs ++ L) e1.symm (by rw [← e2]; exact X'.warmed.alike) hp hb k1 k2 k3 T' rfl X'
    exact ⟨t2, st t2 a1, b1⟩
  · obtain ⟨k1, k2, k3⟩ := vx_keep h0 e1 hS hAX hf hL hF
    obtain ⟨t2, a1, b1⟩ := kx E ce q u t T'.heap (locs ++ L) e1.symm (by rw [← e2]; exact X'.warmed.alike) hp hb k1 k2 k3 (by rw [e1]; exact hce) hcv hcl T' rfl X'
    exact ⟨t2, st.trans a1, b1⟩
end
/-! ===== END ===== -/
/-! ===== BEGIN .. a constant ===== -/
section
variable {p : Program} {l : Launch} {e : Env} {R : Room} {s : State} {m : MethodId} {args : Array Value} {below : List Frame} {meth : Method} {c : Code} {H : Heap} {locs : List Loc} {cells slots : Nat} {Q : State → Prop}
variable {mc ms : Nat} {free : Addr → Prop} {A0 A1 : Nat → Prop} {H0 : Heap} {a : Array Value} {pc : Nat} {ls : Array Slot} {st0 rest : List Value}
theorem vx_calle {ad : Nat → Nat} {S SX : Type} {post : Option Nat → S → Prop} {px : SX → Prop} {B : S → State → Prop} {BX : String → SX → State → Prop} {AX : Nat → Prop} (hr : vx_Run p l e R s m args below meth c H locs cells slots mc ms (F0 m pc ls st0) rest (va_Qe ad post B A1 a) (vx_X px BX AX) free) (hS : va_S A0 H0 H locs) (hA : ∀ q, q < H.size → A1 q → A0 q) (hf : ∀ q, free q → A0 q) (hAX : ∀ q, q < H.size → AX q → A0 q)
    (kx : ∀ (E : String) (ce : Cell) (q9 : Addr) (u : SX) (t : State) (H1 : Heap) (locs1 : List Loc), t.heap = H1 → s.vm.Alike t.vm → px u → BX E u t → H.size ≤ H1.size → (∀ q : Nat, q < H.size → ¬ AX q → H1[q]? = H[q]?) → va_S A0 H0 H1 locs1 → H1[q9]? = some ce → ce.vm = .none → s.vm.findClass E = some ce.cls → vx_W p l e R s m args below meth c H1 locs1 (cells + mc) (slots + ms) Q (F0 m pc ls rest) q9)
    (kk : ∀ (r : Option Nat) (u : S) (t : State) (H1 : Heap) (locs1 : List Loc), t.heap = H1 → s.vm.Alike t.vm → post r u → B u t → H.size ≤ H1.size → (∀ q : Nat, q < H.size → ¬ A1 q → H1[q]? = H[q]?) → va_S A0 H0 H1 locs1 → W p l e R s m args below meth c H1 locs1 (cells + mc) (slots + ms) Q (F0 m (pc + 3) ls (va_re ad r :: rest))) : W p l e R s m args below meth c H locs cells slots Q (F0 m pc ls st0) := by
  intro T hT X
  rcases hr T hT X with ⟨v, st₀, t, T', L, h0, X', hL, e1, e2, ⟨⟨r, u, hv, hp, hb⟩, hF⟩, st⟩ | ⟨q, st₀, t, T', L, E, ce, h0, X', hL, e1, e2, ⟨u, hp, hb, hF⟩, hce, hcv, hcl, st⟩
  · cases hv
    obtain ⟨k1, k2, k3⟩ := vx_keep h0 e1 hS hA hf hL hF
    obtain ⟨t2, a1, b1⟩ := kk r u t T'.heap (locs ++ L) e1.symm (by rw [← e2]; exact X'.warmed.alike) hp hb k1 k2 k3 T' rfl X'
    exact ⟨t2, st t2 a1, b1⟩
  · obtain ⟨k1, k2, k3⟩ := vx_keep h0 e1 hS hAX hf hL hF
    obtain ⟨t2, a1, b1⟩ := kx E ce q u t T'.heap (locs ++ L) e1.symm (by rw [← e2]; exact X'.warmed.alike) hp hb k1 k2 k3 (by rw [e1]; exact hce) hcv hcl T' rfl X'
    exact ⟨t2, st.trans a1, b1⟩
end
/-! ===== END ===== -/
/-! ===== BEGIN .. by an interface, an object ===== -/
section
variable {p : Program} {l : Launch} {e : Env} {R : Room} {s : State} {m : MethodId} {args : Array Value} {below : List Frame} {meth : Method} {c : Code} {H : Heap} {locs : List Loc} {cells slots : Nat} {Q : State → Prop}
variable {mc ms : Nat} {free : Addr → Prop} {A0 A1 : Nat → Prop} {H0 : Heap} {a : Array Value} {pc : Nat} {ls : Array Slot} {st0 rest : List Value}
theorem vx_callFq {S SX : Type} {post : Option Nat → S → Prop} {px : SX → Prop} {B : S → State → Prop} {BX : String → SX → State → Prop} {AX : Nat → Prop} (hr : vx_Run5 p l e R s m args below meth c H locs cells slots mc ms (F0 m pc ls st0) rest (va_Qq post B A1 a) (vx_X px BX AX) free) (hS : va_S A0 H0 H locs) (hA : ∀ q, q < H.size → A1 q → A0 q) (hf : ∀ q, free q → A0 q) (hAX : ∀ q, q < H.size → AX q → A0 q)
    (kx : ∀ (E : String) (ce : Cell) (q9 : Addr) (u : SX) (t : State) (H1 : Heap) (locs1 : List Loc), t.heap = H1 → s.vm.Alike t.vm → px u → BX E u t → H.size ≤ H1.size → (∀ q : Nat, q < H.size → ¬ AX q → H1[q]? = H[q]?) → va_S A0 H0 H1 locs1 → H1[q9]? = some ce → ce.vm = .none → s.vm.findClass E = some ce.cls → vx_W p l e R s m args below meth c H1 locs1 (cells + mc) (slots + ms) Q (F0 m pc ls rest) q9)
    (kk : ∀ (r : Option Nat) (u : S) (t : State) (H1 : Heap) (locs1 : List Loc), t.heap = H1 → s.vm.Alike t.vm → post r u → B u t → H.size ≤ H1.size → (∀ q : Nat, q < H.size → ¬ A1 q → H1[q]? = H[q]?) → va_S A0 H0 H1 locs1 → W p l e R s m args below meth c H1 locs1 (cells + mc) (slots + ms) Q (F0 m (pc + 5) ls (va_rf r :: rest))) : W p l e R s m args below meth c H locs cells slots Q (F0 m pc ls st0) := by
  intro T hT X
  rcases hr T hT X with ⟨v, st₀, t, T', L, h0, X', hL, e1, e2, ⟨⟨r, u, hv, hp, hb⟩, hF⟩, st⟩ | ⟨q, st₀, t, T', L, E, ce, h0, X', hL, e1, e2, ⟨u, hp, hb, hF⟩, hce, hcv, hcl, st⟩
  · cases hv
    obtain ⟨k1, k2, k3⟩ := vx_keep h0 e1 hS hA hf hL hF
    obtain ⟨t2, a1, b1⟩ := kk r u t T'.heap (locs ++ L) e1.symm (by rw [← e2]; exact X'.warmed.alike) hp hb k1 k2 k3 T' rfl X'
    exact ⟨t2, st t2 a1, b1⟩
  · obtain ⟨k1, k2, k3⟩ := vx_keep h0 e1 hS hAX hf hL hF
    obtain ⟨t2, a1, b1⟩ := kx E ce q u t T'.heap (locs ++ L) e1.symm (by rw [← e2]; exact X'.warmed.alike) hp hb k1 k2 k3 (by rw [e1]; exact hce) hcv hcl T' rfl X'
    exact ⟨t2, st.trans a1, b1⟩
end
/-! ===== END ===== -/
/-! ===== BEGIN .. by an interface, a constant ===== -/
section
variable {p : Program} {l : Launch} {e : Env} {R : Room} {s : State} {m : MethodId} {args : Array Value} {below : List Frame} {meth : Method} {c : Code} {H : Heap} {locs : List Loc} {cells slots : Nat} {Q : State → Prop}
variable {mc ms : Nat} {free : Addr → Prop} {A0 A1 : Nat → Prop} {H0 : Heap} {a : Array Value} {pc : Nat} {ls : Array Slot} {st0 rest : List Value}
theorem vx_callFe {ad : Nat → Nat} {S SX : Type} {post : Option Nat → S → Prop} {px : SX → Prop} {B : S → State → Prop} {BX : String → SX → State → Prop} {AX : Nat → Prop} (hr : vx_Run5 p l e R s m args below meth c H locs cells slots mc ms (F0 m pc ls st0) rest (va_Qe ad post B A1 a) (vx_X px BX AX) free) (hS : va_S A0 H0 H locs) (hA : ∀ q, q < H.size → A1 q → A0 q) (hf : ∀ q, free q → A0 q) (hAX : ∀ q, q < H.size → AX q → A0 q)
    (kx : ∀ (E : String) (ce : Cell) (q9 : Addr) (u : SX) (t : State) (H1 : Heap) (locs1 : List Loc), t.heap = H1 → s.vm.Alike t.vm → px u → BX E u t → H.size ≤ H1.size → (∀ q : Nat, q < H.size → ¬ AX q → H1[q]? = H[q]?) → va_S A0 H0 H1 locs1 → H1[q9]? = some ce → ce.vm = .none → s.vm.findClass E = some ce.cls → vx_W p l e R s m args below meth c H1 locs1 (cells + mc) (slots + ms) Q (F0 m pc ls rest) q9)
    (kk : ∀ (r : Option Nat) (u : S) (t : State) (H1 : Heap) (locs1 : List Loc), t.heap = H1 → s.vm.Alike t.vm → post r u → B u t → H.size ≤ H1.size → (∀ q : Nat, q < H.size → ¬ A1 q → H1[q]? = H[q]?) → va_S A0 H0 H1 locs1 → W p l e R s m args below meth c H1 locs1 (cells + mc) (slots + ms) Q (F0 m (pc + 5) ls (va_re ad r :: rest))) : W p l e R s m args below meth c H locs cells slots Q (F0 m pc ls st0) := by
  intro T hT X
  rcases hr T hT X with ⟨v, st₀, t, T', L, h0, X', hL, e1, e2, ⟨⟨r, u, hv, hp, hb⟩, hF⟩, st⟩ | ⟨q, st₀, t, T', L, E, ce, h0, X', hL, e1, e2, ⟨u, hp, hb, hF⟩, hce, hcv, hcl, st⟩
  · cases hv
    obtain ⟨k1, k2, k3⟩ := vx_keep h0 e1 hS hA hf hL hF
    obtain ⟨t2, a1, b1⟩ := kk r u t T'.heap (locs ++ L) e1.symm (by rw [← e2]; exact X'.warmed.alike) hp hb k1 k2 k3 T' rfl X'
    exact ⟨t2, st t2 a1, b1⟩
  · obtain ⟨k1, k2, k3⟩ := vx_keep h0 e1 hS hAX hf hL hF
    obtain ⟨t2, a1, b1⟩ := kx E ce q u t T'.heap (locs ++ L) e1.symm (by rw [← e2]; exact X'.warmed.alike) hp hb k1 k2 k3 (by rw [e1]; exact hce) hcv hcl T' rfl X'
    exact ⟨t2, st.trans a1, b1⟩
end
/-! ===== END ===== -/
/-! ===== BEGIN what the machine throws by itself: null at a field, at athrow ===== -/
section VXM2
variable {p : Program} {l : Launch} {e : Env} {R : Room} {s : State} {m : MethodId} {args : Array Value} {below : List Frame} {meth : Method} {c : Code} {H : Heap} {locs : List Loc} {cells slots : Nat}
variable {Q : State → Prop} {cc : ByteArray} {pc : Nat} {ls : Array Slot} {rest : List Value}
theorem vx_getfN {D cl tys} {own ref C : String} {T : u_T} {N ci index : Nat} {Ts : List Cond} (hexec : p.tables.exec = Jvm.exec) (hb : c.code = cc) (hts : ∀ w ∈ Ts, w.before args s = true) (hin : ∀ w ∈ u_ws C T N, w ∈ Ts) (hown : s.vm.findClass own = some m.cls) (hK : va_K D cl tys s) (hc : cl[ci]? = some (C, T, N)) (k : Nat) (hk : k < N) (hlink : (Cond.fieldLink own index ref (T k).2.1 (T k).2.2.1).before args s = true) (hsame : ∀ x, s.fieldFound? (T k).1 (T k).2.1 (T k).2.2.1 = some x → s.fieldFound? ref (T k).2.1 (T k).2.2.1 = some x) (hdg : decode cc pc = .ok (.getfield index, 3)) (kk : vx_NoteN p l e R s m args below meth c H locs cells slots Q (F0 m pc ls rest)) : W p l e R s m args below meth c H locs cells slots Q (F0 m pc ls (.null :: rest)) := by
  obtain ⟨hS, hfc, kC, hkC, -⟩ := hK.1 ci _ hc
  obtain ⟨cf, kf, fi, f, hi, -⟩ := hS k hk
  intro U hU X
  obtain ⟨vm', X1, st1⟩ := X.getfieldNull hexec hown hlink (hsame _ hi) (u_facts hfc hkC (u_lays hts hin hk) hi).1 (g := F0 m pc ls (.null :: rest)) rfl (rest := rest) rfl (by rw [hb]; exact hdg)
  obtain ⟨t, st, q⟩ := kk (U.setVm vm') hU X1
  exact ⟨t, st1 t st, q⟩
theorem vx_getfNN {D cl tys} {own ref C host : String} {T : u_T} {N ci index : Nat} {Ts : List Cond} (hexec : p.tables.exec = Jvm.exec) (hb : c.code = cc) (hts : ∀ w ∈ Ts, w.before args s = true) (hin : ∀ w ∈ u_ws C T N, w ∈ Ts) (hown : s.vm.findClass own = some m.cls) (hK : va_K D cl tys s) (hc : cl[ci]? = some (C, T, N)) (k : Nat) (hk : k < N) (hlink : (Cond.fieldLinkNest own index ref (T k).2.1 (T k).2.2.1 host).before args s = true) (hsame : ∀ x, s.fieldFound? (T k).1 (T k).2.1 (T k).2.2.1 = some x → s.fieldFound? ref (T k).2.1 (T k).2.2.1 = some x) (hdg : decode cc pc = .ok (.getfield index, 3)) (kk : vx_NoteN p l e R s m args below meth c H locs cells slots Q (F0 m pc ls rest)) : W p l e R s m args below meth c H locs cells slots Q (F0 m pc ls (.null :: rest)) := by
  obtain ⟨hS, hfc, kC, hkC, -⟩ := hK.1 ci _ hc
  obtain ⟨cf, kf, fi, f, hi, -⟩ := hS k hk
  intro U hU X
  obtain ⟨vm', X1, st1⟩ := X.getfieldNullNest hexec hown hlink (hsame _ hi) (u_facts hfc hkC (u_lays hts hin hk) hi).1 (g := F0 m pc ls (.null :: rest)) rfl (rest := rest) rfl (by rw [hb]; exact hdg)
  obtain ⟨t, st, q⟩ := kk (U.setVm vm') hU X1
  exact ⟨t, st1 t st, q⟩
theorem vx_putfN {D cl tys} {own ref C : String} {T : u_T} {N ci index : Nat} {Ts : List Cond} (hexec : p.tables.exec = Jvm.exec) (hb : c.code = cc) (hts : ∀ w ∈ Ts, w.before args s = true) (hin : ∀ w ∈ u_ws C T N, w ∈ Ts) (hown : s.vm.findClass own = some m.cls) (hK : va_K D cl tys s) (hc : cl[ci]? = some (C, T, N)) (k : Nat) (hk : k < N) (hlink : (Cond.fieldLink own index ref (T k).2.1 (T k).2.2.1).before args s = true) (hsame : ∀ x, s.fieldFound? (T k).1 (T k).2.1 (T k).2.2.1 = some x → s.fieldFound? ref (T k).2.1 (T k).2.2.1 = some x) (hfin : (T k).2.2.2 = false) {v : Value} (hdg : decode cc pc = .ok (.putfield index, 3)) (kk : vx_NoteN p l e R s m args below meth c H locs cells slots Q (F0 m pc ls rest)) : W p l e R s m args below meth c H locs cells slots Q (F0 m pc ls (v :: .null :: rest)) := by
  obtain ⟨hS, hfc, kC, hkC, -⟩ := hK.1 ci _ hc
  obtain ⟨cf, kf, fi, f, hi, -⟩ := hS k hk
  have hlay := hts _ (hin _ (u_in_lay hk))
  unfold u_lay at hlay
  rw [if_neg (by rw [hfin]; decide)] at hlay
  obtain ⟨c9, k9, cf9, kf9, fi9, f9, -, -, hi9, hst9, hnf9, -⟩ := Cond.lays_spec hlay
  cases hi.symm.trans hi9
  intro U hU X
  obtain ⟨vm', X1, st1⟩ := X.putfieldNull hexec hown hlink (hsame _ hi) hst9 hnf9 (g := F0 m pc ls (v :: .null :: rest)) rfl (v := v) (rest := rest) rfl (by rw [hb]; exact hdg)
  obtain ⟨t, st, q⟩ := kk (U.setVm vm') hU X1
  exact ⟨t, st1 t st, q⟩
theorem vx_putfNN {D cl tys} {own ref C host : String} {T : u_T} {N ci index : Nat} {Ts : List Cond} (hexec : p.tables.exec = Jvm.exec) (hb : c.code = cc) (hts : ∀ w ∈ Ts, w.before args s = true) (hin : ∀ w ∈ u_ws C T N, w ∈ Ts) (hown : s.vm.findClass own = some m.cls) (hK : va_K D cl tys s) (hc : cl[ci]? = some (C, T, N)) (k : Nat) (hk : k < N) (hlink : (Cond.fieldLinkNest own index ref (T k).2.1 (T k).2.2.1 host).before args s = true) (hsame : ∀ x, s.fieldFound? (T k).1 (T k).2.1 (T k).2.2.1 = some x → s.fieldFound? ref (T k).2.1 (T k).2.2.1 = some x) (hfin : (T k).2.2.2 = false) {v : Value} (hdg : decode cc pc = .ok (.putfield index, 3)) (kk : vx_NoteN p l e R s m args below meth c H locs cells slots Q (F0 m pc ls rest)) : W p l e R s m args below meth c H locs cells slots Q (F0 m pc ls (v :: .null :: rest)) := by
  obtain ⟨hS, hfc, kC, hkC, -⟩ := hK.1 ci _ hc
  obtain ⟨cf, kf, fi, f, hi, -⟩ := hS k hk
  have hlay := hts _ (hin _ (u_in_lay hk))
  unfold u_lay at hlay
  rw [if_neg (by rw [hfin]; decide)] at hlay
  obtain ⟨c9, k9, cf9, kf9, fi9, f9, -, -, hi9, hst9, hnf9, -⟩ := Cond.lays_spec hlay
  cases hi.symm.trans hi9
  intro U hU X
  obtain ⟨vm', X1, st1⟩ := X.putfieldNullNest hexec hown hlink (hsame _ hi) hst9 hnf9 (g := F0 m pc ls (v :: .null :: rest)) rfl (v := v) (rest := rest) rfl (by rw [hb]; exact hdg)
  obtain ⟨t, st, q⟩ := kk (U.setVm vm') hU X1
  exact ⟨t, st1 t st, q⟩
theorem vx_athrowN (hexec : p.tables.exec = Jvm.exec) (hb : c.code = cc) (hdg : decode cc pc = .ok (.athrow, 1)) (k : vx_NoteN p l e R s m args below meth c H locs cells slots Q (F0 m pc ls rest)) : W p l e R s m args below meth c H locs cells slots Q (F0 m pc ls (.null :: rest)) := by
  intro T hT X
  obtain ⟨t, st, q⟩ := k T hT X
  exact ⟨t, X.athrowNull hexec (g := F0 m pc ls (.null :: rest)) rfl (rest := rest) rfl (by rw [hb]; exact hdg) t st, q⟩
end VXM2
/-! ===== END ===== -/

-- ===== PART A: goes FIRST, ahead of the names: the tables' words, and 'selects' of the private methods out of them =====
/-- a private method of a class that the tables say can be made, by its rows of tables_1 -/
def lw_okq (q : MethodName × Nat) : Prop := (q.1.cls ≠ "java/lang/invoke/MethodHandle" ∧ q.1.cls ≠ "java/lang/invoke/VarHandle") ∧ Cond.instantiable q.1.cls q.2 ∈ tables_1 ∧ Cond.privateMethod q.1 ∈ tables_1 ∧ Cond.instanceMethod q.1 ∈ tables_1
theorem lw_p0 : lw_okq (⟨"RugPunch$Rug", "punch", "()V"⟩, 9) := ⟨⟨by decide +kernel, by decide +kernel⟩, List.mem_of_getElem? (i := 27) (by decide +kernel), List.mem_of_getElem? (i := 408) (by decide +kernel), List.mem_of_getElem? (i := 409) (by decide +kernel)⟩
theorem lw_p1 : lw_okq (⟨"RugPunch$Rug", "feelKnot", "(I)V"⟩, 9) := ⟨⟨by decide +kernel, by decide +kernel⟩, List.mem_of_getElem? (i := 27) (by decide +kernel), List.mem_of_getElem? (i := 435) (by decide +kernel), List.mem_of_getElem? (i := 436) (by decide +kernel)⟩
theorem lw_p2 : lw_okq (⟨"RugPunch$Rug", "goOn", "()Z"⟩, 9) := ⟨⟨by decide +kernel, by decide +kernel⟩, List.mem_of_getElem? (i := 27) (by decide +kernel), List.mem_of_getElem? (i := 439) (by decide +kernel), List.mem_of_getElem? (i := 440) (by decide +kernel)⟩
theorem lw_p3 : lw_okq (⟨"java/lang/Throwable", "fillInStackTrace", "(I)Ljava/lang/Throwable;"⟩, 6) := ⟨⟨by decide +kernel, by decide +kernel⟩, List.mem_of_getElem? (i := 494) (by decide +kernel), List.mem_of_getElem? (i := 492) (by decide +kernel), List.mem_of_getElem? (i := 493) (by decide +kernel)⟩
theorem lw_p4 : lw_okq (⟨"RugPunch$Areas", "spreadFrom", "(I)V"⟩, 4) := ⟨⟨by decide +kernel, by decide +kernel⟩, List.mem_of_getElem? (i := 177) (by decide +kernel), List.mem_of_getElem? (i := 618) (by decide +kernel), List.mem_of_getElem? (i := 619) (by decide +kernel)⟩
theorem lw_p5 : lw_okq (⟨"RugPunch$Areas", "reach", "(I)V"⟩, 4) := ⟨⟨by decide +kernel, by decide +kernel⟩, List.mem_of_getElem? (i := 177) (by decide +kernel), List.mem_of_getElem? (i := 622) (by decide +kernel), List.mem_of_getElem? (i := 623) (by decide +kernel)⟩
theorem lw_p6 : lw_okq (⟨"RugPunch$Areas", "joinBeside", "(LRugPunch$Canvas;II)Z"⟩, 4) := ⟨⟨by decide +kernel, by decide +kernel⟩, List.mem_of_getElem? (i := 177) (by decide +kernel), List.mem_of_getElem? (i := 638) (by decide +kernel), List.mem_of_getElem? (i := 639) (by decide +kernel)⟩
theorem lw_p7 : lw_okq (⟨"RugPunch$Areas", "chiefOf", "(I)I"⟩, 4) := ⟨⟨by decide +kernel, by decide +kernel⟩, List.mem_of_getElem? (i := 177) (by decide +kernel), List.mem_of_getElem? (i := 642) (by decide +kernel), List.mem_of_getElem? (i := 643) (by decide +kernel)⟩
theorem lw_p8 : lw_okq (⟨"RugPunch", "needThreaded", "()V"⟩, 7) := ⟨⟨by decide +kernel, by decide +kernel⟩, List.mem_of_getElem? (i := 19) (by decide +kernel), List.mem_of_getElem? (i := 797) (by decide +kernel), List.mem_of_getElem? (i := 798) (by decide +kernel)⟩
theorem lw_p9 : lw_okq (⟨"RugPunch", "needMotifText", "()V"⟩, 7) := ⟨⟨by decide +kernel, by decide +kernel⟩, List.mem_of_getElem? (i := 19) (by decide +kernel), List.mem_of_getElem? (i := 917) (by decide +kernel), List.mem_of_getElem? (i := 918) (by decide +kernel)⟩
theorem lw_p10 : lw_okq (⟨"RugPunch$Player", "enter", "(LRugPunch$Script;)Z"⟩, 7) := ⟨⟨by decide +kernel, by decide +kernel⟩, List.mem_of_getElem? (i := 148) (by decide +kernel), List.mem_of_getElem? (i := 945) (by decide +kernel), List.mem_of_getElem? (i := 946) (by decide +kernel)⟩
theorem lw_p11 : lw_okq (⟨"RugPunch$Player", "endGroup", "(I)V"⟩, 7) := ⟨⟨by decide +kernel, by decide +kernel⟩, List.mem_of_getElem? (i := 148) (by decide +kernel), List.mem_of_getElem? (i := 951) (by decide +kernel), List.mem_of_getElem? (i := 952) (by decide +kernel)⟩
theorem lw_p12 : lw_okq (⟨"RugPunch$Player", "doOrder", "(LRugPunch$Rug;LRugPunch$Script;I)Z"⟩, 7) := ⟨⟨by decide +kernel, by decide +kernel⟩, List.mem_of_getElem? (i := 148) (by decide +kernel), List.mem_of_getElem? (i := 955) (by decide +kernel), List.mem_of_getElem? (i := 956) (by decide +kernel)⟩
theorem lw_p13 : lw_okq (⟨"RugPunch$Player", "goTo", "(I)V"⟩, 7) := ⟨⟨by decide +kernel, by decide +kernel⟩, List.mem_of_getElem? (i := 148) (by decide +kernel), List.mem_of_getElem? (i := 963) (by decide +kernel), List.mem_of_getElem? (i := 964) (by decide +kernel)⟩
theorem lw_p14 : lw_okq (⟨"RugPunch$Player", "startGroup", "(II)V"⟩, 7) := ⟨⟨by decide +kernel, by decide +kernel⟩, List.mem_of_getElem? (i := 148) (by decide +kernel), List.mem_of_getElem? (i := 974) (by decide +kernel), List.mem_of_getElem? (i := 975) (by decide +kernel)⟩
theorem lw_p15 : lw_okq (⟨"RugPunch$Canvas", "firstInRing", "(III)I"⟩, 3) := ⟨⟨by decide +kernel, by decide +kernel⟩, List.mem_of_getElem? (i := 33) (by decide +kernel), List.mem_of_getElem? (i := 1015) (by decide +kernel), List.mem_of_getElem? (i := 1016) (by decide +kernel)⟩
def lw_privs_1 : List (MethodName × Nat) := [(⟨"RugPunch$Rug", "punch", "()V"⟩, 9), (⟨"RugPunch$Rug", "feelKnot", "(I)V"⟩, 9), (⟨"RugPunch$Rug", "goOn", "()Z"⟩, 9), (⟨"java/lang/Throwable", "fillInStackTrace", "(I)Ljava/lang/Throwable;"⟩, 6), (⟨"RugPunch$Areas", "spreadFrom", "(I)V"⟩, 4), (⟨"RugPunch$Areas", "reach", "(I)V"⟩, 4), (⟨"RugPunch$Areas", "joinBeside", "(LRugPunch$Canvas;II)Z"⟩, 4), (⟨"RugPunch$Areas", "chiefOf", "(I)I"⟩, 4), (⟨"RugPunch", "needThreaded", "()V"⟩, 7), (⟨"RugPunch", "needMotifText", "()V"⟩, 7), (⟨"RugPunch$Player", "enter", "(LRugPunch$Script;)Z"⟩, 7), (⟨"RugPunch$Player", "endGroup", "(I)V"⟩, 7), (⟨"RugPunch$Player", "doOrder", "(LRugPunch$Rug;LRugPunch$Script;I)Z"⟩, 7), (⟨"RugPunch$Player", "goTo", "(I)V"⟩, 7), (⟨"RugPunch$Player", "startGroup", "(II)V"⟩, 7), (⟨"RugPunch$Canvas", "firstInRing", "(III)I"⟩, 3)]
theorem lw_r1 : ∀ q ∈ lw_privs_1, lw_okq q := List.forall_mem_cons.mpr ⟨lw_p0, List.forall_mem_cons.mpr ⟨lw_p1, List.forall_mem_cons.mpr ⟨lw_p2, List.forall_mem_cons.mpr ⟨lw_p3, List.forall_mem_cons.mpr ⟨lw_p4, List.forall_mem_cons.mpr ⟨lw_p5, List.forall_mem_cons.mpr ⟨lw_p6, List.forall_mem_cons.mpr ⟨lw_p7, List.forall_mem_cons.mpr ⟨lw_p8, List.forall_mem_cons.mpr ⟨lw_p9, List.forall_mem_cons.mpr ⟨lw_p10, List.forall_mem_cons.mpr ⟨lw_p11, List.forall_mem_cons.mpr ⟨lw_p12, List.forall_mem_cons.mpr ⟨lw_p13, List.forall_mem_cons.mpr ⟨lw_p14, List.forall_mem_cons.mpr ⟨lw_p15, fun _ h => absurd h List.not_mem_nil⟩⟩⟩⟩⟩⟩⟩⟩⟩⟩⟩⟩⟩⟩⟩⟩
theorem lw_p16 : lw_okq (⟨"RugPunch$Canvas", "missesAt", "(III)Z"⟩, 3) := ⟨⟨by decide +kernel, by decide +kernel⟩, List.mem_of_getElem? (i := 33) (by decide +kernel), List.mem_of_getElem? (i := 1022) (by decide +kernel), List.mem_of_getElem? (i := 1023) (by decide +kernel)⟩
theorem lw_p17 : lw_okq (⟨"RugPunch", "tryText", "()V"⟩, 7) := ⟨⟨by decide +kernel, by decide +kernel⟩, List.mem_of_getElem? (i := 19) (by decide +kernel), List.mem_of_getElem? (i := 1044) (by decide +kernel), List.mem_of_getElem? (i := 1045) (by decide +kernel)⟩
theorem lw_p18 : lw_okq (⟨"RugPunch", "simulateTurn", "(I)V"⟩, 7) := ⟨⟨by decide +kernel, by decide +kernel⟩, List.mem_of_getElem? (i := 19) (by decide +kernel), List.mem_of_getElem? (i := 1071) (by decide +kernel), List.mem_of_getElem? (i := 1072) (by decide +kernel)⟩
theorem lw_p19 : lw_okq (⟨"RugPunchModel", "refused", "(I)Z"⟩, 20) := ⟨⟨by decide +kernel, by decide +kernel⟩, List.mem_of_getElem? (i := 1094) (by decide +kernel), List.mem_of_getElem? (i := 1173) (by decide +kernel), List.mem_of_getElem? (i := 1174) (by decide +kernel)⟩
theorem lw_p20 : lw_okq (⟨"RugPunchModel", "readAll", "()I"⟩, 20) := ⟨⟨by decide +kernel, by decide +kernel⟩, List.mem_of_getElem? (i := 1094) (by decide +kernel), List.mem_of_getElem? (i := 1185) (by decide +kernel), List.mem_of_getElem? (i := 1186) (by decide +kernel)⟩
theorem lw_p21 : lw_okq (⟨"RugPunchModel", "readOrder", "()V"⟩, 20) := ⟨⟨by decide +kernel, by decide +kernel⟩, List.mem_of_getElem? (i := 1094) (by decide +kernel), List.mem_of_getElem? (i := 1189) (by decide +kernel), List.mem_of_getElem? (i := 1190) (by decide +kernel)⟩
theorem lw_p22 : lw_okq (⟨"RugPunchModel", "here", "()I"⟩, 20) := ⟨⟨by decide +kernel, by decide +kernel⟩, List.mem_of_getElem? (i := 1094) (by decide +kernel), List.mem_of_getElem? (i := 1193) (by decide +kernel), List.mem_of_getElem? (i := 1194) (by decide +kernel)⟩
theorem lw_p23 : lw_okq (⟨"RugPunchModel", "readPlain", "()V"⟩, 20) := ⟨⟨by decide +kernel, by decide +kernel⟩, List.mem_of_getElem? (i := 1094) (by decide +kernel), List.mem_of_getElem? (i := 1199) (by decide +kernel), List.mem_of_getElem? (i := 1200) (by decide +kernel)⟩
theorem lw_p24 : lw_okq (⟨"RugPunchModel", "take", "(Z)V"⟩, 20) := ⟨⟨by decide +kernel, by decide +kernel⟩, List.mem_of_getElem? (i := 1094) (by decide +kernel), List.mem_of_getElem? (i := 1203) (by decide +kernel), List.mem_of_getElem? (i := 1204) (by decide +kernel)⟩
theorem lw_p25 : lw_okq (⟨"RugPunchModel", "digit", "(II)I"⟩, 20) := ⟨⟨by decide +kernel, by decide +kernel⟩, List.mem_of_getElem? (i := 1094) (by decide +kernel), List.mem_of_getElem? (i := 1207) (by decide +kernel), List.mem_of_getElem? (i := 1208) (by decide +kernel)⟩
theorem lw_p26 : lw_okq (⟨"RugPunchModel", "noCell", "(I)Z"⟩, 20) := ⟨⟨by decide +kernel, by decide +kernel⟩, List.mem_of_getElem? (i := 1094) (by decide +kernel), List.mem_of_getElem? (i := 1215) (by decide +kernel), List.mem_of_getElem? (i := 1216) (by decide +kernel)⟩
theorem lw_p27 : lw_okq (⟨"RugPunchModel", "noColour", "(I)Z"⟩, 20) := ⟨⟨by decide +kernel, by decide +kernel⟩, List.mem_of_getElem? (i := 1094) (by decide +kernel), List.mem_of_getElem? (i := 1265) (by decide +kernel), List.mem_of_getElem? (i := 1266) (by decide +kernel)⟩
theorem lw_p28 : lw_okq (⟨"RugPunchModel", "areas", "(I)I"⟩, 20) := ⟨⟨by decide +kernel, by decide +kernel⟩, List.mem_of_getElem? (i := 1094) (by decide +kernel), List.mem_of_getElem? (i := 1273) (by decide +kernel), List.mem_of_getElem? (i := 1274) (by decide +kernel)⟩
theorem lw_p29 : lw_okq (⟨"RugPunchModel", "tell", "(I)I"⟩, 20) := ⟨⟨by decide +kernel, by decide +kernel⟩, List.mem_of_getElem? (i := 1094) (by decide +kernel), List.mem_of_getElem? (i := 1301) (by decide +kernel), List.mem_of_getElem? (i := 1302) (by decide +kernel)⟩
theorem lw_p30 : lw_okq (⟨"RugPunchModel", "change", "(II)I"⟩, 20) := ⟨⟨by decide +kernel, by decide +kernel⟩, List.mem_of_getElem? (i := 1094) (by decide +kernel), List.mem_of_getElem? (i := 1383) (by decide +kernel), List.mem_of_getElem? (i := 1384) (by decide +kernel)⟩
theorem lw_p31 : lw_okq (⟨"RugPunchModel", "remember", "()V"⟩, 20) := ⟨⟨by decide +kernel, by decide +kernel⟩, List.mem_of_getElem? (i := 1094) (by decide +kernel), List.mem_of_getElem? (i := 1387) (by decide +kernel), List.mem_of_getElem? (i := 1388) (by decide +kernel)⟩
def lw_privs_2 : List (MethodName × Nat) := [(⟨"RugPunch$Canvas", "missesAt", "(III)Z"⟩, 3), (⟨"RugPunch", "tryText", "()V"⟩, 7), (⟨"RugPunch", "simulateTurn", "(I)V"⟩, 7), (⟨"RugPunchModel", "refused", "(I)Z"⟩, 20), (⟨"RugPunchModel", "readAll", "()I"⟩, 20), (⟨"RugPunchModel", "readOrder", "()V"⟩, 20), (⟨"RugPunchModel", "here", "()I"⟩, 20), (⟨"RugPunchModel", "readPlain", "()V"⟩, 20), (⟨"RugPunchModel", "take", "(Z)V"⟩, 20), (⟨"RugPunchModel", "digit", "(II)I"⟩, 20), (⟨"RugPunchModel", "noCell", "(I)Z"⟩, 20), (⟨"RugPunchModel", "noColour", "(I)Z"⟩, 20), (⟨"RugPunchModel", "areas", "(I)I"⟩, 20), (⟨"RugPunchModel", "tell", "(I)I"⟩, 20), (⟨"RugPunchModel", "change", "(II)I"⟩, 20), (⟨"RugPunchModel", "remember", "()V"⟩, 20)]
theorem lw_r2 : ∀ q ∈ lw_privs_2, lw_okq q := List.forall_mem_cons.mpr ⟨lw_p16, List.forall_mem_cons.mpr ⟨lw_p17, List.forall_mem_cons.mpr ⟨lw_p18, List.forall_mem_cons.mpr ⟨lw_p19, List.forall_mem_cons.mpr ⟨lw_p20, List.forall_mem_cons.mpr ⟨lw_p21, List.forall_mem_cons.mpr ⟨lw_p22, List.forall_mem_cons.mpr ⟨lw_p23, List.forall_mem_cons.mpr ⟨lw_p24, List.forall_mem_cons.mpr ⟨lw_p25, List.forall_mem_cons.mpr ⟨lw_p26, List.forall_mem_cons.mpr ⟨lw_p27, List.forall_mem_cons.mpr ⟨lw_p28, List.forall_mem_cons.mpr ⟨lw_p29, List.forall_mem_cons.mpr ⟨lw_p30, List.forall_mem_cons.mpr ⟨lw_p31, fun _ h => absurd h List.not_mem_nil⟩⟩⟩⟩⟩⟩⟩⟩⟩⟩⟩⟩⟩⟩⟩⟩
theorem lw_p32 : lw_okq (⟨"RugPunchModel", "goRun", "([III)I"⟩, 20) := ⟨⟨by decide +kernel, by decide +kernel⟩, List.mem_of_getElem? (i := 1094) (by decide +kernel), List.mem_of_getElem? (i := 1497) (by decide +kernel), List.mem_of_getElem? (i := 1498) (by decide +kernel)⟩
theorem lw_p33 : lw_okq (⟨"RugPunchModel", "push", "(IIII)V"⟩, 20) := ⟨⟨by decide +kernel, by decide +kernel⟩, List.mem_of_getElem? (i := 1094) (by decide +kernel), List.mem_of_getElem? (i := 1501) (by decide +kernel), List.mem_of_getElem? (i := 1502) (by decide +kernel)⟩
theorem lw_p34 : lw_okq (⟨"RugPunchModel", "order", "([I)V"⟩, 20) := ⟨⟨by decide +kernel, by decide +kernel⟩, List.mem_of_getElem? (i := 1094) (by decide +kernel), List.mem_of_getElem? (i := 1505) (by decide +kernel), List.mem_of_getElem? (i := 1506) (by decide +kernel)⟩
theorem lw_p35 : lw_okq (⟨"RugPunchModel", "sign", "([III)I"⟩, 20) := ⟨⟨by decide +kernel, by decide +kernel⟩, List.mem_of_getElem? (i := 1094) (by decide +kernel), List.mem_of_getElem? (i := 1509) (by decide +kernel), List.mem_of_getElem? (i := 1510) (by decide +kernel)⟩
theorem lw_p36 : lw_okq (⟨"RugPunchModel", "fails", "(Z)V"⟩, 20) := ⟨⟨by decide +kernel, by decide +kernel⟩, List.mem_of_getElem? (i := 1094) (by decide +kernel), List.mem_of_getElem? (i := 1513) (by decide +kernel), List.mem_of_getElem? (i := 1514) (by decide +kernel)⟩
theorem lw_p37 : lw_okq (⟨"RugPunchModel", "nearest", "(I)I"⟩, 20) := ⟨⟨by decide +kernel, by decide +kernel⟩, List.mem_of_getElem? (i := 1094) (by decide +kernel), List.mem_of_getElem? (i := 1544) (by decide +kernel), List.mem_of_getElem? (i := 1545) (by decide +kernel)⟩
theorem lw_p38 : lw_okq (⟨"RugPunchModel", "tried", "()Z"⟩, 20) := ⟨⟨by decide +kernel, by decide +kernel⟩, List.mem_of_getElem? (i := 1094) (by decide +kernel), List.mem_of_getElem? (i := 1556) (by decide +kernel), List.mem_of_getElem? (i := 1557) (by decide +kernel)⟩
theorem lw_p39 : lw_okq (⟨"RugPunchModel", "stir", "(I)I"⟩, 20) := ⟨⟨by decide +kernel, by decide +kernel⟩, List.mem_of_getElem? (i := 1094) (by decide +kernel), List.mem_of_getElem? (i := 1575) (by decide +kernel), List.mem_of_getElem? (i := 1576) (by decide +kernel)⟩
def lw_privs_3 : List (MethodName × Nat) := [(⟨"RugPunchModel", "goRun", "([III)I"⟩, 20), (⟨"RugPunchModel", "push", "(IIII)V"⟩, 20), (⟨"RugPunchModel", "order", "([I)V"⟩, 20), (⟨"RugPunchModel", "sign", "([III)I"⟩, 20), (⟨"RugPunchModel", "fails", "(Z)V"⟩, 20), (⟨"RugPunchModel", "nearest", "(I)I"⟩, 20), (⟨"RugPunchModel", "tried", "()Z"⟩, 20), (⟨"RugPunchModel", "stir", "(I)I"⟩, 20)]
theorem lw_r3 : ∀ q ∈ lw_privs_3, lw_okq q := List.forall_mem_cons.mpr ⟨lw_p32, List.forall_mem_cons.mpr ⟨lw_p33, List.forall_mem_cons.mpr ⟨lw_p34, List.forall_mem_cons.mpr ⟨lw_p35, List.forall_mem_cons.mpr ⟨lw_p36, List.forall_mem_cons.mpr ⟨lw_p37, List.forall_mem_cons.mpr ⟨lw_p38, List.forall_mem_cons.mpr ⟨lw_p39, fun _ h => absurd h List.not_mem_nil⟩⟩⟩⟩⟩⟩⟩⟩
def lw_privs : List (MethodName × Nat) := lw_privs_1 ++ (lw_privs_2 ++ (lw_privs_3))
def lw_tbl : List Cond := k2_sels lw_privs ++ tables_1
theorem lw_privs_ok : ∀ q ∈ lw_privs, lw_okq q := by
  show ∀ q ∈ lw_privs_1 ++ (lw_privs_2 ++ (lw_privs_3)), lw_okq q
  exact List.forall_mem_append.mpr ⟨lw_r1, List.forall_mem_append.mpr ⟨lw_r2, lw_r3⟩⟩
/-- the streams that the claim lets the run draw from -/
abbrev lw_cs : List Choice := [Jvm.Choice.named "NaN.bits"]
theorem lw_bits : nanBits ∈ lw_cs := by first | decide | exact List.mem_cons_self | simp [lw_cs, nanBits]
end
section
def RX0 : String := "RugPunch$Areas"
def TX0 : u_T := fun k => match k with
  | 0 => ("RugPunch$Areas", "open", "[Z", true)
  | 1 => ("RugPunch$Areas", "reached", "[I", true)
  | 2 => ("RugPunch$Areas", "reachedCount", "I", false)
  | _ => ("RugPunch$Areas", "chief", "[I", true)
def tyX0 : Nat → FieldType := fun k => match k with
  | 0 => .array .boolean
  | 1 => .array .int
  | 2 => .int
  | _ => .array .int
theorem nmX0 : ∀ a, a < 4 → ∀ b, b < 4 → a ≠ b → (TX0 a).2.1 ≠ (TX0 b).2.1 := by decide +kernel
theorem tyX0_ok : ∀ k, k < 4 → parseFieldDescriptor (TX0 k).2.2.1 = some (tyX0 k) := by decide +kernel
abbrev cX0_init : ByteArray := prog_2_method_1_code
def yX0_init : MethodName := ⟨RX0, "<init>", "()V"⟩
abbrev cX0_countSpreading : ByteArray := prog_2_method_2_code
def yX0_countSpreading : MethodName := ⟨RX0, "countSpreading", "(LRugPunch$Canvas;I)I"⟩
abbrev cX0_spreadFrom : ByteArray := prog_2_method_3_code
def yX0_spreadFrom : MethodName := ⟨RX0, "spreadFrom", "(I)V"⟩
abbrev cX0_reach : ByteArray := prog_2_method_4_code
def yX0_reach : MethodName := ⟨RX0, "reach", "(I)V"⟩
abbrev cX0_countJoining : ByteArray := prog_2_method_5_code
def yX0_countJoining : MethodName := ⟨RX0, "countJoining", "(LRugPunch$Canvas;I)I"⟩
abbrev cX0_joinBeside : ByteArray := prog_2_method_6_code
def yX0_joinBeside : MethodName := ⟨RX0, "joinBeside", "(LRugPunch$Canvas;II)Z"⟩
abbrev cX0_chiefOf : ByteArray := prog_2_method_7_code
def yX0_chiefOf : MethodName := ⟨RX0, "chiefOf", "(I)I"⟩
def RX1 : String := "RugPunch$Canvas"
def TX1 : u_T := fun k => match k with
  | 0 => ("RugPunch$Canvas", "plan", "[I", true)
  | 1 => ("RugPunch$Canvas", "loops", "[I", true)
  | _ => ("RugPunch$Canvas", "heights", "[I", true)
def tyX1 : Nat → FieldType := fun k => match k with
  | 0 => .array .int
  | 1 => .array .int
  | _ => .array .int
theorem nmX1 : ∀ a, a < 3 → ∀ b, b < 3 → a ≠ b → (TX1 a).2.1 ≠ (TX1 b).2.1 := by decide +kernel
theorem tyX1_ok : ∀ k, k < 3 → parseFieldDescriptor (TX1 k).2.2.1 = some (tyX1 k) := by decide +kernel
abbrev cX1_init : ByteArray := prog_3_method_1_code
def yX1_init : MethodName := ⟨RX1, "<init>", "()V"⟩
abbrev cX1_copyFrom : ByteArray := prog_3_method_2_code
def yX1_copyFrom : MethodName := ⟨RX1, "copyFrom", "(LRugPunch$Canvas;)V"⟩
abbrev cX1_planAt : ByteArray := prog_3_method_3_code
def yX1_planAt : MethodName := ⟨RX1, "planAt", "(I)I"⟩
abbrev cX1_loopAt : ByteArray := prog_3_method_4_code
def yX1_loopAt : MethodName := ⟨RX1, "loopAt", "(I)I"⟩
abbrev cX1_heightAt : ByteArray := prog_3_method_5_code
def yX1_heightAt : MethodName := ⟨RX1, "heightAt", "(I)I"⟩
abbrev cX1_skippedAt : ByteArray := prog_3_method_6_code
def yX1_skippedAt : MethodName := ⟨RX1, "skippedAt", "(I)Z"⟩
abbrev cX1_missingAt : ByteArray := prog_3_method_7_code
def yX1_missingAt : MethodName := ⟨RX1, "missingAt", "(I)Z"⟩
abbrev cX1_setPlanAt : ByteArray := prog_3_method_8_code
def yX1_setPlanAt : MethodName := ⟨RX1, "setPlanAt", "(II)V"⟩
abbrev cX1_fillBetween : ByteArray := prog_3_method_9_code
def yX1_fillBetween : MethodName := ⟨RX1, "fillBetween", "(III)I"⟩
abbrev cX1_putLoop : ByteArray := prog_3_method_10_code
def yX1_putLoop : MethodName := ⟨RX1, "putLoop", "(III)V"⟩
abbrev cX1_putSkipped : ByteArray := prog_3_method_11_code
def yX1_putSkipped : MethodName := ⟨RX1, "putSkipped", "(I)V"⟩
abbrev cX1_clearCell : ByteArray := prog_3_method_12_code
def yX1_clearCell : MethodName := ⟨RX1, "clearCell", "(I)V"⟩
abbrev cX1_countLoops : ByteArray := prog_3_method_13_code
def yX1_countLoops : MethodName := ⟨RX1, "countLoops", "()I"⟩
abbrev cX1_countRight : ByteArray := prog_3_method_14_code
def yX1_countRight : MethodName := ⟨RX1, "countRight", "()I"⟩
abbrev cX1_countMissing : ByteArray := prog_3_method_15_code
def yX1_countMissing : MethodName := ⟨RX1, "countMissing", "()I"⟩
abbrev cX1_countMissingOf : ByteArray := prog_3_method_16_code
def yX1_countMissingOf : MethodName := ⟨RX1, "countMissingOf", "(I)I"⟩
abbrev cX1_countSkipped : ByteArray := prog_3_method_17_code
def yX1_countSkipped : MethodName := ⟨RX1, "countSkipped", "()I"⟩
abbrev cX1_sumHeights : ByteArray := prog_3_method_18_code
def yX1_sumHeights : MethodName := ⟨RX1, "sumHeights", "()I"⟩
abbrev cX1_yarnInLoops : ByteArray := prog_3_method_19_code
def yX1_yarnInLoops : MethodName := ⟨RX1, "yarnInLoops", "(I)I"⟩
abbrev cX1_nearestInRings : ByteArray := prog_3_method_20_code
def yX1_nearestInRings : MethodName := ⟨RX1, "nearestInRings", "(II)I"⟩
abbrev cX1_firstInRing : ByteArray := prog_3_method_21_code
def yX1_firstInRing : MethodName := ⟨RX1, "firstInRing", "(III)I"⟩
abbrev cX1_missesAt : ByteArray := prog_3_method_22_code
def yX1_missesAt : MethodName := ⟨RX1, "missesAt", "(III)Z"⟩
abbrev cX1_nearestInCells : ByteArray := prog_3_method_23_code
def yX1_nearestInCells : MethodName := ⟨RX1, "nearestInCells", "(II)I"⟩
def RX2 : String := "RugPunch$History"
def TX2 : u_T := fun k => match k with
  | 0 => ("RugPunch$History", "states", "[LRugPunch$Rug;", true)
  | 1 => ("RugPunch$History", "oldest", "I", false)
  | _ => ("RugPunch$History", "count", "I", false)
def tyX2 : Nat → FieldType := fun k => match k with
  | 0 => .array (.object "RugPunch$Rug")
  | 1 => .int
  | _ => .int
theorem nmX2 : ∀ a, a < 3 → ∀ b, b < 3 → a ≠ b → (TX2 a).2.1 ≠ (TX2 b).2.1 := by decide +kernel
theorem tyX2_ok : ∀ k, k < 3 → parseFieldDescriptor (TX2 k).2.2.1 = some (tyX2 k) := by decide +kernel
abbrev cX2_init : ByteArray := prog_4_method_1_code
def yX2_init : MethodName := ⟨RX2, "<init>", "()V"⟩
abbrev cX2_remember : ByteArray := prog_4_method_2_code
def yX2_remember : MethodName := ⟨RX2, "remember", "(LRugPunch$Rug;)V"⟩
abbrev cX2_takeBack : ByteArray := prog_4_method_3_code
def yX2_takeBack : MethodName := ⟨RX2, "takeBack", "(LRugPunch$Rug;)V"⟩
def RX3 : String := "RugPunch$Player"
def TX3 : u_T := fun k => match k with
  | 0 => ("RugPunch$Player", "scripts", "[LRugPunch$Script;", true)
  | 1 => ("RugPunch$Player", "places", "[I", true)
  | 2 => ("RugPunch$Player", "groups", "[I", true)
  | 3 => ("RugPunch$Player", "times", "[I", true)
  | 4 => ("RugPunch$Player", "level", "I", false)
  | 5 => ("RugPunch$Player", "orders", "I", false)
  | _ => ("RugPunch$Player", "broken", "I", false)
def tyX3 : Nat → FieldType := fun k => match k with
  | 0 => .array (.object "RugPunch$Script")
  | 1 => .array .int
  | 2 => .array .int
  | 3 => .array .int
  | 4 => .int
  | 5 => .int
  | _ => .int
theorem nmX3 : ∀ a, a < 7 → ∀ b, b < 7 → a ≠ b → (TX3 a).2.1 ≠ (TX3 b).2.1 := by decide +kernel
theorem tyX3_ok : ∀ k, k < 7 → parseFieldDescriptor (TX3 k).2.2.1 = some (tyX3 k) := by decide +kernel
abbrev cX3_init : ByteArray := prog_5_method_1_code
def yX3_init : MethodName := ⟨RX3, "<init>", "()V"⟩
abbrev cX3_play : ByteArray := prog_5_method_2_code
def yX3_play : MethodName := ⟨RX3, "play", "(LRugPunch$Rug;LRugPunch$Script;)I"⟩
abbrev cX3_enter : ByteArray := prog_5_method_3_code
def yX3_enter : MethodName := ⟨RX3, "enter", "(LRugPunch$Script;)Z"⟩
abbrev cX3_endGroup : ByteArray := prog_5_method_4_code
def yX3_endGroup : MethodName := ⟨RX3, "endGroup", "(I)V"⟩
abbrev cX3_startGroup : ByteArray := prog_5_method_5_code
def yX3_startGroup : MethodName := ⟨RX3, "startGroup", "(II)V"⟩
abbrev cX3_goTo : ByteArray := prog_5_method_6_code
def yX3_goTo : MethodName := ⟨RX3, "goTo", "(I)V"⟩
abbrev cX3_doOrder : ByteArray := prog_5_method_7_code
def yX3_doOrder : MethodName := ⟨RX3, "doOrder", "(LRugPunch$Rug;LRugPunch$Script;I)Z"⟩
abbrev cX3_signsOf : ByteArray := prog_5_method_8_code
def yX3_signsOf : MethodName := ⟨RX3, "signsOf", "(C)I"⟩
def RX4 : String := "RugPunch$Rug"
def TX4 : u_T := fun k => match k with
  | 0 => ("RugPunch$Rug", "canvas", "LRugPunch$Canvas;", true)
  | 1 => ("RugPunch$Rug", "yarn", "LRugPunch$Yarn;", true)
  | 2 => ("RugPunch$Rug", "motifs", "[LRugPunch$Script;", true)
  | 3 => ("RugPunch$Rug", "needle", "I", false)
  | 4 => ("RugPunch$Rug", "heading", "I", false)
  | 5 => ("RugPunch$Rug", "threaded", "I", false)
  | 6 => ("RugPunch$Rug", "height", "I", false)
  | 7 => ("RugPunch$Rug", "tension", "I", false)
  | _ => ("RugPunch$Rug", "knots", "I", false)
def tyX4 : Nat → FieldType := fun k => match k with
  | 0 => .object "RugPunch$Canvas"
  | 1 => .object "RugPunch$Yarn"
  | 2 => .array (.object "RugPunch$Script")
  | 3 => .int
  | 4 => .int
  | 5 => .int
  | 6 => .int
  | 7 => .int
  | _ => .int
theorem nmX4 : ∀ a, a < 9 → ∀ b, b < 9 → a ≠ b → (TX4 a).2.1 ≠ (TX4 b).2.1 := by decide +kernel
theorem tyX4_ok : ∀ k, k < 9 → parseFieldDescriptor (TX4 k).2.2.1 = some (tyX4 k) := by decide +kernel
abbrev cX4_init : ByteArray := prog_6_method_1_code
def yX4_init : MethodName := ⟨RX4, "<init>", "()V"⟩
abbrev cX4_copyFrom : ByteArray := prog_6_method_2_code
def yX4_copyFrom : MethodName := ⟨RX4, "copyFrom", "(LRugPunch$Rug;)V"⟩
abbrev cX4_keepMotif : ByteArray := prog_6_method_3_code
def yX4_keepMotif : MethodName := ⟨RX4, "keepMotif", "(ILRugPunch$Script;)V"⟩
abbrev cX4_motifAt : ByteArray := prog_6_method_4_code
def yX4_motifAt : MethodName := ⟨RX4, "motifAt", "(I)LRugPunch$Script;"⟩
abbrev cX4_isTight : ByteArray := prog_6_method_5_code
def yX4_isTight : MethodName := ⟨RX4, "isTight", "()Z"⟩
abbrev cX4_reasonAgainstStitch : ByteArray := prog_6_method_6_code
def yX4_reasonAgainstStitch : MethodName := ⟨RX4, "reasonAgainstStitch", "()I"⟩
abbrev cX4_reasonAgainstMending : ByteArray := prog_6_method_7_code
def yX4_reasonAgainstMending : MethodName := ⟨RX4, "reasonAgainstMending", "(I)I"⟩
abbrev cX4_sewUpTo : ByteArray := prog_6_method_8_code
def yX4_sewUpTo : MethodName := ⟨RX4, "sewUpTo", "(I)I"⟩
abbrev cX4_punch : ByteArray := prog_6_method_9_code
def yX4_punch : MethodName := ⟨RX4, "punch", "()V"⟩
abbrev cX4_feelKnot : ByteArray := prog_6_method_10_code
def yX4_feelKnot : MethodName := ⟨RX4, "feelKnot", "(I)V"⟩
abbrev cX4_goOn : ByteArray := prog_6_method_11_code
def yX4_goOn : MethodName := ⟨RX4, "goOn", "()Z"⟩
abbrev cX4_jumpOver : ByteArray := prog_6_method_12_code
def yX4_jumpOver : MethodName := ⟨RX4, "jumpOver", "(I)I"⟩
abbrev cX4_turnBy : ByteArray := prog_6_method_13_code
def yX4_turnBy : MethodName := ⟨RX4, "turnBy", "(I)V"⟩
abbrev cX4_tryThread : ByteArray := prog_6_method_14_code
def yX4_tryThread : MethodName := ⟨RX4, "tryThread", "(I)Z"⟩
abbrev cX4_tryCut : ByteArray := prog_6_method_15_code
def yX4_tryCut : MethodName := ⟨RX4, "tryCut", "()Z"⟩
abbrev cX4_tryEase : ByteArray := prog_6_method_16_code
def yX4_tryEase : MethodName := ⟨RX4, "tryEase", "()Z"⟩
abbrev cX4_mendAt : ByteArray := prog_6_method_17_code
def yX4_mendAt : MethodName := ⟨RX4, "mendAt", "(I)V"⟩
abbrev cX4_tryUnpick : ByteArray := prog_6_method_18_code
def yX4_tryUnpick : MethodName := ⟨RX4, "tryUnpick", "(I)V"⟩
abbrev cX4_shearTo : ByteArray := prog_6_method_19_code
def yX4_shearTo : MethodName := ⟨RX4, "shearTo", "(I)I"⟩
def RX5 : String := "RugPunch$Script"
def TX5 : u_T := fun k => match k with
  | 0 => ("RugPunch$Script", "signs", "[C", true)
  | _ => ("RugPunch$Script", "length", "I", false)
def tyX5 : Nat → FieldType := fun k => match k with
  | 0 => .array .char
  | _ => .int
theorem nmX5 : ∀ a, a < 2 → ∀ b, b < 2 → a ≠ b → (TX5 a).2.1 ≠ (TX5 b).2.1 := by decide +kernel
theorem tyX5_ok : ∀ k, k < 2 → parseFieldDescriptor (TX5 k).2.2.1 = some (tyX5 k) := by decide +kernel
abbrev cX5_init : ByteArray := prog_7_method_1_code
def yX5_init : MethodName := ⟨RX5, "<init>", "()V"⟩
abbrev cX5_add : ByteArray := prog_7_method_2_code
def yX5_add : MethodName := ⟨RX5, "add", "(C)V"⟩
abbrev cX5_copyFrom : ByteArray := prog_7_method_3_code
def yX5_copyFrom : MethodName := ⟨RX5, "copyFrom", "(LRugPunch$Script;)V"⟩
abbrev cX5_signAt : ByteArray := prog_7_method_4_code
def yX5_signAt : MethodName := ⟨RX5, "signAt", "(I)C"⟩
abbrev cX5_digitAt : ByteArray := prog_7_method_5_code
def yX5_digitAt : MethodName := ⟨RX5, "digitAt", "(I)I"⟩
abbrev cX5_firstError : ByteArray := prog_7_method_6_code
def yX5_firstError : MethodName := ⟨RX5, "firstError", "()I"⟩
abbrev cX5_awaitedAfter : ByteArray := prog_7_method_7_code
def yX5_awaitedAfter : MethodName := ⟨RX5, "awaitedAfter", "(ICZ)I"⟩
abbrev cX5_startOfOrder : ByteArray := prog_7_method_8_code
def yX5_startOfOrder : MethodName := ⟨RX5, "startOfOrder", "(CZ)I"⟩
abbrev cX5_endOfOrder : ByteArray := prog_7_method_9_code
def yX5_endOfOrder : MethodName := ⟨RX5, "endOfOrder", "(CCC)I"⟩
abbrev cX5_hasMotifFrom : ByteArray := prog_7_method_10_code
def yX5_hasMotifFrom : MethodName := ⟨RX5, "hasMotifFrom", "(I)Z"⟩
def RX6 : String := "RugPunch$Yarn"
def TX6 : u_T := fun k => match k with
  | 0 => ("RugPunch$Yarn", "cones", "[I", true)
  | 1 => ("RugPunch$Yarn", "puts", "[I", true)
  | 2 => ("RugPunch$Yarn", "floats", "[I", true)
  | 3 => ("RugPunch$Yarn", "ends", "[I", true)
  | _ => ("RugPunch$Yarn", "waste", "[I", true)
def tyX6 : Nat → FieldType := fun k => match k with
  | 0 => .array .int
  | 1 => .array .int
  | 2 => .array .int
  | 3 => .array .int
  | _ => .array .int
theorem nmX6 : ∀ a, a < 5 → ∀ b, b < 5 → a ≠ b → (TX6 a).2.1 ≠ (TX6 b).2.1 := by decide +kernel
theorem tyX6_ok : ∀ k, k < 5 → parseFieldDescriptor (TX6 k).2.2.1 = some (tyX6 k) := by decide +kernel
abbrev cX6_init : ByteArray := prog_8_method_1_code
def yX6_init : MethodName := ⟨RX6, "<init>", "()V"⟩
abbrev cX6_copyFrom : ByteArray := prog_8_method_2_code
def yX6_copyFrom : MethodName := ⟨RX6, "copyFrom", "(LRugPunch$Yarn;)V"⟩
abbrev cX6_onCone : ByteArray := prog_8_method_3_code
def yX6_onCone : MethodName := ⟨RX6, "onCone", "(I)I"⟩
abbrev cX6_hasEnd : ByteArray := prog_8_method_4_code
def yX6_hasEnd : MethodName := ⟨RX6, "hasEnd", "(I)Z"⟩
abbrev cX6_drawn : ByteArray := prog_8_method_5_code
def yX6_drawn : MethodName := ⟨RX6, "drawn", "(I)I"⟩
abbrev cX6_wasted : ByteArray := prog_8_method_6_code
def yX6_wasted : MethodName := ⟨RX6, "wasted", "(I)I"⟩
abbrev cX6_outsideLoops : ByteArray := prog_8_method_7_code
def yX6_outsideLoops : MethodName := ⟨RX6, "outsideLoops", "(I)I"⟩
abbrev cX6_putOn : ByteArray := prog_8_method_8_code
def yX6_putOn : MethodName := ⟨RX6, "putOn", "(II)V"⟩
abbrev cX6_draw : ByteArray := prog_8_method_9_code
def yX6_draw : MethodName := ⟨RX6, "draw", "(II)I"⟩
abbrev cX6_drawFloat : ByteArray := prog_8_method_10_code
def yX6_drawFloat : MethodName := ⟨RX6, "drawFloat", "(II)V"⟩
abbrev cX6_drawEnd : ByteArray := prog_8_method_11_code
def yX6_drawEnd : MethodName := ⟨RX6, "drawEnd", "(I)V"⟩
abbrev cX6_addWaste : ByteArray := prog_8_method_12_code
def yX6_addWaste : MethodName := ⟨RX6, "addWaste", "(II)V"⟩
def RX7 : String := "RugPunch"
def TX7 : u_T := fun k => match k with
  | 0 => ("RugPunch", "rug", "LRugPunch$Rug;", true)
  | 1 => ("RugPunch", "trial", "LRugPunch$Rug;", true)
  | 2 => ("RugPunch", "slots", "[LRugPunch$Rug;", true)
  | 3 => ("RugPunch", "history", "LRugPunch$History;", true)
  | 4 => ("RugPunch", "text", "LRugPunch$Script;", true)
  | 5 => ("RugPunch", "player", "LRugPunch$Player;", true)
  | _ => ("RugPunch", "areas", "LRugPunch$Areas;", true)
def tyX7 : Nat → FieldType := fun k => match k with
  | 0 => .object "RugPunch$Rug"
  | 1 => .object "RugPunch$Rug"
  | 2 => .array (.object "RugPunch$Rug")
  | 3 => .object "RugPunch$History"
  | 4 => .object "RugPunch$Script"
  | 5 => .object "RugPunch$Player"
  | _ => .object "RugPunch$Areas"
theorem nmX7 : ∀ a, a < 7 → ∀ b, b < 7 → a ≠ b → (TX7 a).2.1 ≠ (TX7 b).2.1 := by decide +kernel
theorem tyX7_ok : ∀ k, k < 7 → parseFieldDescriptor (TX7 k).2.2.1 = some (tyX7 k) := by decide +kernel
abbrev cX7_init : ByteArray := prog_1_method_1_code
def yX7_init : MethodName := ⟨RX7, "<init>", "()V"⟩
abbrev cX7_append : ByteArray := prog_1_method_2_code
def yX7_append : MethodName := ⟨RX7, "append", "(I)I"⟩
abbrev cX7_clearText : ByteArray := prog_1_method_3_code
def yX7_clearText : MethodName := ⟨RX7, "clearText", "()I"⟩
abbrev cX7_errorPosition : ByteArray := prog_1_method_4_code
def yX7_errorPosition : MethodName := ⟨RX7, "errorPosition", "()I"⟩
abbrev cX7_planOf : ByteArray := prog_1_method_5_code
def yX7_planOf : MethodName := ⟨RX7, "planOf", "(I)I"⟩
abbrev cX7_loopOf : ByteArray := prog_1_method_6_code
def yX7_loopOf : MethodName := ⟨RX7, "loopOf", "(I)I"⟩
abbrev cX7_heightOf : ByteArray := prog_1_method_7_code
def yX7_heightOf : MethodName := ⟨RX7, "heightOf", "(I)I"⟩
abbrev cX7_isSkipped : ByteArray := prog_1_method_8_code
def yX7_isSkipped : MethodName := ⟨RX7, "isSkipped", "(I)Z"⟩
abbrev cX7_right : ByteArray := prog_1_method_9_code
def yX7_right : MethodName := ⟨RX7, "right", "()I"⟩
abbrev cX7_missing : ByteArray := prog_1_method_10_code
def yX7_missing : MethodName := ⟨RX7, "missing", "()I"⟩
abbrev cX7_wrong : ByteArray := prog_1_method_11_code
def yX7_wrong : MethodName := ⟨RX7, "wrong", "()I"⟩
abbrev cX7_skipped : ByteArray := prog_1_method_12_code
def yX7_skipped : MethodName := ⟨RX7, "skipped", "()I"⟩
abbrev cX7_areasBySpreading : ByteArray := prog_1_method_13_code
def yX7_areasBySpreading : MethodName := ⟨RX7, "areasBySpreading", "(I)I"⟩
abbrev cX7_areasByJoining : ByteArray := prog_1_method_14_code
def yX7_areasByJoining : MethodName := ⟨RX7, "areasByJoining", "(I)I"⟩
abbrev cX7_density : ByteArray := prog_1_method_15_code
def yX7_density : MethodName := ⟨RX7, "density", "()F"⟩
abbrev cX7_meanHeight : ByteArray := prog_1_method_16_code
def yX7_meanHeight : MethodName := ⟨RX7, "meanHeight", "()D"⟩
abbrev cX7_needle : ByteArray := prog_1_method_17_code
def yX7_needle : MethodName := ⟨RX7, "needle", "()I"⟩
abbrev cX7_heading : ByteArray := prog_1_method_18_code
def yX7_heading : MethodName := ⟨RX7, "heading", "()I"⟩
abbrev cX7_threaded : ByteArray := prog_1_method_19_code
def yX7_threaded : MethodName := ⟨RX7, "threaded", "()I"⟩
abbrev cX7_height : ByteArray := prog_1_method_20_code
def yX7_height : MethodName := ⟨RX7, "height", "()I"⟩
abbrev cX7_tension : ByteArray := prog_1_method_21_code
def yX7_tension : MethodName := ⟨RX7, "tension", "()I"⟩
abbrev cX7_canGo : ByteArray := prog_1_method_22_code
def yX7_canGo : MethodName := ⟨RX7, "canGo", "()Z"⟩
abbrev cX7_wouldSkip : ByteArray := prog_1_method_23_code
def yX7_wouldSkip : MethodName := ⟨RX7, "wouldSkip", "()Z"⟩
abbrev cX7_coneOf : ByteArray := prog_1_method_24_code
def yX7_coneOf : MethodName := ⟨RX7, "coneOf", "(I)I"⟩
abbrev cX7_drawnByCone : ByteArray := prog_1_method_25_code
def yX7_drawnByCone : MethodName := ⟨RX7, "drawnByCone", "(I)I"⟩
abbrev cX7_drawnByRug : ByteArray := prog_1_method_26_code
def yX7_drawnByRug : MethodName := ⟨RX7, "drawnByRug", "(I)I"⟩
abbrev cX7_wasteOf : ByteArray := prog_1_method_27_code
def yX7_wasteOf : MethodName := ⟨RX7, "wasteOf", "(I)I"⟩
abbrev cX7_neededFor : ByteArray := prog_1_method_28_code
def yX7_neededFor : MethodName := ⟨RX7, "neededFor", "(I)I"⟩
abbrev cX7_untilKnot : ByteArray := prog_1_method_29_code
def yX7_untilKnot : MethodName := ⟨RX7, "untilKnot", "(I)I"⟩
abbrev cX7_knots : ByteArray := prog_1_method_30_code
def yX7_knots : MethodName := ⟨RX7, "knots", "()I"⟩
abbrev cX7_motifLength : ByteArray := prog_1_method_31_code
def yX7_motifLength : MethodName := ⟨RX7, "motifLength", "(I)I"⟩
abbrev cX7_motifSign : ByteArray := prog_1_method_32_code
def yX7_motifSign : MethodName := ⟨RX7, "motifSign", "(II)I"⟩
abbrev cX7_setPlan : ByteArray := prog_1_method_33_code
def yX7_setPlan : MethodName := ⟨RX7, "setPlan", "(II)I"⟩
abbrev cX7_fillPlan : ByteArray := prog_1_method_34_code
def yX7_fillPlan : MethodName := ⟨RX7, "fillPlan", "(III)I"⟩
abbrev cX7_thread : ByteArray := prog_1_method_35_code
def yX7_thread : MethodName := ⟨RX7, "thread", "(I)I"⟩
abbrev cX7_cut : ByteArray := prog_1_method_36_code
def yX7_cut : MethodName := ⟨RX7, "cut", "()I"⟩
abbrev cX7_sew : ByteArray := prog_1_method_37_code
def yX7_sew : MethodName := ⟨RX7, "sew", "(I)I"⟩
abbrev cX7_jump : ByteArray := prog_1_method_38_code
def yX7_jump : MethodName := ⟨RX7, "jump", "(I)I"⟩
abbrev cX7_turnLeft : ByteArray := prog_1_method_39_code
def yX7_turnLeft : MethodName := ⟨RX7, "turnLeft", "()I"⟩
abbrev cX7_turnRight : ByteArray := prog_1_method_40_code
def yX7_turnRight : MethodName := ⟨RX7, "turnRight", "()I"⟩
abbrev cX7_ease : ByteArray := prog_1_method_41_code
def yX7_ease : MethodName := ⟨RX7, "ease", "()I"⟩
abbrev cX7_setHeight : ByteArray := prog_1_method_42_code
def yX7_setHeight : MethodName := ⟨RX7, "setHeight", "(I)I"⟩
abbrev cX7_place : ByteArray := prog_1_method_43_code
def yX7_place : MethodName := ⟨RX7, "place", "(II)I"⟩
abbrev cX7_wind : ByteArray := prog_1_method_44_code
def yX7_wind : MethodName := ⟨RX7, "wind", "(II)I"⟩
abbrev cX7_mend : ByteArray := prog_1_method_45_code
def yX7_mend : MethodName := ⟨RX7, "mend", "(I)I"⟩
abbrev cX7_unpick : ByteArray := prog_1_method_46_code
def yX7_unpick : MethodName := ⟨RX7, "unpick", "(I)I"⟩
abbrev cX7_shear : ByteArray := prog_1_method_47_code
def yX7_shear : MethodName := ⟨RX7, "shear", "(I)I"⟩
abbrev cX7_store : ByteArray := prog_1_method_48_code
def yX7_store : MethodName := ⟨RX7, "store", "(I)I"⟩
abbrev cX7_run : ByteArray := prog_1_method_49_code
def yX7_run : MethodName := ⟨RX7, "run", "(I)I"⟩
abbrev cX7_runText : ByteArray := prog_1_method_50_code
def yX7_runText : MethodName := ⟨RX7, "runText", "()I"⟩
abbrev cX7_undo : ByteArray := prog_1_method_51_code
def yX7_undo : MethodName := ⟨RX7, "undo", "()I"⟩
abbrev cX7_whyNoStitch : ByteArray := prog_1_method_52_code
def yX7_whyNoStitch : MethodName := ⟨RX7, "whyNoStitch", "()I"⟩
abbrev cX7_whyNoMending : ByteArray := prog_1_method_53_code
def yX7_whyNoMending : MethodName := ⟨RX7, "whyNoMending", "(I)I"⟩
abbrev cX7_couldSew : ByteArray := prog_1_method_54_code
def yX7_couldSew : MethodName := ⟨RX7, "couldSew", "()I"⟩
abbrev cX7_nearestByRings : ByteArray := prog_1_method_55_code
def yX7_nearestByRings : MethodName := ⟨RX7, "nearestByRings", "(I)I"⟩
abbrev cX7_nearestByCells : ByteArray := prog_1_method_56_code
def yX7_nearestByCells : MethodName := ⟨RX7, "nearestByCells", "(I)I"⟩
abbrev cX7_loopsBy : ByteArray := prog_1_method_57_code
def yX7_loopsBy : MethodName := ⟨RX7, "loopsBy", "()I"⟩
abbrev cX7_needleBy : ByteArray := prog_1_method_58_code
def yX7_needleBy : MethodName := ⟨RX7, "needleBy", "()I"⟩
abbrev cX7_yarnBy : ByteArray := prog_1_method_59_code
def yX7_yarnBy : MethodName := ⟨RX7, "yarnBy", "(I)I"⟩
abbrev cX7_simulate : ByteArray := prog_1_method_60_code
def yX7_simulate : MethodName := ⟨RX7, "simulate", "(JI)I"⟩
abbrev cX7_save : ByteArray := prog_1_method_61_code
def yX7_save : MethodName := ⟨RX7, "save", "(I)I"⟩
abbrev cX7_restore : ByteArray := prog_1_method_62_code
def yX7_restore : MethodName := ⟨RX7, "restore", "(I)I"⟩
abbrev cX7_tryText : ByteArray := prog_1_method_63_code
def yX7_tryText : MethodName := ⟨RX7, "tryText", "()V"⟩
abbrev cX7_simulateTurn : ByteArray := prog_1_method_64_code
def yX7_simulateTurn : MethodName := ⟨RX7, "simulateTurn", "(I)V"⟩
abbrev cX7_needThreaded : ByteArray := prog_1_method_65_code
def yX7_needThreaded : MethodName := ⟨RX7, "needThreaded", "()V"⟩
abbrev cX7_needMotifText : ByteArray := prog_1_method_66_code
def yX7_needMotifText : MethodName := ⟨RX7, "needMotifText", "()V"⟩
abbrev cX7_needCell : ByteArray := prog_1_method_67_code
def yX7_needCell : MethodName := ⟨RX7, "needCell", "(I)V"⟩
abbrev cX7_needColour : ByteArray := prog_1_method_68_code
def yX7_needColour : MethodName := ⟨RX7, "needColour", "(I)V"⟩
abbrev cX7_needMotif : ByteArray := prog_1_method_69_code
def yX7_needMotif : MethodName := ⟨RX7, "needMotif", "(I)V"⟩
abbrev cX7_needSlot : ByteArray := prog_1_method_70_code
def yX7_needSlot : MethodName := ⟨RX7, "needSlot", "(I)V"⟩
abbrev cX7_needRange : ByteArray := prog_1_method_71_code
def yX7_needRange : MethodName := ⟨RX7, "needRange", "(III)V"⟩
abbrev cX7_yarnForLoop : ByteArray := prog_1_method_72_code
def yX7_yarnForLoop : MethodName := ⟨RX7, "yarnForLoop", "(I)I"⟩
abbrev cX7_beside : ByteArray := prog_1_method_73_code
def yX7_beside : MethodName := ⟨RX7, "beside", "(II)I"⟩
def RX8 : String := "RugPunchModel"
def TX8 : u_T := fun k => match k with
  | 0 => ("RugPunchModel", "refusal", "I", false)
  | 1 => ("RugPunchModel", "now", "[I", true)
  | 2 => ("RugPunchModel", "trial", "[I", true)
  | 3 => ("RugPunchModel", "area", "[I", true)
  | 4 => ("RugPunchModel", "source", "[I", true)
  | 5 => ("RugPunchModel", "spot", "[I", true)
  | 6 => ("RugPunchModel", "first", "[I", true)
  | 7 => ("RugPunchModel", "end", "[I", true)
  | 8 => ("RugPunchModel", "times", "[I", true)
  | 9 => ("RugPunchModel", "deep", "I", false)
  | 10 => ("RugPunchModel", "broken", "I", false)
  | 11 => ("RugPunchModel", "book", "[I", true)
  | 12 => ("RugPunchModel", "states", "I", false)
  | 13 => ("RugPunchModel", "kept", "[I", true)
  | 14 => ("RugPunchModel", "isKept", "[Z", true)
  | 15 => ("RugPunchModel", "text", "[I", true)
  | 16 => ("RugPunchModel", "length", "I", false)
  | 17 => ("RugPunchModel", "at", "I", false)
  | 18 => ("RugPunchModel", "good", "Z", false)
  | _ => ("RugPunchModel", "greatest", "I", false)
def tyX8 : Nat → FieldType := fun k => match k with
  | 0 => .int
  | 1 => .array .int
  | 2 => .array .int
  | 3 => .array .int
  | 4 => .array .int
  | 5 => .array .int
  | 6 => .array .int
  | 7 => .array .int
  | 8 => .array .int
  | 9 => .int
  | 10 => .int
  | 11 => .array .int
  | 12 => .int
  | 13 => .array .int
  | 14 => .array .boolean
  | 15 => .array .int
  | 16 => .int
  | 17 => .int
  | 18 => .boolean
  | _ => .int
theorem nmX8 : ∀ a, a < 20 → ∀ b, b < 20 → a ≠ b → (TX8 a).2.1 ≠ (TX8 b).2.1 := by decide +kernel
theorem tyX8_ok : ∀ k, k < 20 → parseFieldDescriptor (TX8 k).2.2.1 = some (tyX8 k) := by decide +kernel
abbrev cX8_init : ByteArray := prog_10_method_1_code
def yX8_init : MethodName := ⟨RX8, "<init>", "()V"⟩
abbrev cX8_thrown : ByteArray := prog_10_method_2_code
def yX8_thrown : MethodName := ⟨RX8, "thrown", "()I"⟩
abbrev cX8_refused : ByteArray := prog_10_method_3_code
def yX8_refused : MethodName := ⟨RX8, "refused", "(I)Z"⟩
abbrev cX8_in : ByteArray := prog_10_method_4_code
def yX8_in : MethodName := ⟨RX8, "in", "(JJJ)Z"⟩
abbrev cX8_copy : ByteArray := prog_10_method_5_code
def yX8_copy : MethodName := ⟨RX8, "copy", "([I[I)V"⟩
abbrev cX8_isCell : ByteArray := prog_10_method_6_code
def yX8_isCell : MethodName := ⟨RX8, "isCell", "(I)Z"⟩
abbrev cX8_isColour : ByteArray := prog_10_method_7_code
def yX8_isColour : MethodName := ⟨RX8, "isColour", "(I)Z"⟩
abbrev cX8_hasLoop : ByteArray := prog_10_method_8_code
def yX8_hasLoop : MethodName := ⟨RX8, "hasLoop", "([II)Z"⟩
abbrev cX8_yarn : ByteArray := prog_10_method_9_code
def yX8_yarn : MethodName := ⟨RX8, "yarn", "(I)I"⟩
abbrev cX8_isMissing : ByteArray := prog_10_method_10_code
def yX8_isMissing : MethodName := ⟨RX8, "isMissing", "([II)Z"⟩
abbrev cX8_cone : ByteArray := prog_10_method_11_code
def yX8_cone : MethodName := ⟨RX8, "cone", "([III)I"⟩
abbrev cX8_drawn : ByteArray := prog_10_method_12_code
def yX8_drawn : MethodName := ⟨RX8, "drawn", "([II)I"⟩
abbrev cX8_next : ByteArray := prog_10_method_13_code
def yX8_next : MethodName := ⟨RX8, "next", "(II)I"⟩
abbrev cX8_draw : ByteArray := prog_10_method_14_code
def yX8_draw : MethodName := ⟨RX8, "draw", "([IIII)V"⟩
abbrev cX8_pull : ByteArray := prog_10_method_15_code
def yX8_pull : MethodName := ⟨RX8, "pull", "([IIIII)V"⟩
abbrev cX8_goCut : ByteArray := prog_10_method_16_code
def yX8_goCut : MethodName := ⟨RX8, "goCut", "([I)I"⟩
abbrev cX8_goThread : ByteArray := prog_10_method_17_code
def yX8_goThread : MethodName := ⟨RX8, "goThread", "([II)I"⟩
abbrev cX8_noStitch : ByteArray := prog_10_method_18_code
def yX8_noStitch : MethodName := ⟨RX8, "noStitch", "([I)I"⟩
abbrev cX8_stitch : ByteArray := prog_10_method_19_code
def yX8_stitch : MethodName := ⟨RX8, "stitch", "([I)Z"⟩
abbrev cX8_goSew : ByteArray := prog_10_method_20_code
def yX8_goSew : MethodName := ⟨RX8, "goSew", "([II)I"⟩
abbrev cX8_goJump : ByteArray := prog_10_method_21_code
def yX8_goJump : MethodName := ⟨RX8, "goJump", "([II)I"⟩
abbrev cX8_goTurn : ByteArray := prog_10_method_22_code
def yX8_goTurn : MethodName := ⟨RX8, "goTurn", "([II)I"⟩
abbrev cX8_goEase : ByteArray := prog_10_method_23_code
def yX8_goEase : MethodName := ⟨RX8, "goEase", "([I)I"⟩
abbrev cX8_goUnpick : ByteArray := prog_10_method_24_code
def yX8_goUnpick : MethodName := ⟨RX8, "goUnpick", "([II)I"⟩
abbrev cX8_goShear : ByteArray := prog_10_method_25_code
def yX8_goShear : MethodName := ⟨RX8, "goShear", "([II)I"⟩
abbrev cX8_loops : ByteArray := prog_10_method_26_code
def yX8_loops : MethodName := ⟨RX8, "loops", "([I)I"⟩
abbrev cX8_sign : ByteArray := prog_10_method_27_code
def yX8_sign : MethodName := ⟨RX8, "sign", "([III)I"⟩
abbrev cX8_push : ByteArray := prog_10_method_28_code
def yX8_push : MethodName := ⟨RX8, "push", "(IIII)V"⟩
abbrev cX8_fails : ByteArray := prog_10_method_29_code
def yX8_fails : MethodName := ⟨RX8, "fails", "(Z)V"⟩
abbrev cX8_order : ByteArray := prog_10_method_30_code
def yX8_order : MethodName := ⟨RX8, "order", "([I)V"⟩
abbrev cX8_goRun : ByteArray := prog_10_method_31_code
def yX8_goRun : MethodName := ⟨RX8, "goRun", "([III)I"⟩
abbrev cX8_remember : ByteArray := prog_10_method_32_code
def yX8_remember : MethodName := ⟨RX8, "remember", "()V"⟩
abbrev cX8_change : ByteArray := prog_10_method_33_code
def yX8_change : MethodName := ⟨RX8, "change", "(II)I"⟩
abbrev cX8_append : ByteArray := prog_10_method_34_code
def yX8_append : MethodName := ⟨RX8, "append", "(I)I"⟩
abbrev cX8_clearText : ByteArray := prog_10_method_35_code
def yX8_clearText : MethodName := ⟨RX8, "clearText", "()I"⟩
abbrev cX8_here : ByteArray := prog_10_method_36_code
def yX8_here : MethodName := ⟨RX8, "here", "()I"⟩
abbrev cX8_take : ByteArray := prog_10_method_37_code
def yX8_take : MethodName := ⟨RX8, "take", "(Z)V"⟩
abbrev cX8_digit : ByteArray := prog_10_method_38_code
def yX8_digit : MethodName := ⟨RX8, "digit", "(II)I"⟩
abbrev cX8_readPlain : ByteArray := prog_10_method_39_code
def yX8_readPlain : MethodName := ⟨RX8, "readPlain", "()V"⟩
abbrev cX8_readOrder : ByteArray := prog_10_method_40_code
def yX8_readOrder : MethodName := ⟨RX8, "readOrder", "()V"⟩
abbrev cX8_readAll : ByteArray := prog_10_method_41_code
def yX8_readAll : MethodName := ⟨RX8, "readAll", "()I"⟩
abbrev cX8_errorPosition : ByteArray := prog_10_method_42_code
def yX8_errorPosition : MethodName := ⟨RX8, "errorPosition", "()I"⟩
abbrev cX8_noCell : ByteArray := prog_10_method_43_code
def yX8_noCell : MethodName := ⟨RX8, "noCell", "(I)Z"⟩
abbrev cX8_noColour : ByteArray := prog_10_method_44_code
def yX8_noColour : MethodName := ⟨RX8, "noColour", "(I)Z"⟩
abbrev cX8_planOf : ByteArray := prog_10_method_45_code
def yX8_planOf : MethodName := ⟨RX8, "planOf", "(I)I"⟩
abbrev cX8_loopOf : ByteArray := prog_10_method_46_code
def yX8_loopOf : MethodName := ⟨RX8, "loopOf", "(I)I"⟩
abbrev cX8_heightOf : ByteArray := prog_10_method_47_code
def yX8_heightOf : MethodName := ⟨RX8, "heightOf", "(I)I"⟩
abbrev cX8_isSkipped : ByteArray := prog_10_method_48_code
def yX8_isSkipped : MethodName := ⟨RX8, "isSkipped", "(I)Z"⟩
abbrev cX8_right : ByteArray := prog_10_method_49_code
def yX8_right : MethodName := ⟨RX8, "right", "()I"⟩
abbrev cX8_missing : ByteArray := prog_10_method_50_code
def yX8_missing : MethodName := ⟨RX8, "missing", "()I"⟩
abbrev cX8_wrong : ByteArray := prog_10_method_51_code
def yX8_wrong : MethodName := ⟨RX8, "wrong", "()I"⟩
abbrev cX8_skippedIn : ByteArray := prog_10_method_52_code
def yX8_skippedIn : MethodName := ⟨RX8, "skippedIn", "([I)I"⟩
abbrev cX8_skipped : ByteArray := prog_10_method_53_code
def yX8_skipped : MethodName := ⟨RX8, "skipped", "()I"⟩
abbrev cX8_areas : ByteArray := prog_10_method_54_code
def yX8_areas : MethodName := ⟨RX8, "areas", "(I)I"⟩
abbrev cX8_areasBySpreading : ByteArray := prog_10_method_55_code
def yX8_areasBySpreading : MethodName := ⟨RX8, "areasBySpreading", "(I)I"⟩
abbrev cX8_areasByJoining : ByteArray := prog_10_method_56_code
def yX8_areasByJoining : MethodName := ⟨RX8, "areasByJoining", "(I)I"⟩
abbrev cX8_density : ByteArray := prog_10_method_57_code
def yX8_density : MethodName := ⟨RX8, "density", "()F"⟩
abbrev cX8_meanHeight : ByteArray := prog_10_method_58_code
def yX8_meanHeight : MethodName := ⟨RX8, "meanHeight", "()D"⟩
abbrev cX8_tell : ByteArray := prog_10_method_59_code
def yX8_tell : MethodName := ⟨RX8, "tell", "(I)I"⟩
abbrev cX8_needle : ByteArray := prog_10_method_60_code
def yX8_needle : MethodName := ⟨RX8, "needle", "()I"⟩
abbrev cX8_heading : ByteArray := prog_10_method_61_code
def yX8_heading : MethodName := ⟨RX8, "heading", "()I"⟩
abbrev cX8_threaded : ByteArray := prog_10_method_62_code
def yX8_threaded : MethodName := ⟨RX8, "threaded", "()I"⟩
abbrev cX8_height : ByteArray := prog_10_method_63_code
def yX8_height : MethodName := ⟨RX8, "height", "()I"⟩
abbrev cX8_tension : ByteArray := prog_10_method_64_code
def yX8_tension : MethodName := ⟨RX8, "tension", "()I"⟩
abbrev cX8_canGo : ByteArray := prog_10_method_65_code
def yX8_canGo : MethodName := ⟨RX8, "canGo", "()Z"⟩
abbrev cX8_wouldSkip : ByteArray := prog_10_method_66_code
def yX8_wouldSkip : MethodName := ⟨RX8, "wouldSkip", "()Z"⟩
abbrev cX8_coneOf : ByteArray := prog_10_method_67_code
def yX8_coneOf : MethodName := ⟨RX8, "coneOf", "(I)I"⟩
abbrev cX8_drawnByCone : ByteArray := prog_10_method_68_code
def yX8_drawnByCone : MethodName := ⟨RX8, "drawnByCone", "(I)I"⟩
abbrev cX8_drawnByRug : ByteArray := prog_10_method_69_code
def yX8_drawnByRug : MethodName := ⟨RX8, "drawnByRug", "(I)I"⟩
abbrev cX8_wasteOf : ByteArray := prog_10_method_70_code
def yX8_wasteOf : MethodName := ⟨RX8, "wasteOf", "(I)I"⟩
abbrev cX8_neededFor : ByteArray := prog_10_method_71_code
def yX8_neededFor : MethodName := ⟨RX8, "neededFor", "(I)I"⟩
abbrev cX8_untilKnot : ByteArray := prog_10_method_72_code
def yX8_untilKnot : MethodName := ⟨RX8, "untilKnot", "(I)I"⟩
abbrev cX8_knots : ByteArray := prog_10_method_73_code
def yX8_knots : MethodName := ⟨RX8, "knots", "()I"⟩
abbrev cX8_isMotif : ByteArray := prog_10_method_74_code
def yX8_isMotif : MethodName := ⟨RX8, "isMotif", "(I)Z"⟩
abbrev cX8_motifLength : ByteArray := prog_10_method_75_code
def yX8_motifLength : MethodName := ⟨RX8, "motifLength", "(I)I"⟩
abbrev cX8_motifSign : ByteArray := prog_10_method_76_code
def yX8_motifSign : MethodName := ⟨RX8, "motifSign", "(II)I"⟩
abbrev cX8_setPlan : ByteArray := prog_10_method_77_code
def yX8_setPlan : MethodName := ⟨RX8, "setPlan", "(II)I"⟩
abbrev cX8_fillPlan : ByteArray := prog_10_method_78_code
def yX8_fillPlan : MethodName := ⟨RX8, "fillPlan", "(III)I"⟩
abbrev cX8_thread : ByteArray := prog_10_method_79_code
def yX8_thread : MethodName := ⟨RX8, "thread", "(I)I"⟩
abbrev cX8_cut : ByteArray := prog_10_method_80_code
def yX8_cut : MethodName := ⟨RX8, "cut", "()I"⟩
abbrev cX8_sew : ByteArray := prog_10_method_81_code
def yX8_sew : MethodName := ⟨RX8, "sew", "(I)I"⟩
abbrev cX8_jump : ByteArray := prog_10_method_82_code
def yX8_jump : MethodName := ⟨RX8, "jump", "(I)I"⟩
abbrev cX8_turnLeft : ByteArray := prog_10_method_83_code
def yX8_turnLeft : MethodName := ⟨RX8, "turnLeft", "()I"⟩
abbrev cX8_turnRight : ByteArray := prog_10_method_84_code
def yX8_turnRight : MethodName := ⟨RX8, "turnRight", "()I"⟩
abbrev cX8_ease : ByteArray := prog_10_method_85_code
def yX8_ease : MethodName := ⟨RX8, "ease", "()I"⟩
abbrev cX8_setHeight : ByteArray := prog_10_method_86_code
def yX8_setHeight : MethodName := ⟨RX8, "setHeight", "(I)I"⟩
abbrev cX8_place : ByteArray := prog_10_method_87_code
def yX8_place : MethodName := ⟨RX8, "place", "(II)I"⟩
abbrev cX8_wind : ByteArray := prog_10_method_88_code
def yX8_wind : MethodName := ⟨RX8, "wind", "(II)I"⟩
abbrev cX8_noMending : ByteArray := prog_10_method_89_code
def yX8_noMending : MethodName := ⟨RX8, "noMending", "([II)I"⟩
abbrev cX8_mend : ByteArray := prog_10_method_90_code
def yX8_mend : MethodName := ⟨RX8, "mend", "(I)I"⟩
abbrev cX8_unpick : ByteArray := prog_10_method_91_code
def yX8_unpick : MethodName := ⟨RX8, "unpick", "(I)I"⟩
abbrev cX8_shear : ByteArray := prog_10_method_92_code
def yX8_shear : MethodName := ⟨RX8, "shear", "(I)I"⟩
abbrev cX8_store : ByteArray := prog_10_method_93_code
def yX8_store : MethodName := ⟨RX8, "store", "(I)I"⟩
abbrev cX8_run : ByteArray := prog_10_method_94_code
def yX8_run : MethodName := ⟨RX8, "run", "(I)I"⟩
abbrev cX8_runText : ByteArray := prog_10_method_95_code
def yX8_runText : MethodName := ⟨RX8, "runText", "()I"⟩
abbrev cX8_undo : ByteArray := prog_10_method_96_code
def yX8_undo : MethodName := ⟨RX8, "undo", "()I"⟩
abbrev cX8_whyNoStitch : ByteArray := prog_10_method_97_code
def yX8_whyNoStitch : MethodName := ⟨RX8, "whyNoStitch", "()I"⟩
abbrev cX8_whyNoMending : ByteArray := prog_10_method_98_code
def yX8_whyNoMending : MethodName := ⟨RX8, "whyNoMending", "(I)I"⟩
abbrev cX8_couldSew : ByteArray := prog_10_method_99_code
def yX8_couldSew : MethodName := ⟨RX8, "couldSew", "()I"⟩
abbrev cX8_nearest : ByteArray := prog_10_method_100_code
def yX8_nearest : MethodName := ⟨RX8, "nearest", "(I)I"⟩
abbrev cX8_nearestByRings : ByteArray := prog_10_method_101_code
def yX8_nearestByRings : MethodName := ⟨RX8, "nearestByRings", "(I)I"⟩
abbrev cX8_nearestByCells : ByteArray := prog_10_method_102_code
def yX8_nearestByCells : MethodName := ⟨RX8, "nearestByCells", "(I)I"⟩
abbrev cX8_tried : ByteArray := prog_10_method_103_code
def yX8_tried : MethodName := ⟨RX8, "tried", "()Z"⟩
abbrev cX8_loopsBy : ByteArray := prog_10_method_104_code
def yX8_loopsBy : MethodName := ⟨RX8, "loopsBy", "()I"⟩
abbrev cX8_needleBy : ByteArray := prog_10_method_105_code
def yX8_needleBy : MethodName := ⟨RX8, "needleBy", "()I"⟩
abbrev cX8_yarnBy : ByteArray := prog_10_method_106_code
def yX8_yarnBy : MethodName := ⟨RX8, "yarnBy", "(I)I"⟩
abbrev cX8_stir : ByteArray := prog_10_method_107_code
def yX8_stir : MethodName := ⟨RX8, "stir", "(I)I"⟩
abbrev cX8_simulate : ByteArray := prog_10_method_108_code
def yX8_simulate : MethodName := ⟨RX8, "simulate", "(JI)I"⟩
abbrev cX8_save : ByteArray := prog_10_method_109_code
def yX8_save : MethodName := ⟨RX8, "save", "(I)I"⟩
abbrev cX8_restore : ByteArray := prog_10_method_110_code
def yX8_restore : MethodName := ⟨RX8, "restore", "(I)I"⟩
def RJ9 : String := "java/lang/Math"
def RJ0 : String := "java/lang/String"
def RJ10 : String := "java/lang/System"
def RL : String := "RugPunchLaw"
abbrev cL_append : ByteArray := method_3_code
def yL_append : MethodName := ⟨RL, "append", "(LRugPunch;I[J)I"⟩
abbrev cL_planOf : ByteArray := method_4_code
def yL_planOf : MethodName := ⟨RL, "planOf", "(LRugPunch;I[J)I"⟩
abbrev cL_loopOf : ByteArray := method_5_code
def yL_loopOf : MethodName := ⟨RL, "loopOf", "(LRugPunch;I[J)I"⟩
abbrev cL_heightOf : ByteArray := method_6_code
def yL_heightOf : MethodName := ⟨RL, "heightOf", "(LRugPunch;I[J)I"⟩
abbrev cL_isSkipped : ByteArray := method_7_code
def yL_isSkipped : MethodName := ⟨RL, "isSkipped", "(LRugPunch;I[J)I"⟩
abbrev cL_areasBySpreading : ByteArray := method_8_code
def yL_areasBySpreading : MethodName := ⟨RL, "areasBySpreading", "(LRugPunch;I[J)I"⟩
abbrev cL_areasByJoining : ByteArray := method_9_code
def yL_areasByJoining : MethodName := ⟨RL, "areasByJoining", "(LRugPunch;I[J)I"⟩
abbrev cL_coneOf : ByteArray := method_10_code
def yL_coneOf : MethodName := ⟨RL, "coneOf", "(LRugPunch;I[J)I"⟩
abbrev cL_drawnByCone : ByteArray := method_11_code
def yL_drawnByCone : MethodName := ⟨RL, "drawnByCone", "(LRugPunch;I[J)I"⟩
abbrev cL_drawnByRug : ByteArray := method_12_code
def yL_drawnByRug : MethodName := ⟨RL, "drawnByRug", "(LRugPunch;I[J)I"⟩
abbrev cL_wasteOf : ByteArray := method_13_code
def yL_wasteOf : MethodName := ⟨RL, "wasteOf", "(LRugPunch;I[J)I"⟩
abbrev cL_neededFor : ByteArray := method_14_code
def yL_neededFor : MethodName := ⟨RL, "neededFor", "(LRugPunch;I[J)I"⟩
abbrev cL_untilKnot : ByteArray := method_15_code
def yL_untilKnot : MethodName := ⟨RL, "untilKnot", "(LRugPunch;I[J)I"⟩
abbrev cL_motifLength : ByteArray := method_16_code
def yL_motifLength : MethodName := ⟨RL, "motifLength", "(LRugPunch;I[J)I"⟩
abbrev cL_motifSign : ByteArray := method_17_code
def yL_motifSign : MethodName := ⟨RL, "motifSign", "(LRugPunch;II[J)I"⟩
abbrev cL_setPlan : ByteArray := method_18_code
def yL_setPlan : MethodName := ⟨RL, "setPlan", "(LRugPunch;II[J)I"⟩
abbrev cL_fillPlan : ByteArray := method_19_code
def yL_fillPlan : MethodName := ⟨RL, "fillPlan", "(LRugPunch;III[J)I"⟩
abbrev cL_thread : ByteArray := method_20_code
def yL_thread : MethodName := ⟨RL, "thread", "(LRugPunch;I[J)I"⟩
abbrev cL_cut : ByteArray := method_21_code
def yL_cut : MethodName := ⟨RL, "cut", "(LRugPunch;[J)I"⟩
abbrev cL_sew : ByteArray := method_22_code
def yL_sew : MethodName := ⟨RL, "sew", "(LRugPunch;I[J)I"⟩
abbrev cL_jump : ByteArray := method_23_code
def yL_jump : MethodName := ⟨RL, "jump", "(LRugPunch;I[J)I"⟩
abbrev cL_ease : ByteArray := method_24_code
def yL_ease : MethodName := ⟨RL, "ease", "(LRugPunch;[J)I"⟩
abbrev cL_setHeight : ByteArray := method_25_code
def yL_setHeight : MethodName := ⟨RL, "setHeight", "(LRugPunch;I[J)I"⟩
abbrev cL_place : ByteArray := method_26_code
def yL_place : MethodName := ⟨RL, "place", "(LRugPunch;II[J)I"⟩
abbrev cL_wind : ByteArray := method_27_code
def yL_wind : MethodName := ⟨RL, "wind", "(LRugPunch;II[J)I"⟩
abbrev cL_mend : ByteArray := method_28_code
def yL_mend : MethodName := ⟨RL, "mend", "(LRugPunch;I[J)I"⟩
abbrev cL_unpick : ByteArray := method_29_code
def yL_unpick : MethodName := ⟨RL, "unpick", "(LRugPunch;I[J)I"⟩
abbrev cL_shear : ByteArray := method_30_code
def yL_shear : MethodName := ⟨RL, "shear", "(LRugPunch;I[J)I"⟩
abbrev cL_store : ByteArray := method_31_code
def yL_store : MethodName := ⟨RL, "store", "(LRugPunch;I[J)I"⟩
abbrev cL_run : ByteArray := method_32_code
def yL_run : MethodName := ⟨RL, "run", "(LRugPunch;I[J)I"⟩
abbrev cL_runText : ByteArray := method_33_code
def yL_runText : MethodName := ⟨RL, "runText", "(LRugPunch;[J)I"⟩
abbrev cL_undo : ByteArray := method_34_code
def yL_undo : MethodName := ⟨RL, "undo", "(LRugPunch;[J)I"⟩
abbrev cL_whyNoMending : ByteArray := method_35_code
def yL_whyNoMending : MethodName := ⟨RL, "whyNoMending", "(LRugPunch;I[J)I"⟩
abbrev cL_nearestByRings : ByteArray := method_36_code
def yL_nearestByRings : MethodName := ⟨RL, "nearestByRings", "(LRugPunch;I[J)I"⟩
abbrev cL_nearestByCells : ByteArray := method_37_code
def yL_nearestByCells : MethodName := ⟨RL, "nearestByCells", "(LRugPunch;I[J)I"⟩
abbrev cL_loopsBy : ByteArray := method_38_code
def yL_loopsBy : MethodName := ⟨RL, "loopsBy", "(LRugPunch;[J)I"⟩
abbrev cL_needleBy : ByteArray := method_39_code
def yL_needleBy : MethodName := ⟨RL, "needleBy", "(LRugPunch;[J)I"⟩
abbrev cL_yarnBy : ByteArray := method_40_code
def yL_yarnBy : MethodName := ⟨RL, "yarnBy", "(LRugPunch;I[J)I"⟩
abbrev cL_simulate : ByteArray := method_41_code
def yL_simulate : MethodName := ⟨RL, "simulate", "(LRugPunch;JI[J)I"⟩
abbrev cL_save : ByteArray := method_42_code
def yL_save : MethodName := ⟨RL, "save", "(LRugPunch;I[J)I"⟩
abbrev cL_restore : ByteArray := method_43_code
def yL_restore : MethodName := ⟨RL, "restore", "(LRugPunch;I[J)I"⟩
abbrev cL_law : ByteArray := code
def yL_law : MethodName := ⟨RL, "law", "([I)Z"⟩
abbrev vwCl : List vw_C := [(RX0, TX0, 4), (RX1, TX1, 3), (RX2, TX2, 3), (RX3, TX3, 7), (RX4, TX4, 9), (RX5, TX5, 2), (RX6, TX6, 5), (RX7, TX7, 7), (RX8, TX8, 20)]
end
section
/-! a method: name, code, locals, answer, (frames, locals' words, cells, slots) of its room, handlers -/
abbrev GM : Type := MethodName × ByteArray × Nat × Option FieldType × (Nat × Nat × Nat × Nat) × List (Nat × Nat × Nat × Nat)
abbrev gy (m : GM) : MethodName := m.1
abbrev gc (m : GM) : ByteArray := m.2.1
abbrev gl (m : GM) : Nat := m.2.2.1
abbrev gr (m : GM) : Option FieldType := m.2.2.2.1
abbrev gfr (m : GM) : Nat := m.2.2.2.2.1.1
abbrev glo (m : GM) : Nat := m.2.2.2.2.1.2.1
abbrev gce (m : GM) : Nat := m.2.2.2.2.1.2.2.1
abbrev gsl (m : GM) : Nat := m.2.2.2.2.1.2.2.2
abbrev ghh (m : GM) : List (Nat × Nat × Nat × Nat) := m.2.2.2.2.2
abbrev dc (m : GM) (pc : Nat) (i : Instr) (len : Nat) : Prop := decode (gc m) pc = .ok (i, len)
/-- the words that every method is given -/
def gW : List Cond := lw_tbl.filter goodWord
def gcw (m : GM) : Cond := match ghh m with
  | [] => Cond.code (gy m) (gc m) (gl m) (gr m)
  | h :: t => Cond.codeWith (gy m) (gc m) (gl m) (gr m) (h :: t)
def gws (m : GM) : List Cond := gcw m :: gW
def grm (m : GM) : Room := { frames := gfr m, cells := gce m, slots := gsl m, locals := glo m }
theorem gW_mem {w : Cond} (i : Nat) (h : lw_tbl[i]? = some w) (g : goodWord w = true) : w ∈ gW := List.mem_filter.mpr ⟨List.mem_of_getElem? h, g⟩
theorem gW_good : ∀ w ∈ gW, w ∈ gW ∧ ((w.onTables && w.keeps) = true ∨ ∃ ty, w = .arrayClass ty) := fun w h => ⟨h, good_of_word (List.mem_filter.mp h).2⟩
/-! the heap as a function of addresses -/
abbrev GE : Type := (Nat × vp_A) ⊕ (Nat × List Value)
abbrev Hp : Type := Nat → Option GE
abbrev GR : Type := Option Value ⊕ String
def hpu (M : Hp) (a : Nat) (e : GE) : Hp := fun b => if b = a then some e else M b
theorem hpu_same (M : Hp) (a : Nat) (e : GE) : hpu M a e a = some e := by simp [hpu]
theorem hpu_ne (M : Hp) {a b : Nat} (e : GE) (h : b ≠ a) : hpu M a e b = M b := by simp [hpu, h]
def aI (n : Nat) (f : Nat → Int32) : GE := .inl (0, n, .inl f)
def aC (n : Nat) (f : Nat → Int32) : GE := .inl (1, n, .inl f)
def aZ (n : Nat) (f : Nat → Int32) : GE := .inl (2, n, .inl f)
def aJ (n : Nat) (f : Nat → Int64) : GE := .inl (3, n, .inr (.inl f))
def aR (n : Nat) (f : Nat → Option Nat) : GE := .inl (4, n, .inr (.inr (.inr (.inr f))))
def aS (n : Nat) (f : Nat → Option Nat) : GE := .inl (5, n, .inr (.inr (.inr (.inr f))))
/-- the law's script: only read -/
def aX (n : Nat) (f : Nat → Int32) : GE := .inl (9, n, .inl f)
def oB (ci : Nat) (fs : List Value) : GE := .inr (ci, fs)
def gty : Nat → FieldType := fun k => match k with
  | 0 => .int
  | 1 => .char
  | 2 => .boolean
  | 3 => .long
  | 4 => .object "RugPunch$Rug"
  | 5 => .object "RugPunch$Script"
  | _ => .int
def gro (e : GE) : Bool := match e with
  | .inl q => decide (q.1 = 9)
  | .inr _ => false
def gAt (D : va_G) (dA : Nat → ClassId) (a : Nat) (e : GE) (H : Heap) : Prop := match e with
  | .inl (k, x) => if k = 9 then ∃ (scr : Cell) (f : Nat → Int32), x.2 = .inl f ∧ H[a]? = some scr ∧ scr.cls = dA 9 ∧ scr.vm ≠ .unknown ∧ (∀ k, scr.vm ≠ .statics k) ∧ scr.slots.size = x.1 ∧ ∀ j : Nat, j < x.1 → scr.slots[j]? = some (.int (f j)) else H[a]? = some (vp_cell (dA k) x)
  | .inr o => va_at D vwCl (a, .inr o) H
/-- the heap H holds M; the cells of M that may be written lie from base on -/
def GRep (D : va_G) (dA : Nat → ClassId) (base z : Nat) (M : Hp) (H : Heap) : Prop :=
  H.size = z ∧ ∀ (a : Nat) (e : GE), M a = some e → gAt D dA a e H ∧ (gro e = false → base ≤ a)
theorem gAt.kept {D : va_G} {dA : Nat → ClassId} {a : Nat} {e : GE} {H H1 : Heap} (h : gAt D dA a e H) (hq : H1[a]? = H[a]?) : gAt D dA a e H1 := by
  cases e with
  | inl x =>
    obtain ⟨k, x⟩ := x
    by_cases hk : k = 9
    · simp only [gAt, hk, if_true] at h ⊢
      obtain ⟨scr, f, h0, h1, h2⟩ := h
      exact ⟨scr, f, h0, by rw [hq]; exact h1, h2⟩
    · simp only [gAt, hk, if_false] at h ⊢
      rw [hq]; exact h
  | inr o => exact va_at.kept (q := (a, .inr o)) h hq
theorem gAt.lt {D : va_G} {dA : Nat → ClassId} {a : Nat} {e : GE} {H : Heap} (h : gAt D dA a e H) : a < H.size := by
  cases e with
  | inl x =>
    obtain ⟨k, x⟩ := x
    by_cases hk : k = 9
    · simp only [gAt, hk, if_true] at h
      obtain ⟨scr, f, h0, h1, h2⟩ := h
      exact (Array.getElem?_eq_some_iff.mp h1).1
    · simp only [gAt, hk, if_false] at h
      exact (Array.getElem?_eq_some_iff.mp h).1
  | inr o => exact va_at.lt (q := (a, .inr o)) h
theorem gAt.arr {D : va_G} {dA : Nat → ClassId} {a k : Nat} {x : vp_A} {H : Heap} (hk : k ≠ 9) (h : gAt D dA a (.inl (k, x)) H) : H[a]? = some (vp_cell (dA k) x) := by
  simp only [gAt, hk, if_false] at h; exact h
theorem gAt.mk {D : va_G} {dA : Nat → ClassId} {a k : Nat} {x : vp_A} {H : Heap} (hk : k ≠ 9) (h : H[a]? = some (vp_cell (dA k) x)) : gAt D dA a (.inl (k, x)) H := by
  simp only [gAt, hk, if_false]; exact h
theorem GRep.put {D : va_G} {dA : Nat → ClassId} {base z : Nat} {M : Hp} {H H1 : Heap} {a : Nat} {e0 e : GE} (h : GRep D dA base z M H) (ha : M a = some e0) (hr : gro e0 = false) (he : gAt D dA a e H1) (hz : H1.size = H.size) (oq : ∀ q : Nat, q ≠ a → H1[q]? = H[q]?) : GRep D dA base z (hpu M a e) H1 := by
  refine ⟨hz.trans h.1, fun b e' hb => ?_⟩
  by_cases hba : b = a
  · subst hba
    rw [hpu_same] at hb
    cases hb
    exact ⟨he, fun _ => (h.2 b e0 ha).2 hr⟩
  · rw [hpu_ne M e hba] at hb
    exact ⟨(h.2 b e' hb).1.kept (oq b hba), (h.2 b e' hb).2⟩
theorem GRep.push {D : va_G} {dA : Nat → ClassId} {base z : Nat} {M : Hp} {H H1 : Heap} {e : GE} (h : GRep D dA base z M H) (hb : base ≤ z) (he : gAt D dA z e H1) (hz : H1.size = z + 1) (oq : ∀ q : Nat, q < z → H1[q]? = H[q]?) : GRep D dA base (z + 1) (hpu M z e) H1 := by
  refine ⟨hz, fun b e' hb' => ?_⟩
  by_cases hba : b = z
  · subst hba
    rw [hpu_same] at hb'
    cases hb'
    exact ⟨he, fun _ => hb⟩
  · rw [hpu_ne M e hba] at hb'
    have h1 := (h.2 b e' hb').1
    have hlt : b < z := by rw [← h.1]; exact h1.lt
    exact ⟨h1.kept (oq b hlt), (h.2 b e' hb').2⟩
theorem GRep.grow {D : va_G} {dA : Nat → ClassId} {base z : Nat} {M : Hp} {H H1 : Heap} (h : GRep D dA base z M H) (hz : H.size ≤ H1.size) (oq : ∀ q : Nat, q < H.size → H1[q]? = H[q]?) : GRep D dA base H1.size M H1 :=
  ⟨rfl, fun b e' hb' => ⟨(h.2 b e' hb').1.kept (oq b (h.2 b e' hb').1.lt), (h.2 b e' hb').2⟩⟩
/-! what stays of the tables -/
def gnest : Cond → Bool
  | .fieldLinkNest .. => true
  | .methodLinkNest .. => true
  | _ => false
def gN : List Cond := tables_1.filter gnest
def gS : List (String × Nat × String) := tables_1.filterMap (fun w => match w with
  | .stringRef o k t => some (o, k, t)
  | _ => none)
/-- words on the tables that are no good words, yet stay -/
def gothr : Cond → Bool
  | .castable .. => true
  | .declares .. => true
  | _ => false
def gO : List Cond := tables_1.filter gothr
def gNC : List (String × String) := [("java/lang/IllegalStateException", "java/lang/IllegalArgumentException"), ("java/lang/IndexOutOfBoundsException", "java/lang/IllegalArgumentException"), ("java/lang/IllegalArgumentException", "java/lang/IllegalStateException"), ("java/lang/IndexOutOfBoundsException", "java/lang/IllegalStateException"), ("java/lang/IllegalArgumentException", "java/lang/IndexOutOfBoundsException"), ("java/lang/IllegalStateException", "java/lang/IndexOutOfBoundsException")]
def gtys (dA : Nat → ClassId) : List (ClassId × FieldType) := [(dA 0, .int), (dA 1, .char), (dA 2, .boolean), (dA 3, .long), (dA 4, .object "RugPunch$Rug"), (dA 5, .object "RugPunch$Script")]
def GT (D : va_G) (dA : Nat → ClassId) (U : State) : Prop :=
  va_K D vwCl (gtys dA) U ∧ ArrOfT U (dA 9) .int ∧ (∀ w ∈ gN, va_Nw w U) ∧ (∀ q ∈ gS, ∃ sa, vk_R q.1 q.2.1 q.2.2 sa U) ∧ va_AO "RugPunch$Rug" U ∧ va_AO "RugPunch$Script" U ∧ (∀ w ∈ gO, va_Nw w U) ∧ (∀ q ∈ gNC, va_Nc q.1 q.2 U)
theorem va_Nw.warmD2 {x : MethodName} {s U : State} (hW : s.WarmedH U.vm) (h : va_Nw (.declares x) s) : va_Nw (.declares x) U := by
  have h1 : (Cond.declares x).before #[] (s.setVm U.vm) = true := by
    rw [Cond.declares_setVm hW.alike]
    exact h
  exact va_tabs rfl (rfl : (s.setVm U.vm).vm = U.vm) h1
theorem va_Nw.warmK {a b : String} {s U : State} (hW : s.WarmedH U.vm) (h : va_Nw (.castable a b) s) : va_Nw (.castable a b) U := by
  have hvm := hW.alike
  obtain ⟨c, t, h1, h2, h3⟩ := Cond.castable_spec (show (Cond.castable a b).holds #[] s none s [] = true from h)
  have e1 : U.vm.findClass a = some c := by rw [hvm.findClass]; exact h1
  have e2 : U.vm.findClass b = some t := by rw [hvm.findClass]; exact h2
  have e3 : U.vm.assignable c t = true := by rw [hvm.assignable]; exact h3
  simp [va_Nw, Cond.before, Cond.holds, Cond.value, e1, e2, e3]
theorem va_AO_warm {C : String} {s U : State} (hW : s.WarmedH U.vm) (h : va_AO C s) : va_AO C U := va_AO.moved hW.alike h
theorem GT.warm {D : va_G} {dA : Nat → ClassId} {s U : State} (hW : s.WarmedH U.vm) (h : GT D dA s) : GT D dA U := by
  obtain ⟨h1, h2, h3, h4, h5, h6, h7, h8⟩ := h
  refine ⟨va_K.moved hW.alike h1, arrOfT_moved hW.alike h2, fun w hw => ?_, fun q hq => ?_, va_AO_warm hW h5, va_AO_warm hW h6, fun w hw => ?_, fun q hq => va_Nc.moved hW.alike (h8 q hq)⟩
  · have hg := (List.mem_filter.mp hw).2
    have h := h3 w hw
    cases w <;> first | exact va_Nw.warmF hW h | exact va_Nw.warmM hW h | (exact absurd hg (by simp [gnest]))
  · obtain ⟨sa, h⟩ := h4 q hq
    exact ⟨sa, vk_R.warm hW h⟩
  · have hg := (List.mem_filter.mp hw).2
    have h := h7 w hw
    cases w <;> first | exact va_Nw.warmK hW h | exact va_Nw.warmD2 hW h | (exact absurd hg (by simp [gothr]))
def gA (base : Nat) : Nat → Prop := fun q => base ≤ q
def GS (base : Nat) (U : State) (H : Heap) : Prop := vx_Zq Bundle.tN "UNASSIGNED_STACK" Bundle.steD (gA base) U H ∧ vx_Zq Bundle.tN "SUPPRESSED_SENTINEL" Bundle.listD (gA base) U H
theorem GS.moved {base : Nat} {u U : State} {H : Heap} (hvm : u.vm.Alike U.vm) (h : GS base u H) : GS base U H := ⟨vx_Zq.moved hvm h.1, vx_Zq.moved hvm h.2⟩
theorem GS.kept {base : Nat} {U : State} {H H1 : Heap} (h : GS base U H) (hq : ∀ a : Nat, a < H.size → ¬ gA base a → H1[a]? = H[a]?) : GS base U H1 := ⟨vx_Zq.kept h.1 hq, vx_Zq.kept h.2 hq⟩
end
section
/-! locals -/
def gprs : Nat → List (Option Value) → List (Nat × Value)
  | _, [] => []
  | i, none :: t => gprs (i + 1) t
  | i, some v :: t => (i, v) :: gprs (i + 1) t
theorem gprs_mem : ∀ (L : List (Option Value)) (i j : Nat) (v : Value), (j, v) ∈ gprs i L ↔ ∃ k, j = i + k ∧ L[k]? = some (some v)
  | [], i, j, v => by simp [gprs]
  | none :: t, i, j, v => by
    simp only [gprs]
    rw [gprs_mem t (i + 1) j v]
    constructor
    · rintro ⟨k, h1, h2⟩
      exact ⟨k + 1, by omega, by simpa using h2⟩
    · rintro ⟨k, h1, h2⟩
      cases k with
      | zero => simp at h2
      | succ k => exact ⟨k, by omega, by simpa using h2⟩
  | some w :: t, i, j, v => by
    simp only [gprs, List.mem_cons, Prod.mk.injEq]
    rw [gprs_mem t (i + 1) j v]
    constructor
    · rintro (⟨h1, h2⟩ | ⟨k, h1, h2⟩)
      · exact ⟨0, by omega, by simp [h2]⟩
      · exact ⟨k + 1, by omega, by simpa using h2⟩
    · rintro ⟨k, h1, h2⟩
      cases k with
      | zero => left; simp at h2; exact ⟨by omega, h2.symm⟩
      | succ k => right; exact ⟨k, by omega, by simpa using h2⟩
def LRep (ls : Array Slot) (n : Nat) (L : List (Option Value)) : Prop := L.length = n ∧ lv_has ls n (gprs 0 L)
theorem LRep.get {ls : Array Slot} {n : Nat} {L : List (Option Value)} (h : LRep ls n L) {i : Nat} {v : Value} (hi : L[i]? = some (some v)) : ls[i]? = some (.val v) :=
  h.2.2.2 (i, v) ((gprs_mem L 0 i v).mpr ⟨i, by omega, hi⟩)
/-- no first half of a wide value -/
def gw1 : Option Value → Bool
  | none => true
  | some v => v.category == 1
theorem LRep.set1 {ls ls' : Array Slot} {n i : Nat} {L : List (Option Value)} {v : Value} (h : LRep ls n L) (hp : ∀ a, (i ≠ 0 ∧ L[i - 1]? = some a) → gw1 a = true)
    (h' : lv_has ls' n ((i, v) :: (gprs 0 L).filter (fun q => !(q.1 == i) && !(q.1 + 1 == i && q.2.category == 2)))) : LRep ls' n (L.set i (some v)) := by
  refine ⟨by rw [List.length_set]; exact h.1, h'.1, h'.2.1, fun q hq => ?_⟩
  obtain ⟨j, w⟩ := q
  obtain ⟨k, hk, hw⟩ := (gprs_mem _ 0 j w).mp hq
  have hjk : j = k := by omega
  subst hjk
  refine h'.2.2 (j, w) ?_
  by_cases hji : i = j
  · subst hji
    have hl : i < L.length := by
      have := (List.getElem?_eq_some_iff.mp hw).1
      rwa [List.length_set] at this
    rw [List.getElem?_set_self hl] at hw
    cases hw
    exact List.mem_cons_self
  · rw [List.getElem?_set_ne hji] at hw
    refine List.mem_cons_of_mem _ (List.mem_filter.mpr ⟨(gprs_mem L 0 j w).mpr ⟨j, by omega, hw⟩, ?_⟩)
    have h1 : (j == i) = false := by simpa using Ne.symm hji
    simp only [h1, Bool.not_false, Bool.true_and, Bool.not_eq_true', Bool.and_eq_false_iff]
    by_cases hj1 : j + 1 = i
    · right
      have := hp (some w) ⟨by omega, by rw [show i - 1 = j by omega]; exact hw⟩
      simp only [gw1, beq_iff_eq] at this
      simp [this]
    · left; simpa using hj1
theorem LRep.set2 {ls ls' : Array Slot} {n i : Nat} {L : List (Option Value)} {v : Value} (h : LRep ls n L) (hp : ∀ a, (i ≠ 0 ∧ L[i - 1]? = some a) → gw1 a = true)
    (h' : lv_has ls' n ((i, v) :: (gprs 0 L).filter (fun q => !(q.1 == i) && (!(q.1 == i + 1) && !(q.1 + 1 == i && q.2.category == 2))))) : LRep ls' n ((L.set i (some v)).set (i + 1) none) := by
  refine ⟨by rw [List.length_set, List.length_set]; exact h.1, h'.1, h'.2.1, fun q hq => ?_⟩
  obtain ⟨j, w⟩ := q
  obtain ⟨k, hk, hw⟩ := (gprs_mem _ 0 j w).mp hq
  have hjk : j = k := by omega
  subst hjk
  refine h'.2.2 (j, w) ?_
  by_cases hj2 : i + 1 = j
  · subst hj2
    have hl : i + 1 < (L.set i (some v)).length := by
      have := (List.getElem?_eq_some_iff.mp hw).1
      rwa [List.length_set] at this
    rw [List.getElem?_set_self hl] at hw
    cases hw
  · rw [List.getElem?_set_ne hj2] at hw
    by_cases hji : i = j
    · subst hji
      have hl : i < L.length := by
        have := (List.getElem?_eq_some_iff.mp hw).1
        rwa [List.length_set] at this
      rw [List.getElem?_set_self hl] at hw
      cases hw
      exact List.mem_cons_self
    · rw [List.getElem?_set_ne hji] at hw
      refine List.mem_cons_of_mem _ (List.mem_filter.mpr ⟨(gprs_mem L 0 j w).mpr ⟨j, by omega, hw⟩, ?_⟩)
      have h1 : (j == i) = false := by simpa using Ne.symm hji
      have h2 : (j == i + 1) = false := by simpa using Ne.symm hj2
      simp only [h1, h2, Bool.not_false, Bool.true_and, Bool.not_eq_true', Bool.and_eq_false_iff]
      by_cases hj1 : j + 1 = i
      · right
        have := hp (some w) ⟨by omega, by rw [show i - 1 = j by omega]; exact hw⟩
        simp only [gw1, beq_iff_eq] at this
        simp [this]
      · left; simpa using hj1
/-- less is known -/
def gsub : List (Option Value) → List (Option Value) → Prop
  | [], [] => True
  | a :: t, b :: u => (a = none ∨ a = b) ∧ gsub t u
  | _, _ => False
theorem gsub_len : ∀ (L' L : List (Option Value)), gsub L' L → L'.length = L.length
  | [], [], _ => rfl
  | a :: t, b :: u, h => by simp [gsub_len t u h.2]
  | [], _ :: _, h => h.elim
  | _ :: _, [], h => h.elim
theorem gsub_get : ∀ (L' L : List (Option Value)), gsub L' L → ∀ (i : Nat) (v : Value), L'[i]? = some (some v) → L[i]? = some (some v)
  | [], [], _, i, v, hi => by simp at hi
  | a :: t, b :: u, h, i, v, hi => by
    cases i with
    | zero =>
      simp at hi ⊢
      rcases h.1 with h1 | h1
      · rw [h1] at hi; cases hi
      · rw [← h1]; exact hi
    | succ i => simp at hi ⊢; exact gsub_get t u h.2 i v hi
  | [], _ :: _, h, _, _, _ => h.elim
  | _ :: _, [], h, _, _, _ => h.elim
theorem LRep.weak {ls : Array Slot} {n : Nat} {L L' : List (Option Value)} (h : LRep ls n L) (hs : gsub L' L) : LRep ls n L' := by
  refine ⟨by rw [gsub_len L' L hs]; exact h.1, h.2.1, h.2.2.1, fun q hq => ?_⟩
  obtain ⟨j, w⟩ := q
  obtain ⟨k, hk, hw⟩ := (gprs_mem _ 0 j w).mp hq
  have hjk : j = k := by omega
  subst hjk
  exact h.get (gsub_get L' L hs j w hw)
def gLs : List Value → List (Option Value)
  | [] => []
  | v :: t => if v.category = 2 then some v :: none :: gLs t else some v :: gLs t
theorem gLs_args : ∀ (vs : List Value) (i : Nat) (L : List (Option Value)), L = gLs vs → gprs i L = lv_args i vs
  | [], i, _, rfl => rfl
  | v :: t, i, _, rfl => by
    by_cases hc : v.category = 2
    · simp only [gLs, hc, if_true, gprs, lv_args]
      rw [gLs_args t (i + 1 + 1) _ rfl]
    · simp only [gLs, hc, if_false, gprs, lv_args]
      rw [gLs_args t (i + 1) _ rfl]
theorem gLs_len (vs : List Value) : (gLs vs).length = (lg_sl vs).length := by
  induction vs with
  | nil => rfl
  | cons v t ih =>
    by_cases hc : v.category = 2
    · simp only [gLs, hc, if_true, List.length_cons, ih]
      simp [lg_sl, hc]
    · simp only [gLs, hc, if_false, List.length_cons, ih]
      simp [lg_sl, hc]
theorem gprs_app : ∀ (L : List (Option Value)) (i n : Nat), gprs i (L ++ List.replicate n none) = gprs i L
  | [], i, 0 => rfl
  | [], i, n + 1 => by
    simp only [List.nil_append, List.replicate_succ, gprs]
    have := gprs_app [] (i + 1) n
    simpa [gprs] using this
  | none :: t, i, n => by simp only [List.cons_append, gprs]; exact gprs_app t (i + 1) n
  | some v :: t, i, n => by simp only [List.cons_append, gprs]; rw [gprs_app t (i + 1) n]
/-- the locals of an entry -/
def gL0 (vs : List Value) (n : Nat) : List (Option Value) := gLs vs ++ List.replicate (n - (gLs vs).length) none
theorem LRep.entry (vs : List Value) {n : Nat} (h : (gLs vs).length ≤ n) : LRep ((lg_sl vs ++ List.replicate (n - (lg_sl vs).length) Slot.unset).toArray) n (gL0 vs n) := by
  refine ⟨by simp [gL0]; omega, ?_⟩
  have h1 := lv_entry vs (n := n) (by rw [← gLs_len]; exact h)
  rw [show gprs 0 (gL0 vs n) = lv_args 0 vs from by rw [gL0, gprs_app, gLs_args vs 0 _ rfl]]
  exact h1
end
section
/-! contracts and the walk's judgement -/
def gPre (D : va_G) (dA : Nat → ClassId) (base z : Nat) (M : Hp) (U : State) : Prop := GT D dA U ∧ GS base U U.heap ∧ base ≤ U.heap.size ∧ GRep D dA base z M U.heap
def gQ (Φ : GR → Hp → Nat → Prop) (D : va_G) (dA : Nat → ClassId) (base : Nat) : Array Value → State → Outcome → State → Prop := fun _ st o t => (∃ (r : Option Value) (M : Hp) (z : Nat), o = .returned r ∧ Φ (.inl r) M z ∧ GRep D dA base z M t.heap) ∧ va_F (gA base) st t
def gX (Φ : GR → Hp → Nat → Prop) (D : va_G) (dA : Nat → ClassId) (base : Nat) : String → State → State → Prop := fun E st t => (∃ (M : Hp) (z : Nat), Φ (.inr E) M z ∧ GRep D dA base z M t.heap) ∧ va_F (gA base) st t
/-- the method m, called with these arguments where the heap is M of z cells, ends with Φ -/
def Runs (m : GM) (as : List Value) (M : Hp) (z : Nat) (Φ : GR → Hp → Nat → Prop) : Prop :=
  ∀ (l : Launch), l.stackTraces = false → ∀ (D : va_G) (dA : Nat → ClassId) (base : Nat), vx_Met l (gy m) (gws m) (grm m) (va_Pc as (gPre D dA base z M)) (gQ Φ D dA base) (gX Φ D dA base) (gce m) (gsl m) (gA base)
def gtab (h : List (Nat × Nat × Nat × Nat)) (c : Code) : Prop := match h with
  | [] => ∀ x ∈ c.exceptionTable.toList, False
  | h => c.exceptionTable.toList = tableOf h
def GC (m : GM) (D : va_G) (dA : Nat → ClassId) (base : Nat) (p : Program) (l : Launch) (s : State) (mid : MethodId) (args : Array Value) (meth : Method) (c : Code) : Prop :=
  p.tables.exec = Jvm.exec ∧ c.code = gc m ∧ c.maxLocals = gl m ∧ s.vm.findClass (gy m).cls = some mid.cls ∧ (∀ w ∈ gW, w.before args s = true) ∧ meth.locks = false ∧ l.stackTraces = false ∧ meth.name = (gy m).name ∧ meth.sig.returnType = gr m ∧
  GT D dA s ∧ GS base s s.heap ∧ base ≤ s.heap.size ∧ gtab (ghh m) c
def WP (m : GM) (pc : Nat) (L : List (Option Value)) (st : List Value) (M : Hp) (z k n : Nat) (Φ : GR → Hp → Nat → Prop) : Prop :=
  ∀ (D : va_G) (dA : Nat → ClassId) (base : Nat) (p : Program) (l : Launch) (e : Env) (s : State) (mid : MethodId) (args : Array Value) (below : List Frame) (meth : Method) (c : Code), GC m D dA base p l s mid args meth c →
    ∀ (H : Heap) (locs : List Loc) (ls : Array Slot), GRep D dA base z M H → va_S (gA base) s.heap H locs → LRep ls (gl m) L →
      W p l e (grm m) s mid args below meth c H locs k n (vx_MQ below (gQ Φ D dA base) (gX Φ D dA base) args s (gce m) (gsl m) (gA base)) (F0 mid pc ls st)
/-- E has been thrown at pc -/
def WX (m : GM) (pc : Nat) (L : List (Option Value)) (rest : List Value) (M : Hp) (z k n : Nat) (E : String) (Φ : GR → Hp → Nat → Prop) : Prop :=
  ∀ (D : va_G) (dA : Nat → ClassId) (base : Nat) (p : Program) (l : Launch) (e : Env) (s : State) (mid : MethodId) (args : Array Value) (below : List Frame) (meth : Method) (c : Code), GC m D dA base p l s mid args meth c →
    ∀ (H : Heap) (locs : List Loc) (ls : Array Slot) (q : Addr) (ce : Cell), GRep D dA base z M H → va_S (gA base) s.heap H locs → LRep ls (gl m) L → H[q]? = some ce → ce.vm = .none → s.vm.findClass E = some ce.cls →
      vx_W p l e (grm m) s mid args below meth c H locs k n (vx_MQ below (gQ Φ D dA base) (gX Φ D dA base) args s (gce m) (gsl m) (gA base)) (F0 mid pc ls rest) q
theorem gPre_blind (D : va_G) (dA : Nat → ClassId) (base z : Nat) (M : Hp) (as : List Value) : FrameBlind (va_Pc as (gPre D dA base z M)) := by
  intro a U g mk h
  obtain ⟨h0, h1, h2, h3, h4⟩ := h
  refine ⟨h0, GT.warm (s := U) (U := U.calling g mk a) ?_ h1, GS.moved (u := U) (U := U.calling g mk a) (Vm.Alike.refl U.vm) h2, h3, h4⟩
  exact State.WarmedH.refl U
theorem runs_of {m : GM} {as : List Value} {M : Hp} {z : Nat} {Φ : GR → Hp → Nat → Prop} (hpl : plainName (gy m).cls = true) (hh : ghh m = []) (hlen : (gLs as).length ≤ gl m)
    (h : WP m 0 (gL0 as (gl m)) [] M z 0 0 Φ) : Runs m as M z Φ := by
  intro l hl D dA base
  have hcw : gcw m = Cond.code (gy m) (gc m) (gl m) (gr m) := by simp only [gcw, hh]
  refine vx_ofW (ws' := gW) (cc := gc m) (maxL := gl m) (ret := gr m) hpl (by rw [gws, hcw]) ?_
  intro p e s mid args below meth c s₁ B hml ht hv
  obtain ⟨rfl, h1, h2, h3, h4⟩ := hv
  have hts := atoms_spec (ws := gws m) B.pre
  have C : GC m D dA base p l s mid as.toArray meth c := ⟨B.exec, B.bytes, hml, findClass_of_methodNamed B.named, fun w hw => hts w (List.mem_cons_of_mem _ hw), B.notSynchronized, hl, (name_of_methodNamed B.named B.method).1, B.returns, h1, h2, h3, by rw [hh]; exact ht⟩
  have h5 := h D dA base p l e s mid as.toArray below meth c C s.heap [] _ h4 va_S.rf (LRep.entry as hlen)
  rw [lg_entry_eq]
  exact h5
theorem runs_ofH {m : GM} {as : List Value} {M : Hp} {z : Nat} {Φ : GR → Hp → Nat → Prop} (hpl : plainName (gy m).cls = true) (hh : ghh m ≠ []) (hlen : (gLs as).length ≤ gl m)
    (h : WP m 0 (gL0 as (gl m)) [] M z 0 0 Φ) : Runs m as M z Φ := by
  intro l hl D dA base
  obtain ⟨x, t, hxt⟩ := List.exists_cons_of_ne_nil hh
  have hcw : gcw m = Cond.codeWith (gy m) (gc m) (gl m) (gr m) (ghh m) := by simp only [gcw, hxt]
  refine vx_ofWH (ws' := gW) (cc := gc m) (maxL := gl m) (ret := gr m) (hh := ghh m) hpl (by rw [gws, hcw]) ?_
  intro p e s mid args below meth c s₁ B hml hv
  obtain ⟨rfl, h1, h2, h3, h4⟩ := hv
  have hts := atoms_spec (ws := gws m) B.pre
  have ht := vx_table (x := gy m) B (by rw [← hcw]; exact hts (gcw m) List.mem_cons_self)
  have C : GC m D dA base p l s mid as.toArray meth c := ⟨B.exec, B.bytes, hml, findClass_of_methodNamed B.named, fun w hw => hts w (List.mem_cons_of_mem _ hw), B.notSynchronized, hl, (name_of_methodNamed B.named B.method).1, B.returns, h1, h2, h3, by rw [hxt] at ht ⊢; exact ht⟩
  have h5 := h D dA base p l e s mid as.toArray below meth c C s.heap [] _ h4 va_S.rf (LRep.entry as hlen)
  rw [lg_entry_eq]
  exact h5
/-! calls -/
def gML (m : GM) (idx : Nat) (y : MethodName) : Prop := Cond.methodLink (gy m).cls idx y ∈ gW ∨ ∃ host, Cond.methodLinkNest (gy m).cls idx y host ∈ gN
def gCal (m : GM) (n : Nat) : Prop := gcw m ∈ gW ∧ Cond.initialized (gy m).cls ∈ gW ∧ ((gy m).cls ≠ "java/lang/invoke/MethodHandle" ∧ (gy m).cls ≠ "java/lang/invoke/VarHandle") ∧ (parseMethodDescriptor (gy m).desc).map (fun d => d.parameters.length) = some n
def gIn (m : GM) : Prop := Cond.instanceMethod (gy m) ∈ gW ∧ Cond.selects (gy m).cls (gy m) (gy m) ∈ gW
def gBud (m m' : GM) : Bool := decide (gfr m' + 1 ≤ gfr m) && decide (8 + (gl m' + 11) + glo m' ≤ glo m)
theorem gBud_ok {m m' : GM} (h : gBud m m' = true) : gfr m' + 1 ≤ gfr m ∧ 8 + (gl m' + 11) + glo m' ≤ glo m := by
  simp only [gBud, Bool.and_eq_true, decide_eq_true_eq] at h; exact h
theorem gws_in {m : GM} (h : gcw m ∈ gW) : GoodIn gW (gws m) := fun w hw => gW_good w ((List.mem_cons.mp hw).elim (fun e => e ▸ h) id)
theorem gparse {y : MethodName} {n : Nat} (h : (parseMethodDescriptor y.desc).map (fun d => d.parameters.length) = some n) : ∀ sig, parseMethodDescriptor y.desc = some sig → n = sig.parameters.length := fun sig hs => by
  rw [hs] at h; exact (Option.some.inj h).symm
section GRUN
variable {m m' : GM} {D : va_G} {dA : Nat → ClassId} {base z : Nat} {M : Hp} {p : Program} {l : Launch} {e : Env} {s : State} {mid : MethodId} {args : Array Value} {below : List Frame} {meth : Method} {c : Code} {H : Heap} {locs : List Loc} {k n : Nat} {Ψ : GR → Hp → Nat → Prop} {as rest st : List Value} {pc idx : Nat} {ls : Array Slot}
/-- what a caller gives -/
theorem gPre_at (C : GC m D dA base p l s mid args meth c) (hR : GRep D dA base z M H) (hS : va_S (gA base) s.heap H locs) : ∀ U : State, U.heap = H → s.WarmedH U.vm → (va_Pc as (gPre D dA base z M)) as.toArray U := by
  intro U hU hW
  obtain ⟨-, -, -, -, -, -, -, -, -, hT, hG, hb, -⟩ := C
  refine ⟨rfl, hT.warm hW, ?_, ?_, by rw [hU]; exact hR⟩
  · rw [hU]
    exact (hG.kept hS.2.1).moved hW.alike
  · rw [hU]
    exact Nat.le_trans hb hS.1
theorem g_runS (C : GC m D dA base p l s mid args meth c) (hR : GRep D dA base z M H) (hS : va_S (gA base) s.heap H locs) (hsz : ls.size = gl m) (hM : Runs m' as M z Ψ) (cal : gCal m' as.length) (hh : ghh m' = []) (stc : Cond.static (gy m') ∈ gW) (lk : gML m idx (gy m')) (bud : gBud m m' = true)
    (hst : st = as.reverse ++ rest) (hcat : (rest.map fun v => v.category).sum ≤ 8) (hk : k + gce m' ≤ gce m) (hn : n + gsl m' ≤ gsl m) (d : dc m pc (.invokestatic idx) 3) :
    vx_Run p l e (grm m) s mid args below meth c H locs k n (gce m') (gsl m') (F0 mid pc ls st) rest (gQ Ψ D dA base as.toArray) (gX Ψ D dA base) (gA base) := by
  have C' := C
  obtain ⟨hx, hb, hml, hown, hts, hlocks, hl, hname, hr, hT, hG, hbase, htab⟩ := C'
  obtain ⟨c1, c2, c3, c4⟩ := cal
  have hcw : gcw m' = Cond.code (gy m') (gc m') (gl m') (gr m') := by simp only [gcw, hh]
  have hB := gBud_ok bud
  have hM' : vx_Met l (gy m') (gws m') (grm m') (va_Pc as (gPre D dA base z M)) (gQ Ψ D dA base) (gX Ψ D dA base) (gce m') (gsl m') (gA base) := hM l hl D dA base
  have hp : PreS s H (va_Pc as (gPre D dA base z M)) as := ⟨gPre_blind D dA base z M as, gPre_at C hR hS⟩
  have ecode : Cond.code (gy m') (gc m') (gl m') (gr m') ∈ gws m' := by rw [gws, hcw]; exact List.mem_cons_self
  rcases lk with lk | ⟨host, lk⟩
  · exact vx_runS (ws := gws m') (rm := grm m') (bytes := gc m') (maxL := gl m') (ret := gr m') (Ts := gW) (own := (gy m).cls) ⟨hx, hb, hml, hown, hts⟩ hM' ⟨callB_of (ws' := gW) as.length hts (gws_in c1) (by rw [gws, hcw]) rfl rfl (hts _ c2) (hts _ lk) ⟨c3.1, c3.2, c4⟩ hB, hts _ stc⟩ hp rfl rfl hsz hst (lv_room hcat) d ⟨hk, hn⟩
  · have hnw : va_Nw (.methodLinkNest (gy m).cls idx (gy m') host) s := hT.2.2.1 _ lk
    exact vx_runSN (ws := gws m') (rm := grm m') (bytes := gc m') (maxL := gl m') (ret := gr m') (Ts := gW) (own := (gy m).cls) (host := host) ⟨hx, hb, hml, hown, hts⟩ hM' ⟨va_cnB (ws' := gW) as.length hts (gws_in c1) (by rw [gws, hcw]) rfl rfl hnw (hts _ c2) ⟨c3.1, c3.2, c4⟩ hB, hts _ stc, trivial⟩ hp rfl rfl hsz hst (lv_room hcat) d ⟨hk, hn⟩
theorem g_runI {a : Nat} (C : GC m D dA base p l s mid args meth c) (hR : GRep D dA base z M H) (hS : va_S (gA base) s.heap H locs) (hsz : ls.size = gl m) (hM : Runs m' (.ref a :: as) M z Ψ) (cal : gCal m' as.length) (hh : ghh m' = []) (hret : gr m' = none) (hnm : (gy m').name = "<init>") (ins : Cond.instanceMethod (gy m') ∈ gW) (lk : gML m idx (gy m')) (bud : gBud m m' = true)
    (hst : st = as.reverse ++ .ref a :: rest) (hcat : (rest.map fun v => v.category).sum ≤ 8) (hk : k + gce m' ≤ gce m) (hn : n + gsl m' ≤ gsl m) (d : dc m pc (.invokespecial idx) 3) :
    vx_Run p l e (grm m) s mid args below meth c H locs k n (gce m') (gsl m') (F0 mid pc ls st) rest (gQ Ψ D dA base (Value.ref a :: as).toArray) (gX Ψ D dA base) (gA base) := by
  have C' := C
  obtain ⟨hx, hb, hml, hown, hts, hlocks, hl, hname, hr, hT, hG, hbase, htab⟩ := C'
  obtain ⟨c1, c2, c3, c4⟩ := cal
  have hcw : gcw m' = Cond.code (gy m') (gc m') (gl m') none := by simp only [gcw, hh, hret]
  have hB := gBud_ok bud
  have hM' : vx_Met l (gy m') (gws m') (grm m') (va_Pc (.ref a :: as) (gPre D dA base z M)) (gQ Ψ D dA base) (gX Ψ D dA base) (gce m') (gsl m') (gA base) := hM l hl D dA base
  have hp : PreS s H (va_Pc (.ref a :: as) (gPre D dA base z M)) (.ref a :: as) := ⟨gPre_blind D dA base z M _, gPre_at C hR hS⟩
  rcases lk with lk | ⟨host, lk⟩
  · exact vx_runI (ws := gws m') (rm := grm m') (bytes := gc m') (maxL := gl m') (Ts := gW) (own := (gy m).cls) ⟨hx, hb, hml, hown, hts⟩ hM' ⟨callB_of (ws' := gW) as.length hts (gws_in c1) (by rw [gws, hcw]) rfl rfl (hts _ c2) (hts _ lk) ⟨c3.1, c3.2, c4⟩ hB, hnm, hts _ ins⟩ hp rfl rfl hsz hst (lv_room hcat) d ⟨hk, hn⟩
  · have hnw : va_Nw (.methodLinkNest (gy m).cls idx (gy m') host) s := hT.2.2.1 _ lk
    exact vx_runIN (ws := gws m') (rm := grm m') (bytes := gc m') (maxL := gl m') (Ts := gW) (own := (gy m).cls) (host := host) ⟨hx, hb, hml, hown, hts⟩ hM' ⟨va_cnB (ws' := gW) as.length hts (gws_in c1) (by rw [gws, hcw]) rfl rfl hnw (hts _ c2) ⟨c3.1, c3.2, c4⟩ hB, hnm, hts _ ins⟩ hp rfl rfl hsz hst (lv_room hcat) d ⟨hk, hn⟩
theorem g_runV {a ci : Nat} {fs : List Value} {r : vw_C} (C : GC m D dA base p l s mid args meth c) (hR : GRep D dA base z M H) (hS : va_S (gA base) s.heap H locs) (hsz : ls.size = gl m) (hM : Runs m' (.ref a :: as) M z Ψ) (cal : gCal m' as.length) (hh : ghh m' = []) (ins : gIn m') (lk : Cond.methodLink (gy m).cls idx (gy m') ∈ gW) (bud : gBud m m' = true)
    (ho : M a = some (.inr (ci, fs))) (hc : vwCl[ci]? = some r) (hrc : r.1 = (gy m').cls)
    (hst : st = as.reverse ++ .ref a :: rest) (hcat : (rest.map fun v => v.category).sum ≤ 8) (hk : k + gce m' ≤ gce m) (hn : n + gsl m' ≤ gsl m) (d : dc m pc (.invokevirtual idx) 3) :
    vx_Run p l e (grm m) s mid args below meth c H locs k n (gce m') (gsl m') (F0 mid pc ls st) rest (gQ Ψ D dA base (Value.ref a :: as).toArray) (gX Ψ D dA base) (gA base) := by
  have C' := C
  obtain ⟨hx, hb, hml, hown, hts, hlocks, hl, hname, hr, hT, hG, hbase, htab⟩ := C'
  obtain ⟨c1, c2, c3, c4⟩ := cal
  have hcw : gcw m' = Cond.code (gy m') (gc m') (gl m') (gr m') := by simp only [gcw, hh]
  have hB := gBud_ok bud
  have hM' : vx_Met l (gy m') (gws m') (grm m') (va_Pc (.ref a :: as) (gPre D dA base z M)) (gQ Ψ D dA base) (gX Ψ D dA base) (gce m') (gsl m') (gA base) := hM l hl D dA base
  have hrecv : ∃ cellB : Cell, H[a]? = some cellB ∧ cellB.vm.isStatics = false ∧ s.vm.findClass (gy m').cls = some cellB.cls := by
    obtain ⟨r', h1, cell, g1, g2, g3, -⟩ := (hR.2 a _ ho).1
    have hr' : r' = r := Option.some.inj (h1.symm.trans hc)
    subst hr'
    refine ⟨cell, g1, by rw [g3]; rfl, ?_⟩
    rw [← hrc, g2]
    exact (hT.1.1 ci r' hc).2.1
  have hp : PreV s H (gy m').cls a (va_Pc (.ref a :: as) (gPre D dA base z M)) as := ⟨gPre_blind D dA base z M _, hrecv, gPre_at C hR hS⟩
  exact vx_runV (ws := gws m') (rm := grm m') (bytes := gc m') (maxL := gl m') (ret := gr m') (Ts := gW) (own := (gy m).cls) (C := (gy m').cls) ⟨hx, hb, hml, hown, hts⟩ hM' ⟨callB_of (ws' := gW) as.length hts (gws_in c1) (by rw [gws, hcw]) rfl rfl (hts _ c2) (hts _ lk) ⟨c3.1, c3.2, c4⟩ hB, hts _ ins.1, hts _ ins.2⟩ hp rfl rfl hsz hst (lv_room hcat) d ⟨hk, hn⟩
/-- the walk goes on behind a call -/
theorem g_call {Φ : GR → Hp → Nat → Prop} {L : List (Option Value)} (C : GC m D dA base p l s mid args meth c) (hS : va_S (gA base) s.heap H locs) (hL : LRep ls (gl m) L) {a : Array Value}
    (hr : vx_Run p l e (grm m) s mid args below meth c H locs k n (gce m') (gsl m') (F0 mid pc ls st) rest (gQ Ψ D dA base a) (gX Ψ D dA base) (gA base))
    (kk : ∀ r M' z', Ψ (.inl r) M' z' → WP m (pc + 3) L (r.toList ++ rest) M' z' (k + gce m') (n + gsl m') Φ)
    (kx : ∀ E M' z', Ψ (.inr E) M' z' → WX m pc L rest M' z' (k + gce m') (n + gsl m') E Φ) :
    W p l e (grm m) s mid args below meth c H locs k n (vx_MQ below (gQ Φ D dA base) (gX Φ D dA base) args s (gce m) (gsl m) (gA base)) (F0 mid pc ls st) := by
  intro T hT X
  rcases hr T hT X with ⟨v, st₀, t, T', Ls, h0, X', hLs, e1, e2, ⟨⟨r, M', z', hv, hp, hb⟩, hF⟩, hst⟩ | ⟨q, st₀, t, T', Ls, E, ce, h0, X', hLs, e1, e2, ⟨⟨M', z', hp, hb⟩, hF⟩, hce, hcv, hcl, hst⟩
  · cases hv
    obtain ⟨k1, k2, k3⟩ := vx_keep h0 e1 hS (fun _ _ h => h) (fun _ h => h) hLs hF
    obtain ⟨t2, a1, b1⟩ := kk v M' z' hp D dA base p l e s mid args below meth c C T'.heap (locs ++ Ls) ls (by rw [e1]; exact hb) k3 hL T' rfl X'
    exact ⟨t2, hst t2 a1, b1⟩
  · obtain ⟨k1, k2, k3⟩ := vx_keep h0 e1 hS (fun _ _ h => h) (fun _ h => h) hLs hF
    obtain ⟨t2, a1, b1⟩ := kx E M' z' hp D dA base p l e s mid args below meth c C T'.heap (locs ++ Ls) ls q ce (by rw [e1]; exact hb) k3 hL (by rw [e1]; exact hce) hcv hcl T' rfl X'
    exact ⟨t2, hst.trans a1, b1⟩
end GRUN
end
section
section ROWS
variable {m : GM} {pc z k n tgt : Nat} {L T : List (Option Value)} {rest : List Value} {M : Hp} {Φ : GR → Hp → Nat → Prop} {x y v : Int32} {xl yl vl : Int64} {a b : Nat} {off : Int} {va vb : Value}
theorem g_iconst {i : Int} (d : dc m pc (.iconst i) 1) (hv : Int32.ofInt i = v) (h : WP m (pc + 1) L (.int v :: rest) M z k n Φ) : WP m pc L rest M z k n Φ := by
  intro D dA base p l e s mid args below meth c C H locs ls hR hS hL
  exact lv_iconst C.1 C.2.1 d hv (h D dA base p l e s mid args below meth c C H locs ls hR hS hL)
theorem g_bipush {i : Int} (d : dc m pc (.bipush i) 2) (hv : (Int8.ofInt i).toInt32 = v) (h : WP m (pc + 2) L (.int v :: rest) M z k n Φ) : WP m pc L rest M z k n Φ := by
  intro D dA base p l e s mid args below meth c C H locs ls hR hS hL
  exact lv_bipush C.1 C.2.1 d hv (h D dA base p l e s mid args below meth c C H locs ls hR hS hL)
theorem g_sipush {i : Int} (d : dc m pc (.sipush i) 3) (hv : (Int16.ofInt i).toInt32 = v) (h : WP m (pc + 3) L (.int v :: rest) M z k n Φ) : WP m pc L rest M z k n Φ := by
  intro D dA base p l e s mid args below meth c C H locs ls hR hS hL
  exact lv_sipush C.1 C.2.1 d hv (h D dA base p l e s mid args below meth c C H locs ls hR hS hL)
theorem g_lconst {i : Fin 2} (d : dc m pc (.lconst i) 1) (hv : Int64.ofNat (i : Nat) = vl) (h : WP m (pc + 1) L (.long vl :: rest) M z k n Φ) : WP m pc L rest M z k n Φ := by
  intro D dA base p l e s mid args below meth c C H locs ls hR hS hL
  exact lv_lconst C.1 C.2.1 d hv (h D dA base p l e s mid args below meth c C H locs ls hR hS hL)
theorem g_ldc {i : Nat} (d : dc m pc (.ldc i) 2) (hw : Cond.constant (gy m).cls i v ∈ gW) (h : WP m (pc + 2) L (.int v :: rest) M z k n Φ) : WP m pc L rest M z k n Φ := by
  intro D dA base p l e s mid args below meth c C H locs ls hR hS hL
  exact lv_ldc C.1 C.2.1 C.2.2.2.1 (C.2.2.2.2.1 _ hw) d (h D dA base p l e s mid args below meth c C H locs ls hR hS hL)
theorem g_ldcf {i : Nat} {w : UInt32} (d : dc m pc (.ldc i) 2) (hw : Cond.constantFloat (gy m).cls i w ∈ gW) (h : WP m (pc + 2) L (.float w :: rest) M z k n Φ) : WP m pc L rest M z k n Φ := by
  intro D dA base p l e s mid args below meth c C H locs ls hR hS hL
  exact lv_ldcf C.1 C.2.1 C.2.2.2.1 (C.2.2.2.2.1 _ hw) d (h D dA base p l e s mid args below meth c C H locs ls hR hS hL)
theorem g_ldc2 {i : Nat} (d : dc m pc (.ldc2_w i) 3) (hw : Cond.constantLong (gy m).cls i vl ∈ gW) (h : WP m (pc + 3) L (.long vl :: rest) M z k n Φ) : WP m pc L rest M z k n Φ := by
  intro D dA base p l e s mid args below meth c C H locs ls hR hS hL
  exact lv_ldc2 C.1 C.2.1 C.2.2.2.1 (C.2.2.2.2.1 _ hw) d (h D dA base p l e s mid args below meth c C H locs ls hR hS hL)
theorem g_null (d : dc m pc .aconst_null 1) (h : WP m (pc + 1) L (.null :: rest) M z k n Φ) : WP m pc L rest M z k n Φ := by
  intro D dA base p l e s mid args below meth c C H locs ls hR hS hL
  exact lv_null C.1 C.2.1 d (h D dA base p l e s mid args below meth c C H locs ls hR hS hL)
theorem g_dconst0 (d : dc m pc (.dconst 0) 1) (h : WP m (pc + 1) L (.double 0 :: rest) M z k n Φ) : WP m pc L rest M z k n Φ := by
  intro D dA base p l e s mid args below meth c C H locs ls hR hS hL
  exact lv_dconst0 C.1 C.2.1 d (h D dA base p l e s mid args below meth c C H locs ls hR hS hL)
theorem g_iadd (d : dc m pc .iadd 1) (h : WP m (pc + 1) L (.int (x + y) :: rest) M z k n Φ) : WP m pc L (.int y :: .int x :: rest) M z k n Φ := by
  intro D dA base p l e s mid args below meth c C H locs ls hR hS hL
  exact lv_iadd C.1 C.2.1 d (h D dA base p l e s mid args below meth c C H locs ls hR hS hL)
theorem g_isub (d : dc m pc .isub 1) (h : WP m (pc + 1) L (.int (x - y) :: rest) M z k n Φ) : WP m pc L (.int y :: .int x :: rest) M z k n Φ := by
  intro D dA base p l e s mid args below meth c C H locs ls hR hS hL
  exact lv_isub C.1 C.2.1 d (h D dA base p l e s mid args below meth c C H locs ls hR hS hL)
theorem g_imul (d : dc m pc .imul 1) (h : WP m (pc + 1) L (.int (x * y) :: rest) M z k n Φ) : WP m pc L (.int y :: .int x :: rest) M z k n Φ := by
  intro D dA base p l e s mid args below meth c C H locs ls hR hS hL
  exact lv_imul C.1 C.2.1 d (h D dA base p l e s mid args below meth c C H locs ls hR hS hL)
theorem g_iand (d : dc m pc .iand 1) (h : WP m (pc + 1) L (.int (x &&& y) :: rest) M z k n Φ) : WP m pc L (.int y :: .int x :: rest) M z k n Φ := by
  intro D dA base p l e s mid args below meth c C H locs ls hR hS hL
  exact lv_iand C.1 C.2.1 d (h D dA base p l e s mid args below meth c C H locs ls hR hS hL)
theorem g_ior (d : dc m pc .ior 1) (h : WP m (pc + 1) L (.int (x ||| y) :: rest) M z k n Φ) : WP m pc L (.int y :: .int x :: rest) M z k n Φ := by
  intro D dA base p l e s mid args below meth c C H locs ls hR hS hL
  exact lv_ior C.1 C.2.1 d (h D dA base p l e s mid args below meth c C H locs ls hR hS hL)
theorem g_ixor (d : dc m pc .ixor 1) (h : WP m (pc + 1) L (.int (x ^^^ y) :: rest) M z k n Φ) : WP m pc L (.int y :: .int x :: rest) M z k n Φ := by
  intro D dA base p l e s mid args below meth c C H locs ls hR hS hL
  exact lv_ixor C.1 C.2.1 d (h D dA base p l e s mid args below meth c C H locs ls hR hS hL)
theorem g_idiv (d : dc m pc .idiv 1) (hne : ¬ y = 0) (h : WP m (pc + 1) L (.int (x / y) :: rest) M z k n Φ) : WP m pc L (.int y :: .int x :: rest) M z k n Φ := by
  intro D dA base p l e s mid args below meth c C H locs ls hR hS hL
  exact lv_idiv C.1 C.2.1 d hne (h D dA base p l e s mid args below meth c C H locs ls hR hS hL)
theorem g_irem (d : dc m pc .irem 1) (hne : ¬ y = 0) (h : WP m (pc + 1) L (.int (x - x / y * y) :: rest) M z k n Φ) : WP m pc L (.int y :: .int x :: rest) M z k n Φ := by
  intro D dA base p l e s mid args below meth c C H locs ls hR hS hL
  exact lv_irem C.1 C.2.1 d hne (h D dA base p l e s mid args below meth c C H locs ls hR hS hL)
theorem g_ineg (d : dc m pc .ineg 1) (h : WP m (pc + 1) L (.int (0 - x) :: rest) M z k n Φ) : WP m pc L (.int x :: rest) M z k n Φ := by
  intro D dA base p l e s mid args below meth c C H locs ls hR hS hL
  exact lv_ineg C.1 C.2.1 d (by first | exact (h D dA base p l e s mid args below meth c C H locs ls hR hS hL) | (rw [← Int32.zero_sub]; exact (h D dA base p l e s mid args below meth c C H locs ls hR hS hL)))
theorem g_ladd (d : dc m pc .ladd 1) (h : WP m (pc + 1) L (.long (xl + yl) :: rest) M z k n Φ) : WP m pc L (.long yl :: .long xl :: rest) M z k n Φ := by
  intro D dA base p l e s mid args below meth c C H locs ls hR hS hL
  exact lv_ladd C.1 C.2.1 d (h D dA base p l e s mid args below meth c C H locs ls hR hS hL)
theorem g_lmul (d : dc m pc .lmul 1) (h : WP m (pc + 1) L (.long (xl * yl) :: rest) M z k n Φ) : WP m pc L (.long yl :: .long xl :: rest) M z k n Φ := by
  intro D dA base p l e s mid args below meth c C H locs ls hR hS hL
  exact lv_lmul C.1 C.2.1 d (h D dA base p l e s mid args below meth c C H locs ls hR hS hL)
theorem g_land (d : dc m pc .land 1) (h : WP m (pc + 1) L (.long (xl &&& yl) :: rest) M z k n Φ) : WP m pc L (.long yl :: .long xl :: rest) M z k n Φ := by
  intro D dA base p l e s mid args below meth c C H locs ls hR hS hL
  exact lv_land C.1 C.2.1 d (h D dA base p l e s mid args below meth c C H locs ls hR hS hL)
theorem g_lor (d : dc m pc .lor 1) (h : WP m (pc + 1) L (.long (xl ||| yl) :: rest) M z k n Φ) : WP m pc L (.long yl :: .long xl :: rest) M z k n Φ := by
  intro D dA base p l e s mid args below meth c C H locs ls hR hS hL
  exact lv_lor C.1 C.2.1 d (h D dA base p l e s mid args below meth c C H locs ls hR hS hL)
theorem g_lcmp (d : dc m pc .lcmp 1) (h : WP m (pc + 1) L (.int (lg_cmp xl yl) :: rest) M z k n Φ) : WP m pc L (.long yl :: .long xl :: rest) M z k n Φ := by
  intro D dA base p l e s mid args below meth c C H locs ls hR hS hL
  exact W.lcmp C.1 C.2.1 d (h D dA base p l e s mid args below meth c C H locs ls hR hS hL)
theorem g_i2l (d : dc m pc .i2l 1) (h : WP m (pc + 1) L (.long x.toInt64 :: rest) M z k n Φ) : WP m pc L (.int x :: rest) M z k n Φ := by
  intro D dA base p l e s mid args below meth c C H locs ls hR hS hL
  exact lv_i2l C.1 C.2.1 d rfl (h D dA base p l e s mid args below meth c C H locs ls hR hS hL)
theorem g_l2i (d : dc m pc .l2i 1) (h : WP m (pc + 1) L (.int xl.toInt32 :: rest) M z k n Φ) : WP m pc L (.long xl :: rest) M z k n Φ := by
  intro D dA base p l e s mid args below meth c C H locs ls hR hS hL
  exact lv_l2i C.1 C.2.1 d rfl (h D dA base p l e s mid args below meth c C H locs ls hR hS hL)
theorem g_i2c (d : dc m pc .i2c 1) (hv : (x.toUInt32 % 65536).toInt32 = v) (h : WP m (pc + 1) L (.int v :: rest) M z k n Φ) : WP m pc L (.int x :: rest) M z k n Φ := by
  intro D dA base p l e s mid args below meth c C H locs ls hR hS hL
  exact lv_i2c C.1 C.2.1 d hv (h D dA base p l e s mid args below meth c C H locs ls hR hS hL)
theorem g_lushr (d : dc m pc .lushr 1) (h : WP m (pc + 1) L (.long (xl.toUInt64 >>> (y.toInt64.toUInt64 &&& Int64.toUInt64 63)).toInt64 :: rest) M z k n Φ) : WP m pc L (.int y :: .long xl :: rest) M z k n Φ := by
  intro D dA base p l e s mid args below meth c C H locs ls hR hS hL
  exact lv_lushr C.1 C.2.1 d rfl (h D dA base p l e s mid args below meth c C H locs ls hR hS hL)
theorem g_lshl (d : dc m pc .lshl 1) (h : WP m (pc + 1) L (.long (xl <<< (y.toInt64 &&& 63)) :: rest) M z k n Φ) : WP m pc L (.int y :: .long xl :: rest) M z k n Φ := by
  intro D dA base p l e s mid args below meth c C H locs ls hR hS hL
  exact lv_lshl C.1 C.2.1 d rfl (h D dA base p l e s mid args below meth c C H locs ls hR hS hL)
theorem g_i2f (d : dc m pc .i2f 1) {w : UInt32} (hw : w = FP.i2f x) (h : WP m (pc + 1) L (.float w :: rest) M z k n Φ) : WP m pc L (.int x :: rest) M z k n Φ := by
  intro D dA base p l e s mid args below meth c C H locs ls hR hS hL
  subst hw; exact lv_i2f C.1 C.2.1 d (h D dA base p l e s mid args below meth c C H locs ls hR hS hL)
theorem g_i2d (d : dc m pc .i2d 1) {w : UInt64} (hw : w = FP.i2d x) (h : WP m (pc + 1) L (.double w :: rest) M z k n Φ) : WP m pc L (.int x :: rest) M z k n Φ := by
  intro D dA base p l e s mid args below meth c C H locs ls hR hS hL
  subst hw; exact lv_i2d C.1 C.2.1 d (h D dA base p l e s mid args below meth c C H locs ls hR hS hL)
theorem g_fdiv {u w : UInt32} (d : dc m pc .fdiv 1) (hne : vf_n32 (FP.fdiv u w)) (h : WP m (pc + 1) L (.float (FP.fdiv u w) :: rest) M z k n Φ) : WP m pc L (.float w :: .float u :: rest) M z k n Φ := by
  intro D dA base p l e s mid args below meth c C H locs ls hR hS hL
  exact lv_fdiv C.1 C.2.1 d hne (h D dA base p l e s mid args below meth c C H locs ls hR hS hL)
theorem g_ddiv {u w : UInt64} (d : dc m pc .ddiv 1) (hne : vf_n64 (FP.ddiv u w)) (h : WP m (pc + 1) L (.double (FP.ddiv u w) :: rest) M z k n Φ) : WP m pc L (.double w :: .double u :: rest) M z k n Φ := by
  intro D dA base p l e s mid args below meth c C H locs ls hR hS hL
  exact lv_ddiv C.1 C.2.1 d hne (h D dA base p l e s mid args below meth c C H locs ls hR hS hL)
theorem g_f2d {u : UInt32} (d : dc m pc .f2d 1) (hne : vf_n64 (FP.f2d u)) (h : WP m (pc + 1) L (.double (FP.f2d u) :: rest) M z k n Φ) : WP m pc L (.float u :: rest) M z k n Φ := by
  intro D dA base p l e s mid args below meth c C H locs ls hR hS hL
  exact lv_f2d C.1 C.2.1 d hne (h D dA base p l e s mid args below meth c C H locs ls hR hS hL)
theorem g_dcmp {u w : UInt64} {o : CmpOp} (d : dc m pc (.dcmp o) 1) (h : WP m (pc + 1) L (.int (Op.cmpValue (FP.dcmp u w) o) :: rest) M z k n Φ) : WP m pc L (.double w :: .double u :: rest) M z k n Φ := by
  intro D dA base p l e s mid args below meth c C H locs ls hR hS hL
  exact lv_dcmp C.1 C.2.1 d (h D dA base p l e s mid args below meth c C H locs ls hR hS hL)
theorem g_dup (d : dc m pc .dup 1) (hv : va.category = 1) (h : WP m (pc + 1) L (va :: va :: rest) M z k n Φ) : WP m pc L (va :: rest) M z k n Φ := by
  intro D dA base p l e s mid args below meth c C H locs ls hR hS hL
  exact lv_dup C.1 C.2.1 d hv (h D dA base p l e s mid args below meth c C H locs ls hR hS hL)
theorem g_pop (d : dc m pc .pop 1) (hv : va.category = 1) (h : WP m (pc + 1) L rest M z k n Φ) : WP m pc L (va :: rest) M z k n Φ := by
  intro D dA base p l e s mid args below meth c C H locs ls hR hS hL
  exact lv_pop C.1 C.2.1 d hv (h D dA base p l e s mid args below meth c C H locs ls hR hS hL)
theorem g_dup2 (d : dc m pc .dup2 1) (hv : va.category = 1) (hv2 : vb.category = 1) (h : WP m (pc + 1) L (va :: vb :: va :: vb :: rest) M z k n Φ) : WP m pc L (va :: vb :: rest) M z k n Φ := by
  intro D dA base p l e s mid args below meth c C H locs ls hR hS hL
  exact lv_dup2_11 C.1 C.2.1 d hv hv2 (h D dA base p l e s mid args below meth c C H locs ls hR hS hL)
theorem g_if_eq (d : dc m pc (.ifCond .eq off) 3) (ht : (pc : Int) + off = (tgt : Int)) (h1 : x = 0 → WP m tgt L rest M z k n Φ) (h2 : ¬ x = 0 → WP m (pc + 3) L rest M z k n Φ) : WP m pc L (.int x :: rest) M z k n Φ := by
  intro D dA base p l e s mid args below meth c C H locs ls hR hS hL
  exact lv_if_eq C.1 C.2.1 d ht (fun q => (h1 q D dA base p l e s mid args below meth c C H locs ls hR hS hL)) (fun q => (h2 q D dA base p l e s mid args below meth c C H locs ls hR hS hL))
theorem g_if_ne (d : dc m pc (.ifCond .ne off) 3) (ht : (pc : Int) + off = (tgt : Int)) (h1 : ¬ x = 0 → WP m tgt L rest M z k n Φ) (h2 : x = 0 → WP m (pc + 3) L rest M z k n Φ) : WP m pc L (.int x :: rest) M z k n Φ := by
  intro D dA base p l e s mid args below meth c C H locs ls hR hS hL
  exact lv_if_ne C.1 C.2.1 d ht (fun q => (h1 q D dA base p l e s mid args below meth c C H locs ls hR hS hL)) (fun q => (h2 q D dA base p l e s mid args below meth c C H locs ls hR hS hL))
theorem g_if_lt (d : dc m pc (.ifCond .lt off) 3) (ht : (pc : Int) + off = (tgt : Int)) (h1 : x < 0 → WP m tgt L rest M z k n Φ) (h2 : ¬ x < 0 → WP m (pc + 3) L rest M z k n Φ) : WP m pc L (.int x :: rest) M z k n Φ := by
  intro D dA base p l e s mid args below meth c C H locs ls hR hS hL
  exact lv_if_lt C.1 C.2.1 d ht (fun q => (h1 q D dA base p l e s mid args below meth c C H locs ls hR hS hL)) (fun q => (h2 q D dA base p l e s mid args below meth c C H locs ls hR hS hL))
theorem g_if_ge (d : dc m pc (.ifCond .ge off) 3) (ht : (pc : Int) + off = (tgt : Int)) (h1 : 0 ≤ x → WP m tgt L rest M z k n Φ) (h2 : ¬ 0 ≤ x → WP m (pc + 3) L rest M z k n Φ) : WP m pc L (.int x :: rest) M z k n Φ := by
  intro D dA base p l e s mid args below meth c C H locs ls hR hS hL
  exact lv_if_ge C.1 C.2.1 d ht (fun q => (h1 q D dA base p l e s mid args below meth c C H locs ls hR hS hL)) (fun q => (h2 q D dA base p l e s mid args below meth c C H locs ls hR hS hL))
theorem g_if_gt (d : dc m pc (.ifCond .gt off) 3) (ht : (pc : Int) + off = (tgt : Int)) (h1 : 0 < x → WP m tgt L rest M z k n Φ) (h2 : ¬ 0 < x → WP m (pc + 3) L rest M z k n Φ) : WP m pc L (.int x :: rest) M z k n Φ := by
  intro D dA base p l e s mid args below meth c C H locs ls hR hS hL
  exact lv_if_gt C.1 C.2.1 d ht (fun q => (h1 q D dA base p l e s mid args below meth c C H locs ls hR hS hL)) (fun q => (h2 q D dA base p l e s mid args below meth c C H locs ls hR hS hL))
theorem g_if_le (d : dc m pc (.ifCond .le off) 3) (ht : (pc : Int) + off = (tgt : Int)) (h1 : x ≤ 0 → WP m tgt L rest M z k n Φ) (h2 : ¬ x ≤ 0 → WP m (pc + 3) L rest M z k n Φ) : WP m pc L (.int x :: rest) M z k n Φ := by
  intro D dA base p l e s mid args below meth c C H locs ls hR hS hL
  exact lv_if_le C.1 C.2.1 d ht (fun q => (h1 q D dA base p l e s mid args below meth c C H locs ls hR hS hL)) (fun q => (h2 q D dA base p l e s mid args below meth c C H locs ls hR hS hL))
theorem g_icmp_eq (d : dc m pc (.if_icmp .eq off) 3) (ht : (pc : Int) + off = (tgt : Int)) (h1 : x = y → WP m tgt L rest M z k n Φ) (h2 : ¬ x = y → WP m (pc + 3) L rest M z k n Φ) : WP m pc L (.int y :: .int x :: rest) M z k n Φ := by
  intro D dA base p l e s mid args below meth c C H locs ls hR hS hL
  exact lv_icmp_eq C.1 C.2.1 d ht (fun q => (h1 q D dA base p l e s mid args below meth c C H locs ls hR hS hL)) (fun q => (h2 q D dA base p l e s mid args below meth c C H locs ls hR hS hL))
theorem g_icmp_ne (d : dc m pc (.if_icmp .ne off) 3) (ht : (pc : Int) + off = (tgt : Int)) (h1 : ¬ x = y → WP m tgt L rest M z k n Φ) (h2 : x = y → WP m (pc + 3) L rest M z k n Φ) : WP m pc L (.int y :: .int x :: rest) M z k n Φ := by
  intro D dA base p l e s mid args below meth c C H locs ls hR hS hL
  exact lv_icmp_ne C.1 C.2.1 d ht (fun q => (h1 q D dA base p l e s mid args below meth c C H locs ls hR hS hL)) (fun q => (h2 q D dA base p l e s mid args below meth c C H locs ls hR hS hL))
theorem g_icmp_lt (d : dc m pc (.if_icmp .lt off) 3) (ht : (pc : Int) + off = (tgt : Int)) (h1 : x < y → WP m tgt L rest M z k n Φ) (h2 : ¬ x < y → WP m (pc + 3) L rest M z k n Φ) : WP m pc L (.int y :: .int x :: rest) M z k n Φ := by
  intro D dA base p l e s mid args below meth c C H locs ls hR hS hL
  exact lv_icmp_lt C.1 C.2.1 d ht (fun q => (h1 q D dA base p l e s mid args below meth c C H locs ls hR hS hL)) (fun q => (h2 q D dA base p l e s mid args below meth c C H locs ls hR hS hL))
theorem g_icmp_ge (d : dc m pc (.if_icmp .ge off) 3) (ht : (pc : Int) + off = (tgt : Int)) (h1 : y ≤ x → WP m tgt L rest M z k n Φ) (h2 : ¬ y ≤ x → WP m (pc + 3) L rest M z k n Φ) : WP m pc L (.int y :: .int x :: rest) M z k n Φ := by
  intro D dA base p l e s mid args below meth c C H locs ls hR hS hL
  exact lv_icmp_ge C.1 C.2.1 d ht (fun q => (h1 q D dA base p l e s mid args below meth c C H locs ls hR hS hL)) (fun q => (h2 q D dA base p l e s mid args below meth c C H locs ls hR hS hL))
theorem g_icmp_gt (d : dc m pc (.if_icmp .gt off) 3) (ht : (pc : Int) + off = (tgt : Int)) (h1 : y < x → WP m tgt L rest M z k n Φ) (h2 : ¬ y < x → WP m (pc + 3) L rest M z k n Φ) : WP m pc L (.int y :: .int x :: rest) M z k n Φ := by
  intro D dA base p l e s mid args below meth c C H locs ls hR hS hL
  exact lv_icmp_gt C.1 C.2.1 d ht (fun q => (h1 q D dA base p l e s mid args below meth c C H locs ls hR hS hL)) (fun q => (h2 q D dA base p l e s mid args below meth c C H locs ls hR hS hL))
theorem g_icmp_le (d : dc m pc (.if_icmp .le off) 3) (ht : (pc : Int) + off = (tgt : Int)) (h1 : x ≤ y → WP m tgt L rest M z k n Φ) (h2 : ¬ x ≤ y → WP m (pc + 3) L rest M z k n Φ) : WP m pc L (.int y :: .int x :: rest) M z k n Φ := by
  intro D dA base p l e s mid args below meth c C H locs ls hR hS hL
  exact lv_icmp_le C.1 C.2.1 d ht (fun q => (h1 q D dA base p l e s mid args below meth c C H locs ls hR hS hL)) (fun q => (h2 q D dA base p l e s mid args below meth c C H locs ls hR hS hL))
theorem g_goto (d : dc m pc (.goto off) 3) (ht : (pc : Int) + off = (tgt : Int)) (h : WP m tgt L rest M z k n Φ) : WP m pc L rest M z k n Φ := by
  intro D dA base p l e s mid args below meth c C H locs ls hR hS hL
  exact lv_goto C.1 C.2.1 d ht (h D dA base p l e s mid args below meth c C H locs ls hR hS hL)
theorem g_ifnull (d : dc m pc (.ifnull off) 3) (h : WP m (pc + 3) L rest M z k n Φ) : WP m pc L (.ref a :: rest) M z k n Φ := by
  intro D dA base p l e s mid args below meth c C H locs ls hR hS hL
  exact lv_ifnull C.1 C.2.1 d (h D dA base p l e s mid args below meth c C H locs ls hR hS hL)
theorem g_ifnullN (d : dc m pc (.ifnull off) 3) (ht : (pc : Int) + off = (tgt : Int)) (h : WP m tgt L rest M z k n Φ) : WP m pc L (.null :: rest) M z k n Φ := by
  intro D dA base p l e s mid args below meth c C H locs ls hR hS hL
  exact lv_ifnullN C.1 C.2.1 d ht (h D dA base p l e s mid args below meth c C H locs ls hR hS hL)
theorem g_ifnonnull (d : dc m pc (.ifnonnull off) 3) (ht : (pc : Int) + off = (tgt : Int)) (h : WP m tgt L rest M z k n Φ) : WP m pc L (.ref a :: rest) M z k n Φ := by
  intro D dA base p l e s mid args below meth c C H locs ls hR hS hL
  exact lv_ifnonnull C.1 C.2.1 d ht (h D dA base p l e s mid args below meth c C H locs ls hR hS hL)
theorem g_ifnonnullN (d : dc m pc (.ifnonnull off) 3) (h : WP m (pc + 3) L rest M z k n Φ) : WP m pc L (.null :: rest) M z k n Φ := by
  intro D dA base p l e s mid args below meth c C H locs ls hR hS hL
  exact lv_ifnonnullN C.1 C.2.1 d (h D dA base p l e s mid args below meth c C H locs ls hR hS hL)
theorem g_tabIn {dflt lo hi : Int} {offs : Array Int} {len : Nat} (d : dc m pc (.tableswitch dflt lo hi offs) len) (h1 : ¬ x.toInt < lo) (h2 : ¬ hi < x.toInt) (ho : offs[(x.toInt - lo).toNat]? = some off) (ht : (pc : Int) + off = (tgt : Int)) (h : WP m tgt L rest M z k n Φ) : WP m pc L (.int x :: rest) M z k n Φ := by
  intro D dA base p l e s mid args below meth c C H locs ls hR hS hL
  exact lv_tableIn C.1 C.2.1 d h1 h2 ho ht (h D dA base p l e s mid args below meth c C H locs ls hR hS hL)
theorem g_tabOut {dflt lo hi : Int} {offs : Array Int} {len : Nat} (d : dc m pc (.tableswitch dflt lo hi offs) len) (h1 : x.toInt < lo ∨ hi < x.toInt) (ht : (pc : Int) + dflt = (tgt : Int)) (h : WP m tgt L rest M z k n Φ) : WP m pc L (.int x :: rest) M z k n Φ := by
  intro D dA base p l e s mid args below meth c C H locs ls hR hS hL
  exact lv_tableOut C.1 C.2.1 d h1 ht (h D dA base p l e s mid args below meth c C H locs ls hR hS hL)
theorem g_iload_n {i : Fin 4} (d : dc m pc (.iload_n i) 1) (hi : L[(i : Nat)]? = some (some (.int x))) (h : WP m (pc + 1) L (.int x :: rest) M z k n Φ) : WP m pc L rest M z k n Φ := by
  intro D dA base p l e s mid args below meth c C H locs ls hR hS hL
  exact lv_iload_n C.1 C.2.1 d rfl (hL.get hi) (h D dA base p l e s mid args below meth c C H locs ls hR hS hL)
theorem g_iload {i : Nat} (d : dc m pc (.iload i) 2) (hi : L[i]? = some (some (.int x))) (h : WP m (pc + 2) L (.int x :: rest) M z k n Φ) : WP m pc L rest M z k n Φ := by
  intro D dA base p l e s mid args below meth c C H locs ls hR hS hL
  exact lv_iload C.1 C.2.1 d (hL.get hi) (h D dA base p l e s mid args below meth c C H locs ls hR hS hL)
theorem g_lload_n {i : Fin 4} (d : dc m pc (.lload_n i) 1) (hi : L[(i : Nat)]? = some (some (.long xl))) (h : WP m (pc + 1) L (.long xl :: rest) M z k n Φ) : WP m pc L rest M z k n Φ := by
  intro D dA base p l e s mid args below meth c C H locs ls hR hS hL
  exact lv_lload_n C.1 C.2.1 d rfl (hL.get hi) (h D dA base p l e s mid args below meth c C H locs ls hR hS hL)
theorem g_lload {i : Nat} (d : dc m pc (.lload i) 2) (hi : L[i]? = some (some (.long xl))) (h : WP m (pc + 2) L (.long xl :: rest) M z k n Φ) : WP m pc L rest M z k n Φ := by
  intro D dA base p l e s mid args below meth c C H locs ls hR hS hL
  exact lv_lload C.1 C.2.1 d (hL.get hi) (h D dA base p l e s mid args below meth c C H locs ls hR hS hL)
theorem g_aload_n {i : Fin 4} (d : dc m pc (.aload_n i) 1) (hi : L[(i : Nat)]? = some (some (.ref a))) (h : WP m (pc + 1) L (.ref a :: rest) M z k n Φ) : WP m pc L rest M z k n Φ := by
  intro D dA base p l e s mid args below meth c C H locs ls hR hS hL
  exact lv_aload_n C.1 C.2.1 d rfl (hL.get hi) (h D dA base p l e s mid args below meth c C H locs ls hR hS hL)
theorem g_aload {i : Nat} (d : dc m pc (.aload i) 2) (hi : L[i]? = some (some (.ref a))) (h : WP m (pc + 2) L (.ref a :: rest) M z k n Φ) : WP m pc L rest M z k n Φ := by
  intro D dA base p l e s mid args below meth c C H locs ls hR hS hL
  exact lv_aload C.1 C.2.1 d (hL.get hi) (h D dA base p l e s mid args below meth c C H locs ls hR hS hL)
theorem g_dload {i : Nat} {u : UInt64} (d : dc m pc (.dload i) 2) (hi : L[i]? = some (some (.double u))) (h : WP m (pc + 2) L (.double u :: rest) M z k n Φ) : WP m pc L rest M z k n Φ := by
  intro D dA base p l e s mid args below meth c C H locs ls hR hS hL
  exact lv_dload C.1 C.2.1 d (hL.get hi) (h D dA base p l e s mid args below meth c C H locs ls hR hS hL)
theorem g_aload_nN {i : Fin 4} (d : dc m pc (.aload_n i) 1) (hi : L[(i : Nat)]? = some (some (.null))) (h : WP m (pc + 1) L (.null :: rest) M z k n Φ) : WP m pc L rest M z k n Φ := by
  intro D dA base p l e s mid args below meth c C H locs ls hR hS hL
  exact lv_aload_nN C.1 C.2.1 d rfl (hL.get hi) (h D dA base p l e s mid args below meth c C H locs ls hR hS hL)
theorem g_aloadN {i : Nat} (d : dc m pc (.aload i) 2) (hi : L[i]? = some (some (.null))) (h : WP m (pc + 2) L (.null :: rest) M z k n Φ) : WP m pc L rest M z k n Φ := by
  intro D dA base p l e s mid args below meth c C H locs ls hR hS hL
  exact lv_aloadN C.1 C.2.1 d (hL.get hi) (h D dA base p l e s mid args below meth c C H locs ls hR hS hL)
theorem g_istore_n {i : Fin 4} (d : dc m pc (.istore_n i) 1) (hi : ((i : Nat)) < L.length) (hp : ∀ a, (((i : Nat)) ≠ 0 ∧ L[((i : Nat)) - 1]? = some a) → gw1 a = true) (hl : (L.set ((i : Nat)) (some (.int x))) = T) (h : WP m (pc + 1) T rest M z k n Φ) : WP m pc L (.int x :: rest) M z k n Φ := by
  intro D dA base p l e s mid args below meth c C H locs ls hR hS hL
  exact lv_istore_n C.1 C.2.1 d rfl hL.2 (by rw [← hL.1]; exact hi) rfl (fun ls1 hl1 => h D dA base p l e s mid args below meth c C H locs ls1 hR hS (by rw [← hl]; exact hL.set1 hp hl1))
theorem g_istore {i : Nat} (d : dc m pc (.istore i) 2) (hi : (i) < L.length) (hp : ∀ a, ((i) ≠ 0 ∧ L[(i) - 1]? = some a) → gw1 a = true) (hl : (L.set (i) (some (.int x))) = T) (h : WP m (pc + 2) T rest M z k n Φ) : WP m pc L (.int x :: rest) M z k n Φ := by
  intro D dA base p l e s mid args below meth c C H locs ls hR hS hL
  exact lv_istore C.1 C.2.1 d hL.2 (by rw [← hL.1]; exact hi) rfl (fun ls1 hl1 => h D dA base p l e s mid args below meth c C H locs ls1 hR hS (by rw [← hl]; exact hL.set1 hp hl1))
theorem g_astore_n {i : Fin 4} (d : dc m pc (.astore_n i) 1) (hi : ((i : Nat)) < L.length) (hp : ∀ a, (((i : Nat)) ≠ 0 ∧ L[((i : Nat)) - 1]? = some a) → gw1 a = true) (hl : (L.set ((i : Nat)) (some (.ref a))) = T) (h : WP m (pc + 1) T rest M z k n Φ) : WP m pc L (.ref a :: rest) M z k n Φ := by
  intro D dA base p l e s mid args below meth c C H locs ls hR hS hL
  exact lv_astore_n C.1 C.2.1 d rfl hL.2 (by rw [← hL.1]; exact hi) rfl (fun ls1 hl1 => h D dA base p l e s mid args below meth c C H locs ls1 hR hS (by rw [← hl]; exact hL.set1 hp hl1))
theorem g_astore {i : Nat} (d : dc m pc (.astore i) 2) (hi : (i) < L.length) (hp : ∀ a, ((i) ≠ 0 ∧ L[(i) - 1]? = some a) → gw1 a = true) (hl : (L.set (i) (some (.ref a))) = T) (h : WP m (pc + 2) T rest M z k n Φ) : WP m pc L (.ref a :: rest) M z k n Φ := by
  intro D dA base p l e s mid args below meth c C H locs ls hR hS hL
  exact lv_astore C.1 C.2.1 d hL.2 (by rw [← hL.1]; exact hi) rfl (fun ls1 hl1 => h D dA base p l e s mid args below meth c C H locs ls1 hR hS (by rw [← hl]; exact hL.set1 hp hl1))
theorem g_astore_nN {i : Fin 4} (d : dc m pc (.astore_n i) 1) (hi : ((i : Nat)) < L.length) (hp : ∀ a, (((i : Nat)) ≠ 0 ∧ L[((i : Nat)) - 1]? = some a) → gw1 a = true) (hl : (L.set ((i : Nat)) (some (.null))) = T) (h : WP m (pc + 1) T rest M z k n Φ) : WP m pc L (.null :: rest) M z k n Φ := by
  intro D dA base p l e s mid args below meth c C H locs ls hR hS hL
  exact lv_astore_nN C.1 C.2.1 d rfl hL.2 (by rw [← hL.1]; exact hi) rfl (fun ls1 hl1 => h D dA base p l e s mid args below meth c C H locs ls1 hR hS (by rw [← hl]; exact hL.set1 hp hl1))
theorem g_astoreN {i : Nat} (d : dc m pc (.astore i) 2) (hi : (i) < L.length) (hp : ∀ a, ((i) ≠ 0 ∧ L[(i) - 1]? = some a) → gw1 a = true) (hl : (L.set (i) (some (.null))) = T) (h : WP m (pc + 2) T rest M z k n Φ) : WP m pc L (.null :: rest) M z k n Φ := by
  intro D dA base p l e s mid args below meth c C H locs ls hR hS hL
  exact lv_astoreN C.1 C.2.1 d hL.2 (by rw [← hL.1]; exact hi) rfl (fun ls1 hl1 => h D dA base p l e s mid args below meth c C H locs ls1 hR hS (by rw [← hl]; exact hL.set1 hp hl1))
theorem g_lstore {i : Nat} (d : dc m pc (.lstore i) 2) (hi : (i) + 1 < L.length) (hp : ∀ a, ((i) ≠ 0 ∧ L[(i) - 1]? = some a) → gw1 a = true) (hl : ((L.set (i) (some (.long xl))).set ((i) + 1) none) = T) (h : WP m (pc + 2) T rest M z k n Φ) : WP m pc L (.long xl :: rest) M z k n Φ := by
  intro D dA base p l e s mid args below meth c C H locs ls hR hS hL
  exact lv_lstore C.1 C.2.1 d hL.2 (by rw [← hL.1]; exact hi) rfl (fun ls1 hl1 => h D dA base p l e s mid args below meth c C H locs ls1 hR hS (by rw [← hl]; exact hL.set2 hp hl1))
theorem g_lstore_n {i : Fin 4} (d : dc m pc (.lstore_n i) 1) (hi : ((i : Nat)) + 1 < L.length) (hp : ∀ a, (((i : Nat)) ≠ 0 ∧ L[((i : Nat)) - 1]? = some a) → gw1 a = true) (hl : ((L.set ((i : Nat)) (some (.long xl))).set (((i : Nat)) + 1) none) = T) (h : WP m (pc + 1) T rest M z k n Φ) : WP m pc L (.long xl :: rest) M z k n Φ := by
  intro D dA base p l e s mid args below meth c C H locs ls hR hS hL
  exact lv_lstore_n C.1 C.2.1 d rfl hL.2 (by rw [← hL.1]; exact hi) rfl (fun ls1 hl1 => h D dA base p l e s mid args below meth c C H locs ls1 hR hS (by rw [← hl]; exact hL.set2 hp hl1))
theorem g_dstore {i : Nat} {u : UInt64} (d : dc m pc (.dstore i) 2) (hi : i + 1 < L.length) (hp : ∀ a, ((i) ≠ 0 ∧ L[(i) - 1]? = some a) → gw1 a = true) (hl : ((L.set i (some (.double u))).set (i + 1) none) = T) (h : WP m (pc + 2) T rest M z k n Φ) : WP m pc L (.double u :: rest) M z k n Φ := by
  intro D dA base p l e s mid args below meth c C H locs ls hR hS hL
  exact lv_dstore C.1 C.2.1 d hL.2 (by rw [← hL.1]; exact hi) rfl (fun ls1 hl1 => h D dA base p l e s mid args below meth c C H locs ls1 hR hS (by rw [← hl]; exact hL.set2 hp hl1))
theorem g_iinc {i : Nat} {q : Int} (d : dc m pc (.iinc i q) 3) (hi : L[i]? = some (some (.int x))) (hp : ∀ a, ((i) ≠ 0 ∧ L[(i) - 1]? = some a) → gw1 a = true) (hv : Int32.ofInt q = y) (hl : L.set i (some (.int (x + y))) = T) (h : WP m (pc + 3) T rest M z k n Φ) : WP m pc L rest M z k n Φ := by
  intro D dA base p l e s mid args below meth c C H locs ls hR hS hL
  subst hv
  obtain ⟨j, hj⟩ := List.getElem?_of_mem ((gprs_mem L 0 i (.int x)).mpr ⟨i, by omega, hi⟩)
  exact lv_iinc C.1 C.2.1 d hL.2 hj rfl (by rw [← hL.1]; exact (List.getElem?_eq_some_iff.mp hi).1) rfl (fun ls1 hl1 => h D dA base p l e s mid args below meth c C H locs ls1 hR hS (by rw [← hl]; exact hL.set1 hp hl1))
theorem g_weak {L' : List (Option Value)} (hs : gsub L' L) (h : WP m pc L' rest M z k n Φ) : WP m pc L rest M z k n Φ := by
  intro D dA base p l e s mid args below meth c C H locs ls hR hS hL
  exact h D dA base p l e s mid args below meth c C H locs ls hR hS (hL.weak hs)
theorem g_iload_0 (d : dc m pc (.iload_n 0) 1) (h : WP m (pc + 1) (some (.int x) :: T) (.int x :: rest) M z k n Φ) : WP m pc (some (.int x) :: T) rest M z k n Φ := g_iload_n d rfl h
theorem g_iload_1 {p0 : Option Value} (d : dc m pc (.iload_n 1) 1) (h : WP m (pc + 1) (p0 :: some (.int x) :: T) (.int x :: rest) M z k n Φ) : WP m pc (p0 :: some (.int x) :: T) rest M z k n Φ := g_iload_n d rfl h
theorem g_iload_2 {p0 p1 : Option Value} (d : dc m pc (.iload_n 2) 1) (h : WP m (pc + 1) (p0 :: p1 :: some (.int x) :: T) (.int x :: rest) M z k n Φ) : WP m pc (p0 :: p1 :: some (.int x) :: T) rest M z k n Φ := g_iload_n d rfl h
theorem g_iload_3 {p0 p1 p2 : Option Value} (d : dc m pc (.iload_n 3) 1) (h : WP m (pc + 1) (p0 :: p1 :: p2 :: some (.int x) :: T) (.int x :: rest) M z k n Φ) : WP m pc (p0 :: p1 :: p2 :: some (.int x) :: T) rest M z k n Φ := g_iload_n d rfl h
theorem g_iload_4 {p0 p1 p2 p3 : Option Value} (d : dc m pc (.iload 4) 2) (h : WP m (pc + 2) (p0 :: p1 :: p2 :: p3 :: some (.int x) :: T) (.int x :: rest) M z k n Φ) : WP m pc (p0 :: p1 :: p2 :: p3 :: some (.int x) :: T) rest M z k n Φ := g_iload d rfl h
theorem g_iload_5 {p0 p1 p2 p3 p4 : Option Value} (d : dc m pc (.iload 5) 2) (h : WP m (pc + 2) (p0 :: p1 :: p2 :: p3 :: p4 :: some (.int x) :: T) (.int x :: rest) M z k n Φ) : WP m pc (p0 :: p1 :: p2 :: p3 :: p4 :: some (.int x) :: T) rest M z k n Φ := g_iload d rfl h
theorem g_iload_6 {p0 p1 p2 p3 p4 p5 : Option Value} (d : dc m pc (.iload 6) 2) (h : WP m (pc + 2) (p0 :: p1 :: p2 :: p3 :: p4 :: p5 :: some (.int x) :: T) (.int x :: rest) M z k n Φ) : WP m pc (p0 :: p1 :: p2 :: p3 :: p4 :: p5 :: some (.int x) :: T) rest M z k n Φ := g_iload d rfl h
theorem g_iload_7 {p0 p1 p2 p3 p4 p5 p6 : Option Value} (d : dc m pc (.iload 7) 2) (h : WP m (pc + 2) (p0 :: p1 :: p2 :: p3 :: p4 :: p5 :: p6 :: some (.int x) :: T) (.int x :: rest) M z k n Φ) : WP m pc (p0 :: p1 :: p2 :: p3 :: p4 :: p5 :: p6 :: some (.int x) :: T) rest M z k n Φ := g_iload d rfl h
theorem g_iload_8 {p0 p1 p2 p3 p4 p5 p6 p7 : Option Value} (d : dc m pc (.iload 8) 2) (h : WP m (pc + 2) (p0 :: p1 :: p2 :: p3 :: p4 :: p5 :: p6 :: p7 :: some (.int x) :: T) (.int x :: rest) M z k n Φ) : WP m pc (p0 :: p1 :: p2 :: p3 :: p4 :: p5 :: p6 :: p7 :: some (.int x) :: T) rest M z k n Φ := g_iload d rfl h
theorem g_iload_9 {p0 p1 p2 p3 p4 p5 p6 p7 p8 : Option Value} (d : dc m pc (.iload 9) 2) (h : WP m (pc + 2) (p0 :: p1 :: p2 :: p3 :: p4 :: p5 :: p6 :: p7 :: p8 :: some (.int x) :: T) (.int x :: rest) M z k n Φ) : WP m pc (p0 :: p1 :: p2 :: p3 :: p4 :: p5 :: p6 :: p7 :: p8 :: some (.int x) :: T) rest M z k n Φ := g_iload d rfl h
theorem g_aload_0 (d : dc m pc (.aload_n 0) 1) (h : WP m (pc + 1) (some (.ref a) :: T) (.ref a :: rest) M z k n Φ) : WP m pc (some (.ref a) :: T) rest M z k n Φ := g_aload_n d rfl h
theorem g_aload_1 {p0 : Option Value} (d : dc m pc (.aload_n 1) 1) (h : WP m (pc + 1) (p0 :: some (.ref a) :: T) (.ref a :: rest) M z k n Φ) : WP m pc (p0 :: some (.ref a) :: T) rest M z k n Φ := g_aload_n d rfl h
theorem g_aload_2 {p0 p1 : Option Value} (d : dc m pc (.aload_n 2) 1) (h : WP m (pc + 1) (p0 :: p1 :: some (.ref a) :: T) (.ref a :: rest) M z k n Φ) : WP m pc (p0 :: p1 :: some (.ref a) :: T) rest M z k n Φ := g_aload_n d rfl h
theorem g_aload_3 {p0 p1 p2 : Option Value} (d : dc m pc (.aload_n 3) 1) (h : WP m (pc + 1) (p0 :: p1 :: p2 :: some (.ref a) :: T) (.ref a :: rest) M z k n Φ) : WP m pc (p0 :: p1 :: p2 :: some (.ref a) :: T) rest M z k n Φ := g_aload_n d rfl h
theorem g_aload_4 {p0 p1 p2 p3 : Option Value} (d : dc m pc (.aload 4) 2) (h : WP m (pc + 2) (p0 :: p1 :: p2 :: p3 :: some (.ref a) :: T) (.ref a :: rest) M z k n Φ) : WP m pc (p0 :: p1 :: p2 :: p3 :: some (.ref a) :: T) rest M z k n Φ := g_aload d rfl h
theorem g_aload_5 {p0 p1 p2 p3 p4 : Option Value} (d : dc m pc (.aload 5) 2) (h : WP m (pc + 2) (p0 :: p1 :: p2 :: p3 :: p4 :: some (.ref a) :: T) (.ref a :: rest) M z k n Φ) : WP m pc (p0 :: p1 :: p2 :: p3 :: p4 :: some (.ref a) :: T) rest M z k n Φ := g_aload d rfl h
theorem g_aload_6 {p0 p1 p2 p3 p4 p5 : Option Value} (d : dc m pc (.aload 6) 2) (h : WP m (pc + 2) (p0 :: p1 :: p2 :: p3 :: p4 :: p5 :: some (.ref a) :: T) (.ref a :: rest) M z k n Φ) : WP m pc (p0 :: p1 :: p2 :: p3 :: p4 :: p5 :: some (.ref a) :: T) rest M z k n Φ := g_aload d rfl h
theorem g_aload_7 {p0 p1 p2 p3 p4 p5 p6 : Option Value} (d : dc m pc (.aload 7) 2) (h : WP m (pc + 2) (p0 :: p1 :: p2 :: p3 :: p4 :: p5 :: p6 :: some (.ref a) :: T) (.ref a :: rest) M z k n Φ) : WP m pc (p0 :: p1 :: p2 :: p3 :: p4 :: p5 :: p6 :: some (.ref a) :: T) rest M z k n Φ := g_aload d rfl h
theorem g_aload_8 {p0 p1 p2 p3 p4 p5 p6 p7 : Option Value} (d : dc m pc (.aload 8) 2) (h : WP m (pc + 2) (p0 :: p1 :: p2 :: p3 :: p4 :: p5 :: p6 :: p7 :: some (.ref a) :: T) (.ref a :: rest) M z k n Φ) : WP m pc (p0 :: p1 :: p2 :: p3 :: p4 :: p5 :: p6 :: p7 :: some (.ref a) :: T) rest M z k n Φ := g_aload d rfl h
theorem g_aload_9 {p0 p1 p2 p3 p4 p5 p6 p7 p8 : Option Value} (d : dc m pc (.aload 9) 2) (h : WP m (pc + 2) (p0 :: p1 :: p2 :: p3 :: p4 :: p5 :: p6 :: p7 :: p8 :: some (.ref a) :: T) (.ref a :: rest) M z k n Φ) : WP m pc (p0 :: p1 :: p2 :: p3 :: p4 :: p5 :: p6 :: p7 :: p8 :: some (.ref a) :: T) rest M z k n Φ := g_aload d rfl h
theorem g_lload_0 (d : dc m pc (.lload_n 0) 1) (h : WP m (pc + 1) (some (.long xl) :: T) (.long xl :: rest) M z k n Φ) : WP m pc (some (.long xl) :: T) rest M z k n Φ := g_lload_n d rfl h
theorem g_lload_1 {p0 : Option Value} (d : dc m pc (.lload_n 1) 1) (h : WP m (pc + 1) (p0 :: some (.long xl) :: T) (.long xl :: rest) M z k n Φ) : WP m pc (p0 :: some (.long xl) :: T) rest M z k n Φ := g_lload_n d rfl h
theorem g_lload_2 {p0 p1 : Option Value} (d : dc m pc (.lload_n 2) 1) (h : WP m (pc + 1) (p0 :: p1 :: some (.long xl) :: T) (.long xl :: rest) M z k n Φ) : WP m pc (p0 :: p1 :: some (.long xl) :: T) rest M z k n Φ := g_lload_n d rfl h
theorem g_lload_3 {p0 p1 p2 : Option Value} (d : dc m pc (.lload_n 3) 1) (h : WP m (pc + 1) (p0 :: p1 :: p2 :: some (.long xl) :: T) (.long xl :: rest) M z k n Φ) : WP m pc (p0 :: p1 :: p2 :: some (.long xl) :: T) rest M z k n Φ := g_lload_n d rfl h
theorem g_lload_4 {p0 p1 p2 p3 : Option Value} (d : dc m pc (.lload 4) 2) (h : WP m (pc + 2) (p0 :: p1 :: p2 :: p3 :: some (.long xl) :: T) (.long xl :: rest) M z k n Φ) : WP m pc (p0 :: p1 :: p2 :: p3 :: some (.long xl) :: T) rest M z k n Φ := g_lload d rfl h
theorem g_lload_5 {p0 p1 p2 p3 p4 : Option Value} (d : dc m pc (.lload 5) 2) (h : WP m (pc + 2) (p0 :: p1 :: p2 :: p3 :: p4 :: some (.long xl) :: T) (.long xl :: rest) M z k n Φ) : WP m pc (p0 :: p1 :: p2 :: p3 :: p4 :: some (.long xl) :: T) rest M z k n Φ := g_lload d rfl h
theorem g_lload_6 {p0 p1 p2 p3 p4 p5 : Option Value} (d : dc m pc (.lload 6) 2) (h : WP m (pc + 2) (p0 :: p1 :: p2 :: p3 :: p4 :: p5 :: some (.long xl) :: T) (.long xl :: rest) M z k n Φ) : WP m pc (p0 :: p1 :: p2 :: p3 :: p4 :: p5 :: some (.long xl) :: T) rest M z k n Φ := g_lload d rfl h
theorem g_lload_7 {p0 p1 p2 p3 p4 p5 p6 : Option Value} (d : dc m pc (.lload 7) 2) (h : WP m (pc + 2) (p0 :: p1 :: p2 :: p3 :: p4 :: p5 :: p6 :: some (.long xl) :: T) (.long xl :: rest) M z k n Φ) : WP m pc (p0 :: p1 :: p2 :: p3 :: p4 :: p5 :: p6 :: some (.long xl) :: T) rest M z k n Φ := g_lload d rfl h
theorem g_lload_8 {p0 p1 p2 p3 p4 p5 p6 p7 : Option Value} (d : dc m pc (.lload 8) 2) (h : WP m (pc + 2) (p0 :: p1 :: p2 :: p3 :: p4 :: p5 :: p6 :: p7 :: some (.long xl) :: T) (.long xl :: rest) M z k n Φ) : WP m pc (p0 :: p1 :: p2 :: p3 :: p4 :: p5 :: p6 :: p7 :: some (.long xl) :: T) rest M z k n Φ := g_lload d rfl h
theorem g_lload_9 {p0 p1 p2 p3 p4 p5 p6 p7 p8 : Option Value} (d : dc m pc (.lload 9) 2) (h : WP m (pc + 2) (p0 :: p1 :: p2 :: p3 :: p4 :: p5 :: p6 :: p7 :: p8 :: some (.long xl) :: T) (.long xl :: rest) M z k n Φ) : WP m pc (p0 :: p1 :: p2 :: p3 :: p4 :: p5 :: p6 :: p7 :: p8 :: some (.long xl) :: T) rest M z k n Φ := g_lload d rfl h
theorem g_dload_0 {u : UInt64} (d : dc m pc (.dload 0) 2) (h : WP m (pc + 2) (some (.double u) :: T) (.double u :: rest) M z k n Φ) : WP m pc (some (.double u) :: T) rest M z k n Φ := g_dload d rfl h
theorem g_dload_1 {p0 : Option Value} {u : UInt64} (d : dc m pc (.dload 1) 2) (h : WP m (pc + 2) (p0 :: some (.double u) :: T) (.double u :: rest) M z k n Φ) : WP m pc (p0 :: some (.double u) :: T) rest M z k n Φ := g_dload d rfl h
theorem g_dload_2 {p0 p1 : Option Value} {u : UInt64} (d : dc m pc (.dload 2) 2) (h : WP m (pc + 2) (p0 :: p1 :: some (.double u) :: T) (.double u :: rest) M z k n Φ) : WP m pc (p0 :: p1 :: some (.double u) :: T) rest M z k n Φ := g_dload d rfl h
theorem g_dload_3 {p0 p1 p2 : Option Value} {u : UInt64} (d : dc m pc (.dload 3) 2) (h : WP m (pc + 2) (p0 :: p1 :: p2 :: some (.double u) :: T) (.double u :: rest) M z k n Φ) : WP m pc (p0 :: p1 :: p2 :: some (.double u) :: T) rest M z k n Φ := g_dload d rfl h
theorem g_dload_4 {p0 p1 p2 p3 : Option Value} {u : UInt64} (d : dc m pc (.dload 4) 2) (h : WP m (pc + 2) (p0 :: p1 :: p2 :: p3 :: some (.double u) :: T) (.double u :: rest) M z k n Φ) : WP m pc (p0 :: p1 :: p2 :: p3 :: some (.double u) :: T) rest M z k n Φ := g_dload d rfl h
theorem g_dload_5 {p0 p1 p2 p3 p4 : Option Value} {u : UInt64} (d : dc m pc (.dload 5) 2) (h : WP m (pc + 2) (p0 :: p1 :: p2 :: p3 :: p4 :: some (.double u) :: T) (.double u :: rest) M z k n Φ) : WP m pc (p0 :: p1 :: p2 :: p3 :: p4 :: some (.double u) :: T) rest M z k n Φ := g_dload d rfl h
theorem g_dload_6 {p0 p1 p2 p3 p4 p5 : Option Value} {u : UInt64} (d : dc m pc (.dload 6) 2) (h : WP m (pc + 2) (p0 :: p1 :: p2 :: p3 :: p4 :: p5 :: some (.double u) :: T) (.double u :: rest) M z k n Φ) : WP m pc (p0 :: p1 :: p2 :: p3 :: p4 :: p5 :: some (.double u) :: T) rest M z k n Φ := g_dload d rfl h
theorem g_dload_7 {p0 p1 p2 p3 p4 p5 p6 : Option Value} {u : UInt64} (d : dc m pc (.dload 7) 2) (h : WP m (pc + 2) (p0 :: p1 :: p2 :: p3 :: p4 :: p5 :: p6 :: some (.double u) :: T) (.double u :: rest) M z k n Φ) : WP m pc (p0 :: p1 :: p2 :: p3 :: p4 :: p5 :: p6 :: some (.double u) :: T) rest M z k n Φ := g_dload d rfl h
theorem g_dload_8 {p0 p1 p2 p3 p4 p5 p6 p7 : Option Value} {u : UInt64} (d : dc m pc (.dload 8) 2) (h : WP m (pc + 2) (p0 :: p1 :: p2 :: p3 :: p4 :: p5 :: p6 :: p7 :: some (.double u) :: T) (.double u :: rest) M z k n Φ) : WP m pc (p0 :: p1 :: p2 :: p3 :: p4 :: p5 :: p6 :: p7 :: some (.double u) :: T) rest M z k n Φ := g_dload d rfl h
theorem g_dload_9 {p0 p1 p2 p3 p4 p5 p6 p7 p8 : Option Value} {u : UInt64} (d : dc m pc (.dload 9) 2) (h : WP m (pc + 2) (p0 :: p1 :: p2 :: p3 :: p4 :: p5 :: p6 :: p7 :: p8 :: some (.double u) :: T) (.double u :: rest) M z k n Φ) : WP m pc (p0 :: p1 :: p2 :: p3 :: p4 :: p5 :: p6 :: p7 :: p8 :: some (.double u) :: T) rest M z k n Φ := g_dload d rfl h
theorem g_aload_0N (d : dc m pc (.aload_n 0) 1) (h : WP m (pc + 1) (some .null :: T) (.null :: rest) M z k n Φ) : WP m pc (some .null :: T) rest M z k n Φ := g_aload_nN d rfl h
theorem g_aload_1N {p0 : Option Value} (d : dc m pc (.aload_n 1) 1) (h : WP m (pc + 1) (p0 :: some .null :: T) (.null :: rest) M z k n Φ) : WP m pc (p0 :: some .null :: T) rest M z k n Φ := g_aload_nN d rfl h
theorem g_aload_2N {p0 p1 : Option Value} (d : dc m pc (.aload_n 2) 1) (h : WP m (pc + 1) (p0 :: p1 :: some .null :: T) (.null :: rest) M z k n Φ) : WP m pc (p0 :: p1 :: some .null :: T) rest M z k n Φ := g_aload_nN d rfl h
theorem g_aload_3N {p0 p1 p2 : Option Value} (d : dc m pc (.aload_n 3) 1) (h : WP m (pc + 1) (p0 :: p1 :: p2 :: some .null :: T) (.null :: rest) M z k n Φ) : WP m pc (p0 :: p1 :: p2 :: some .null :: T) rest M z k n Φ := g_aload_nN d rfl h
theorem g_aload_4N {p0 p1 p2 p3 : Option Value} (d : dc m pc (.aload 4) 2) (h : WP m (pc + 2) (p0 :: p1 :: p2 :: p3 :: some .null :: T) (.null :: rest) M z k n Φ) : WP m pc (p0 :: p1 :: p2 :: p3 :: some .null :: T) rest M z k n Φ := g_aloadN d rfl h
theorem g_aload_5N {p0 p1 p2 p3 p4 : Option Value} (d : dc m pc (.aload 5) 2) (h : WP m (pc + 2) (p0 :: p1 :: p2 :: p3 :: p4 :: some .null :: T) (.null :: rest) M z k n Φ) : WP m pc (p0 :: p1 :: p2 :: p3 :: p4 :: some .null :: T) rest M z k n Φ := g_aloadN d rfl h
theorem g_aload_6N {p0 p1 p2 p3 p4 p5 : Option Value} (d : dc m pc (.aload 6) 2) (h : WP m (pc + 2) (p0 :: p1 :: p2 :: p3 :: p4 :: p5 :: some .null :: T) (.null :: rest) M z k n Φ) : WP m pc (p0 :: p1 :: p2 :: p3 :: p4 :: p5 :: some .null :: T) rest M z k n Φ := g_aloadN d rfl h
theorem g_aload_7N {p0 p1 p2 p3 p4 p5 p6 : Option Value} (d : dc m pc (.aload 7) 2) (h : WP m (pc + 2) (p0 :: p1 :: p2 :: p3 :: p4 :: p5 :: p6 :: some .null :: T) (.null :: rest) M z k n Φ) : WP m pc (p0 :: p1 :: p2 :: p3 :: p4 :: p5 :: p6 :: some .null :: T) rest M z k n Φ := g_aloadN d rfl h
theorem g_aload_8N {p0 p1 p2 p3 p4 p5 p6 p7 : Option Value} (d : dc m pc (.aload 8) 2) (h : WP m (pc + 2) (p0 :: p1 :: p2 :: p3 :: p4 :: p5 :: p6 :: p7 :: some .null :: T) (.null :: rest) M z k n Φ) : WP m pc (p0 :: p1 :: p2 :: p3 :: p4 :: p5 :: p6 :: p7 :: some .null :: T) rest M z k n Φ := g_aloadN d rfl h
theorem g_aload_9N {p0 p1 p2 p3 p4 p5 p6 p7 p8 : Option Value} (d : dc m pc (.aload 9) 2) (h : WP m (pc + 2) (p0 :: p1 :: p2 :: p3 :: p4 :: p5 :: p6 :: p7 :: p8 :: some .null :: T) (.null :: rest) M z k n Φ) : WP m pc (p0 :: p1 :: p2 :: p3 :: p4 :: p5 :: p6 :: p7 :: p8 :: some .null :: T) rest M z k n Φ := g_aloadN d rfl h
theorem g_istore_0 {q : Option Value} (d : dc m pc (.istore_n 0) 1) (h : WP m (pc + 1) (some (.int x) :: T) rest M z k n Φ) : WP m pc (q :: T) (.int x :: rest) M z k n Φ := g_istore_n d (by show 0 < List.length _; simp) (fun a h => absurd rfl h.1) rfl h
theorem g_istore_1 {p0 q : Option Value} (hp : gw1 p0 = true) (d : dc m pc (.istore_n 1) 1) (h : WP m (pc + 1) (p0 :: some (.int x) :: T) rest M z k n Φ) : WP m pc (p0 :: q :: T) (.int x :: rest) M z k n Φ := g_istore_n d (by show 1 < List.length _; simp) (fun a h => by have h2 : some p0 = some a := h.2; cases h2; exact hp) rfl h
theorem g_istore_2 {p0 p1 q : Option Value} (hp : gw1 p1 = true) (d : dc m pc (.istore_n 2) 1) (h : WP m (pc + 1) (p0 :: p1 :: some (.int x) :: T) rest M z k n Φ) : WP m pc (p0 :: p1 :: q :: T) (.int x :: rest) M z k n Φ := g_istore_n d (by show 2 < List.length _; simp) (fun a h => by have h2 : some p1 = some a := h.2; cases h2; exact hp) rfl h
theorem g_istore_3 {p0 p1 p2 q : Option Value} (hp : gw1 p2 = true) (d : dc m pc (.istore_n 3) 1) (h : WP m (pc + 1) (p0 :: p1 :: p2 :: some (.int x) :: T) rest M z k n Φ) : WP m pc (p0 :: p1 :: p2 :: q :: T) (.int x :: rest) M z k n Φ := g_istore_n d (by show 3 < List.length _; simp) (fun a h => by have h2 : some p2 = some a := h.2; cases h2; exact hp) rfl h
theorem g_istore_4 {p0 p1 p2 p3 q : Option Value} (hp : gw1 p3 = true) (d : dc m pc (.istore 4) 2) (h : WP m (pc + 2) (p0 :: p1 :: p2 :: p3 :: some (.int x) :: T) rest M z k n Φ) : WP m pc (p0 :: p1 :: p2 :: p3 :: q :: T) (.int x :: rest) M z k n Φ := g_istore d (by show 4 < List.length _; simp) (fun a h => by have h2 : some p3 = some a := h.2; cases h2; exact hp) rfl h
theorem g_istore_5 {p0 p1 p2 p3 p4 q : Option Value} (hp : gw1 p4 = true) (d : dc m pc (.istore 5) 2) (h : WP m (pc + 2) (p0 :: p1 :: p2 :: p3 :: p4 :: some (.int x) :: T) rest M z k n Φ) : WP m pc (p0 :: p1 :: p2 :: p3 :: p4 :: q :: T) (.int x :: rest) M z k n Φ := g_istore d (by show 5 < List.length _; simp) (fun a h => by have h2 : some p4 = some a := h.2; cases h2; exact hp) rfl h
theorem g_istore_6 {p0 p1 p2 p3 p4 p5 q : Option Value} (hp : gw1 p5 = true) (d : dc m pc (.istore 6) 2) (h : WP m (pc + 2) (p0 :: p1 :: p2 :: p3 :: p4 :: p5 :: some (.int x) :: T) rest M z k n Φ) : WP m pc (p0 :: p1 :: p2 :: p3 :: p4 :: p5 :: q :: T) (.int x :: rest) M z k n Φ := g_istore d (by show 6 < List.length _; simp) (fun a h => by have h2 : some p5 = some a := h.2; cases h2; exact hp) rfl h
theorem g_istore_7 {p0 p1 p2 p3 p4 p5 p6 q : Option Value} (hp : gw1 p6 = true) (d : dc m pc (.istore 7) 2) (h : WP m (pc + 2) (p0 :: p1 :: p2 :: p3 :: p4 :: p5 :: p6 :: some (.int x) :: T) rest M z k n Φ) : WP m pc (p0 :: p1 :: p2 :: p3 :: p4 :: p5 :: p6 :: q :: T) (.int x :: rest) M z k n Φ := g_istore d (by show 7 < List.length _; simp) (fun a h => by have h2 : some p6 = some a := h.2; cases h2; exact hp) rfl h
theorem g_istore_8 {p0 p1 p2 p3 p4 p5 p6 p7 q : Option Value} (hp : gw1 p7 = true) (d : dc m pc (.istore 8) 2) (h : WP m (pc + 2) (p0 :: p1 :: p2 :: p3 :: p4 :: p5 :: p6 :: p7 :: some (.int x) :: T) rest M z k n Φ) : WP m pc (p0 :: p1 :: p2 :: p3 :: p4 :: p5 :: p6 :: p7 :: q :: T) (.int x :: rest) M z k n Φ := g_istore d (by show 8 < List.length _; simp) (fun a h => by have h2 : some p7 = some a := h.2; cases h2; exact hp) rfl h
theorem g_istore_9 {p0 p1 p2 p3 p4 p5 p6 p7 p8 q : Option Value} (hp : gw1 p8 = true) (d : dc m pc (.istore 9) 2) (h : WP m (pc + 2) (p0 :: p1 :: p2 :: p3 :: p4 :: p5 :: p6 :: p7 :: p8 :: some (.int x) :: T) rest M z k n Φ) : WP m pc (p0 :: p1 :: p2 :: p3 :: p4 :: p5 :: p6 :: p7 :: p8 :: q :: T) (.int x :: rest) M z k n Φ := g_istore d (by show 9 < List.length _; simp) (fun a h => by have h2 : some p8 = some a := h.2; cases h2; exact hp) rfl h
theorem g_astore_0 {q : Option Value} (d : dc m pc (.astore_n 0) 1) (h : WP m (pc + 1) (some (.ref a) :: T) rest M z k n Φ) : WP m pc (q :: T) (.ref a :: rest) M z k n Φ := g_astore_n d (by show 0 < List.length _; simp) (fun a h => absurd rfl h.1) rfl h
theorem g_astore_1 {p0 q : Option Value} (hp : gw1 p0 = true) (d : dc m pc (.astore_n 1) 1) (h : WP m (pc + 1) (p0 :: some (.ref a) :: T) rest M z k n Φ) : WP m pc (p0 :: q :: T) (.ref a :: rest) M z k n Φ := g_astore_n d (by show 1 < List.length _; simp) (fun a h => by have h2 : some p0 = some a := h.2; cases h2; exact hp) rfl h
theorem g_astore_2 {p0 p1 q : Option Value} (hp : gw1 p1 = true) (d : dc m pc (.astore_n 2) 1) (h : WP m (pc + 1) (p0 :: p1 :: some (.ref a) :: T) rest M z k n Φ) : WP m pc (p0 :: p1 :: q :: T) (.ref a :: rest) M z k n Φ := g_astore_n d (by show 2 < List.length _; simp) (fun a h => by have h2 : some p1 = some a := h.2; cases h2; exact hp) rfl h
theorem g_astore_3 {p0 p1 p2 q : Option Value} (hp : gw1 p2 = true) (d : dc m pc (.astore_n 3) 1) (h : WP m (pc + 1) (p0 :: p1 :: p2 :: some (.ref a) :: T) rest M z k n Φ) : WP m pc (p0 :: p1 :: p2 :: q :: T) (.ref a :: rest) M z k n Φ := g_astore_n d (by show 3 < List.length _; simp) (fun a h => by have h2 : some p2 = some a := h.2; cases h2; exact hp) rfl h
theorem g_astore_4 {p0 p1 p2 p3 q : Option Value} (hp : gw1 p3 = true) (d : dc m pc (.astore 4) 2) (h : WP m (pc + 2) (p0 :: p1 :: p2 :: p3 :: some (.ref a) :: T) rest M z k n Φ) : WP m pc (p0 :: p1 :: p2 :: p3 :: q :: T) (.ref a :: rest) M z k n Φ := g_astore d (by show 4 < List.length _; simp) (fun a h => by have h2 : some p3 = some a := h.2; cases h2; exact hp) rfl h
theorem g_astore_5 {p0 p1 p2 p3 p4 q : Option Value} (hp : gw1 p4 = true) (d : dc m pc (.astore 5) 2) (h : WP m (pc + 2) (p0 :: p1 :: p2 :: p3 :: p4 :: some (.ref a) :: T) rest M z k n Φ) : WP m pc (p0 :: p1 :: p2 :: p3 :: p4 :: q :: T) (.ref a :: rest) M z k n Φ := g_astore d (by show 5 < List.length _; simp) (fun a h => by have h2 : some p4 = some a := h.2; cases h2; exact hp) rfl h
theorem g_astore_6 {p0 p1 p2 p3 p4 p5 q : Option Value} (hp : gw1 p5 = true) (d : dc m pc (.astore 6) 2) (h : WP m (pc + 2) (p0 :: p1 :: p2 :: p3 :: p4 :: p5 :: some (.ref a) :: T) rest M z k n Φ) : WP m pc (p0 :: p1 :: p2 :: p3 :: p4 :: p5 :: q :: T) (.ref a :: rest) M z k n Φ := g_astore d (by show 6 < List.length _; simp) (fun a h => by have h2 : some p5 = some a := h.2; cases h2; exact hp) rfl h
theorem g_astore_7 {p0 p1 p2 p3 p4 p5 p6 q : Option Value} (hp : gw1 p6 = true) (d : dc m pc (.astore 7) 2) (h : WP m (pc + 2) (p0 :: p1 :: p2 :: p3 :: p4 :: p5 :: p6 :: some (.ref a) :: T) rest M z k n Φ) : WP m pc (p0 :: p1 :: p2 :: p3 :: p4 :: p5 :: p6 :: q :: T) (.ref a :: rest) M z k n Φ := g_astore d (by show 7 < List.length _; simp) (fun a h => by have h2 : some p6 = some a := h.2; cases h2; exact hp) rfl h
theorem g_astore_8 {p0 p1 p2 p3 p4 p5 p6 p7 q : Option Value} (hp : gw1 p7 = true) (d : dc m pc (.astore 8) 2) (h : WP m (pc + 2) (p0 :: p1 :: p2 :: p3 :: p4 :: p5 :: p6 :: p7 :: some (.ref a) :: T) rest M z k n Φ) : WP m pc (p0 :: p1 :: p2 :: p3 :: p4 :: p5 :: p6 :: p7 :: q :: T) (.ref a :: rest) M z k n Φ := g_astore d (by show 8 < List.length _; simp) (fun a h => by have h2 : some p7 = some a := h.2; cases h2; exact hp) rfl h
theorem g_astore_9 {p0 p1 p2 p3 p4 p5 p6 p7 p8 q : Option Value} (hp : gw1 p8 = true) (d : dc m pc (.astore 9) 2) (h : WP m (pc + 2) (p0 :: p1 :: p2 :: p3 :: p4 :: p5 :: p6 :: p7 :: p8 :: some (.ref a) :: T) rest M z k n Φ) : WP m pc (p0 :: p1 :: p2 :: p3 :: p4 :: p5 :: p6 :: p7 :: p8 :: q :: T) (.ref a :: rest) M z k n Φ := g_astore d (by show 9 < List.length _; simp) (fun a h => by have h2 : some p8 = some a := h.2; cases h2; exact hp) rfl h
theorem g_astore_0N {q : Option Value} (d : dc m pc (.astore_n 0) 1) (h : WP m (pc + 1) (some (.null) :: T) rest M z k n Φ) : WP m pc (q :: T) (.null :: rest) M z k n Φ := g_astore_nN d (by show 0 < List.length _; simp) (fun a h => absurd rfl h.1) rfl h
theorem g_astore_1N {p0 q : Option Value} (hp : gw1 p0 = true) (d : dc m pc (.astore_n 1) 1) (h : WP m (pc + 1) (p0 :: some (.null) :: T) rest M z k n Φ) : WP m pc (p0 :: q :: T) (.null :: rest) M z k n Φ := g_astore_nN d (by show 1 < List.length _; simp) (fun a h => by have h2 : some p0 = some a := h.2; cases h2; exact hp) rfl h
theorem g_astore_2N {p0 p1 q : Option Value} (hp : gw1 p1 = true) (d : dc m pc (.astore_n 2) 1) (h : WP m (pc + 1) (p0 :: p1 :: some (.null) :: T) rest M z k n Φ) : WP m pc (p0 :: p1 :: q :: T) (.null :: rest) M z k n Φ := g_astore_nN d (by show 2 < List.length _; simp) (fun a h => by have h2 : some p1 = some a := h.2; cases h2; exact hp) rfl h
theorem g_astore_3N {p0 p1 p2 q : Option Value} (hp : gw1 p2 = true) (d : dc m pc (.astore_n 3) 1) (h : WP m (pc + 1) (p0 :: p1 :: p2 :: some (.null) :: T) rest M z k n Φ) : WP m pc (p0 :: p1 :: p2 :: q :: T) (.null :: rest) M z k n Φ := g_astore_nN d (by show 3 < List.length _; simp) (fun a h => by have h2 : some p2 = some a := h.2; cases h2; exact hp) rfl h
theorem g_astore_4N {p0 p1 p2 p3 q : Option Value} (hp : gw1 p3 = true) (d : dc m pc (.astore 4) 2) (h : WP m (pc + 2) (p0 :: p1 :: p2 :: p3 :: some (.null) :: T) rest M z k n Φ) : WP m pc (p0 :: p1 :: p2 :: p3 :: q :: T) (.null :: rest) M z k n Φ := g_astoreN d (by show 4 < List.length _; simp) (fun a h => by have h2 : some p3 = some a := h.2; cases h2; exact hp) rfl h
theorem g_astore_5N {p0 p1 p2 p3 p4 q : Option Value} (hp : gw1 p4 = true) (d : dc m pc (.astore 5) 2) (h : WP m (pc + 2) (p0 :: p1 :: p2 :: p3 :: p4 :: some (.null) :: T) rest M z k n Φ) : WP m pc (p0 :: p1 :: p2 :: p3 :: p4 :: q :: T) (.null :: rest) M z k n Φ := g_astoreN d (by show 5 < List.length _; simp) (fun a h => by have h2 : some p4 = some a := h.2; cases h2; exact hp) rfl h
theorem g_astore_6N {p0 p1 p2 p3 p4 p5 q : Option Value} (hp : gw1 p5 = true) (d : dc m pc (.astore 6) 2) (h : WP m (pc + 2) (p0 :: p1 :: p2 :: p3 :: p4 :: p5 :: some (.null) :: T) rest M z k n Φ) : WP m pc (p0 :: p1 :: p2 :: p3 :: p4 :: p5 :: q :: T) (.null :: rest) M z k n Φ := g_astoreN d (by show 6 < List.length _; simp) (fun a h => by have h2 : some p5 = some a := h.2; cases h2; exact hp) rfl h
theorem g_astore_7N {p0 p1 p2 p3 p4 p5 p6 q : Option Value} (hp : gw1 p6 = true) (d : dc m pc (.astore 7) 2) (h : WP m (pc + 2) (p0 :: p1 :: p2 :: p3 :: p4 :: p5 :: p6 :: some (.null) :: T) rest M z k n Φ) : WP m pc (p0 :: p1 :: p2 :: p3 :: p4 :: p5 :: p6 :: q :: T) (.null :: rest) M z k n Φ := g_astoreN d (by show 7 < List.length _; simp) (fun a h => by have h2 : some p6 = some a := h.2; cases h2; exact hp) rfl h
theorem g_astore_8N {p0 p1 p2 p3 p4 p5 p6 p7 q : Option Value} (hp : gw1 p7 = true) (d : dc m pc (.astore 8) 2) (h : WP m (pc + 2) (p0 :: p1 :: p2 :: p3 :: p4 :: p5 :: p6 :: p7 :: some (.null) :: T) rest M z k n Φ) : WP m pc (p0 :: p1 :: p2 :: p3 :: p4 :: p5 :: p6 :: p7 :: q :: T) (.null :: rest) M z k n Φ := g_astoreN d (by show 8 < List.length _; simp) (fun a h => by have h2 : some p7 = some a := h.2; cases h2; exact hp) rfl h
theorem g_astore_9N {p0 p1 p2 p3 p4 p5 p6 p7 p8 q : Option Value} (hp : gw1 p8 = true) (d : dc m pc (.astore 9) 2) (h : WP m (pc + 2) (p0 :: p1 :: p2 :: p3 :: p4 :: p5 :: p6 :: p7 :: p8 :: some (.null) :: T) rest M z k n Φ) : WP m pc (p0 :: p1 :: p2 :: p3 :: p4 :: p5 :: p6 :: p7 :: p8 :: q :: T) (.null :: rest) M z k n Φ := g_astoreN d (by show 9 < List.length _; simp) (fun a h => by have h2 : some p8 = some a := h.2; cases h2; exact hp) rfl h
theorem g_lstore_0 {q q2 : Option Value} (d : dc m pc (.lstore_n 0) 1) (h : WP m (pc + 1) (some (.long xl) :: none :: T) rest M z k n Φ) : WP m pc (q :: q2 :: T) (.long xl :: rest) M z k n Φ := g_lstore_n d (by show 0 + 1 < List.length _; simp) (fun a h => absurd rfl h.1) rfl h
theorem g_lstore_1 {p0 q q2 : Option Value} (hp : gw1 p0 = true) (d : dc m pc (.lstore_n 1) 1) (h : WP m (pc + 1) (p0 :: some (.long xl) :: none :: T) rest M z k n Φ) : WP m pc (p0 :: q :: q2 :: T) (.long xl :: rest) M z k n Φ := g_lstore_n d (by show 1 + 1 < List.length _; simp) (fun a h => by have h2 : some p0 = some a := h.2; cases h2; exact hp) rfl h
theorem g_lstore_2 {p0 p1 q q2 : Option Value} (hp : gw1 p1 = true) (d : dc m pc (.lstore_n 2) 1) (h : WP m (pc + 1) (p0 :: p1 :: some (.long xl) :: none :: T) rest M z k n Φ) : WP m pc (p0 :: p1 :: q :: q2 :: T) (.long xl :: rest) M z k n Φ := g_lstore_n d (by show 2 + 1 < List.length _; simp) (fun a h => by have h2 : some p1 = some a := h.2; cases h2; exact hp) rfl h
theorem g_lstore_3 {p0 p1 p2 q q2 : Option Value} (hp : gw1 p2 = true) (d : dc m pc (.lstore_n 3) 1) (h : WP m (pc + 1) (p0 :: p1 :: p2 :: some (.long xl) :: none :: T) rest M z k n Φ) : WP m pc (p0 :: p1 :: p2 :: q :: q2 :: T) (.long xl :: rest) M z k n Φ := g_lstore_n d (by show 3 + 1 < List.length _; simp) (fun a h => by have h2 : some p2 = some a := h.2; cases h2; exact hp) rfl h
theorem g_lstore_4 {p0 p1 p2 p3 q q2 : Option Value} (hp : gw1 p3 = true) (d : dc m pc (.lstore 4) 2) (h : WP m (pc + 2) (p0 :: p1 :: p2 :: p3 :: some (.long xl) :: none :: T) rest M z k n Φ) : WP m pc (p0 :: p1 :: p2 :: p3 :: q :: q2 :: T) (.long xl :: rest) M z k n Φ := g_lstore d (by show 4 + 1 < List.length _; simp) (fun a h => by have h2 : some p3 = some a := h.2; cases h2; exact hp) rfl h
theorem g_dstore_4 {p0 p1 p2 p3 q q2 : Option Value} {u : UInt64} (hp : gw1 p3 = true) (d : dc m pc (.dstore 4) 2) (h : WP m (pc + 2) (p0 :: p1 :: p2 :: p3 :: some (.double u) :: none :: T) rest M z k n Φ) : WP m pc (p0 :: p1 :: p2 :: p3 :: q :: q2 :: T) (.double u :: rest) M z k n Φ := g_dstore d (by show 4 + 1 < List.length _; simp) (fun a h => by have h2 : some p3 = some a := h.2; cases h2; exact hp) rfl h
theorem g_lstore_5 {p0 p1 p2 p3 p4 q q2 : Option Value} (hp : gw1 p4 = true) (d : dc m pc (.lstore 5) 2) (h : WP m (pc + 2) (p0 :: p1 :: p2 :: p3 :: p4 :: some (.long xl) :: none :: T) rest M z k n Φ) : WP m pc (p0 :: p1 :: p2 :: p3 :: p4 :: q :: q2 :: T) (.long xl :: rest) M z k n Φ := g_lstore d (by show 5 + 1 < List.length _; simp) (fun a h => by have h2 : some p4 = some a := h.2; cases h2; exact hp) rfl h
theorem g_dstore_5 {p0 p1 p2 p3 p4 q q2 : Option Value} {u : UInt64} (hp : gw1 p4 = true) (d : dc m pc (.dstore 5) 2) (h : WP m (pc + 2) (p0 :: p1 :: p2 :: p3 :: p4 :: some (.double u) :: none :: T) rest M z k n Φ) : WP m pc (p0 :: p1 :: p2 :: p3 :: p4 :: q :: q2 :: T) (.double u :: rest) M z k n Φ := g_dstore d (by show 5 + 1 < List.length _; simp) (fun a h => by have h2 : some p4 = some a := h.2; cases h2; exact hp) rfl h
theorem g_lstore_6 {p0 p1 p2 p3 p4 p5 q q2 : Option Value} (hp : gw1 p5 = true) (d : dc m pc (.lstore 6) 2) (h : WP m (pc + 2) (p0 :: p1 :: p2 :: p3 :: p4 :: p5 :: some (.long xl) :: none :: T) rest M z k n Φ) : WP m pc (p0 :: p1 :: p2 :: p3 :: p4 :: p5 :: q :: q2 :: T) (.long xl :: rest) M z k n Φ := g_lstore d (by show 6 + 1 < List.length _; simp) (fun a h => by have h2 : some p5 = some a := h.2; cases h2; exact hp) rfl h
theorem g_dstore_6 {p0 p1 p2 p3 p4 p5 q q2 : Option Value} {u : UInt64} (hp : gw1 p5 = true) (d : dc m pc (.dstore 6) 2) (h : WP m (pc + 2) (p0 :: p1 :: p2 :: p3 :: p4 :: p5 :: some (.double u) :: none :: T) rest M z k n Φ) : WP m pc (p0 :: p1 :: p2 :: p3 :: p4 :: p5 :: q :: q2 :: T) (.double u :: rest) M z k n Φ := g_dstore d (by show 6 + 1 < List.length _; simp) (fun a h => by have h2 : some p5 = some a := h.2; cases h2; exact hp) rfl h
theorem g_lstore_7 {p0 p1 p2 p3 p4 p5 p6 q q2 : Option Value} (hp : gw1 p6 = true) (d : dc m pc (.lstore 7) 2) (h : WP m (pc + 2) (p0 :: p1 :: p2 :: p3 :: p4 :: p5 :: p6 :: some (.long xl) :: none :: T) rest M z k n Φ) : WP m pc (p0 :: p1 :: p2 :: p3 :: p4 :: p5 :: p6 :: q :: q2 :: T) (.long xl :: rest) M z k n Φ := g_lstore d (by show 7 + 1 < List.length _; simp) (fun a h => by have h2 : some p6 = some a := h.2; cases h2; exact hp) rfl h
theorem g_dstore_7 {p0 p1 p2 p3 p4 p5 p6 q q2 : Option Value} {u : UInt64} (hp : gw1 p6 = true) (d : dc m pc (.dstore 7) 2) (h : WP m (pc + 2) (p0 :: p1 :: p2 :: p3 :: p4 :: p5 :: p6 :: some (.double u) :: none :: T) rest M z k n Φ) : WP m pc (p0 :: p1 :: p2 :: p3 :: p4 :: p5 :: p6 :: q :: q2 :: T) (.double u :: rest) M z k n Φ := g_dstore d (by show 7 + 1 < List.length _; simp) (fun a h => by have h2 : some p6 = some a := h.2; cases h2; exact hp) rfl h
theorem g_lstore_8 {p0 p1 p2 p3 p4 p5 p6 p7 q q2 : Option Value} (hp : gw1 p7 = true) (d : dc m pc (.lstore 8) 2) (h : WP m (pc + 2) (p0 :: p1 :: p2 :: p3 :: p4 :: p5 :: p6 :: p7 :: some (.long xl) :: none :: T) rest M z k n Φ) : WP m pc (p0 :: p1 :: p2 :: p3 :: p4 :: p5 :: p6 :: p7 :: q :: q2 :: T) (.long xl :: rest) M z k n Φ := g_lstore d (by show 8 + 1 < List.length _; simp) (fun a h => by have h2 : some p7 = some a := h.2; cases h2; exact hp) rfl h
theorem g_dstore_8 {p0 p1 p2 p3 p4 p5 p6 p7 q q2 : Option Value} {u : UInt64} (hp : gw1 p7 = true) (d : dc m pc (.dstore 8) 2) (h : WP m (pc + 2) (p0 :: p1 :: p2 :: p3 :: p4 :: p5 :: p6 :: p7 :: some (.double u) :: none :: T) rest M z k n Φ) : WP m pc (p0 :: p1 :: p2 :: p3 :: p4 :: p5 :: p6 :: p7 :: q :: q2 :: T) (.double u :: rest) M z k n Φ := g_dstore d (by show 8 + 1 < List.length _; simp) (fun a h => by have h2 : some p7 = some a := h.2; cases h2; exact hp) rfl h
theorem g_iinc_0 {q : Int} (d : dc m pc (.iinc 0 q) 3) (hv : Int32.ofInt q = y) (h : WP m (pc + 3) (some (.int (x + y)) :: T) rest M z k n Φ) : WP m pc (some (.int x) :: T) rest M z k n Φ := g_iinc d rfl (fun a h => absurd rfl h.1) hv rfl h
theorem g_iinc_1 {p0 : Option Value} {q : Int} (hp : gw1 p0 = true) (d : dc m pc (.iinc 1 q) 3) (hv : Int32.ofInt q = y) (h : WP m (pc + 3) (p0 :: some (.int (x + y)) :: T) rest M z k n Φ) : WP m pc (p0 :: some (.int x) :: T) rest M z k n Φ := g_iinc d rfl (fun a h => by have h2 : some p0 = some a := h.2; cases h2; exact hp) hv rfl h
theorem g_iinc_2 {p0 p1 : Option Value} {q : Int} (hp : gw1 p1 = true) (d : dc m pc (.iinc 2 q) 3) (hv : Int32.ofInt q = y) (h : WP m (pc + 3) (p0 :: p1 :: some (.int (x + y)) :: T) rest M z k n Φ) : WP m pc (p0 :: p1 :: some (.int x) :: T) rest M z k n Φ := g_iinc d rfl (fun a h => by have h2 : some p1 = some a := h.2; cases h2; exact hp) hv rfl h
theorem g_iinc_3 {p0 p1 p2 : Option Value} {q : Int} (hp : gw1 p2 = true) (d : dc m pc (.iinc 3 q) 3) (hv : Int32.ofInt q = y) (h : WP m (pc + 3) (p0 :: p1 :: p2 :: some (.int (x + y)) :: T) rest M z k n Φ) : WP m pc (p0 :: p1 :: p2 :: some (.int x) :: T) rest M z k n Φ := g_iinc d rfl (fun a h => by have h2 : some p2 = some a := h.2; cases h2; exact hp) hv rfl h
theorem g_iinc_4 {p0 p1 p2 p3 : Option Value} {q : Int} (hp : gw1 p3 = true) (d : dc m pc (.iinc 4 q) 3) (hv : Int32.ofInt q = y) (h : WP m (pc + 3) (p0 :: p1 :: p2 :: p3 :: some (.int (x + y)) :: T) rest M z k n Φ) : WP m pc (p0 :: p1 :: p2 :: p3 :: some (.int x) :: T) rest M z k n Φ := g_iinc d rfl (fun a h => by have h2 : some p3 = some a := h.2; cases h2; exact hp) hv rfl h
theorem g_iinc_5 {p0 p1 p2 p3 p4 : Option Value} {q : Int} (hp : gw1 p4 = true) (d : dc m pc (.iinc 5 q) 3) (hv : Int32.ofInt q = y) (h : WP m (pc + 3) (p0 :: p1 :: p2 :: p3 :: p4 :: some (.int (x + y)) :: T) rest M z k n Φ) : WP m pc (p0 :: p1 :: p2 :: p3 :: p4 :: some (.int x) :: T) rest M z k n Φ := g_iinc d rfl (fun a h => by have h2 : some p4 = some a := h.2; cases h2; exact hp) hv rfl h
theorem g_iinc_6 {p0 p1 p2 p3 p4 p5 : Option Value} {q : Int} (hp : gw1 p5 = true) (d : dc m pc (.iinc 6 q) 3) (hv : Int32.ofInt q = y) (h : WP m (pc + 3) (p0 :: p1 :: p2 :: p3 :: p4 :: p5 :: some (.int (x + y)) :: T) rest M z k n Φ) : WP m pc (p0 :: p1 :: p2 :: p3 :: p4 :: p5 :: some (.int x) :: T) rest M z k n Φ := g_iinc d rfl (fun a h => by have h2 : some p5 = some a := h.2; cases h2; exact hp) hv rfl h
theorem g_iinc_7 {p0 p1 p2 p3 p4 p5 p6 : Option Value} {q : Int} (hp : gw1 p6 = true) (d : dc m pc (.iinc 7 q) 3) (hv : Int32.ofInt q = y) (h : WP m (pc + 3) (p0 :: p1 :: p2 :: p3 :: p4 :: p5 :: p6 :: some (.int (x + y)) :: T) rest M z k n Φ) : WP m pc (p0 :: p1 :: p2 :: p3 :: p4 :: p5 :: p6 :: some (.int x) :: T) rest M z k n Φ := g_iinc d rfl (fun a h => by have h2 : some p6 = some a := h.2; cases h2; exact hp) hv rfl h
theorem g_iinc_8 {p0 p1 p2 p3 p4 p5 p6 p7 : Option Value} {q : Int} (hp : gw1 p7 = true) (d : dc m pc (.iinc 8 q) 3) (hv : Int32.ofInt q = y) (h : WP m (pc + 3) (p0 :: p1 :: p2 :: p3 :: p4 :: p5 :: p6 :: p7 :: some (.int (x + y)) :: T) rest M z k n Φ) : WP m pc (p0 :: p1 :: p2 :: p3 :: p4 :: p5 :: p6 :: p7 :: some (.int x) :: T) rest M z k n Φ := g_iinc d rfl (fun a h => by have h2 : some p7 = some a := h.2; cases h2; exact hp) hv rfl h
theorem g_iinc_9 {p0 p1 p2 p3 p4 p5 p6 p7 p8 : Option Value} {q : Int} (hp : gw1 p8 = true) (d : dc m pc (.iinc 9 q) 3) (hv : Int32.ofInt q = y) (h : WP m (pc + 3) (p0 :: p1 :: p2 :: p3 :: p4 :: p5 :: p6 :: p7 :: p8 :: some (.int (x + y)) :: T) rest M z k n Φ) : WP m pc (p0 :: p1 :: p2 :: p3 :: p4 :: p5 :: p6 :: p7 :: p8 :: some (.int x) :: T) rest M z k n Φ := g_iinc d rfl (fun a h => by have h2 : some p8 = some a := h.2; cases h2; exact hp) hv rfl h
theorem g_ireturn {ty : FieldType} (hr : gr m = some ty) (hnr : narrow ty (.int x) = .int x) (d : dc m pc .ireturn 1) (hk : k ≤ gce m) (hn : n ≤ gsl m) (hΦ : Φ (.inl (some (.int x))) M z) : WP m pc L [.int x] M z k n Φ := by
  intro D dA base p l e s mid args below meth c C H locs ls hR hS hL
  obtain ⟨hx, hb, hml, hown, hts, hlocks, hl, hname, hret, hT, hG, hbase, htab⟩ := C
  refine W.widen hk hn (vx_ret ?_)
  exact W.zret hx hb (hret.trans hr) hnr (fun t ht hW => ⟨⟨_, M, z, rfl, hΦ, by rw [ht]; exact hR⟩, va_S.F hS ht⟩) (fun q hq => hS.2.2 q hq) d hlocks
theorem g_return (hr : gr m = none) (d : dc m pc .return_ 1) (hk : k ≤ gce m) (hn : n ≤ gsl m) (hΦ : Φ (.inl none) M z) : WP m pc L [] M z k n Φ := by
  intro D dA base p l e s mid args below meth c C H locs ls hR hS hL
  obtain ⟨hx, hb, hml, hown, hts, hlocks, hl, hname, hret, hT, hG, hbase, htab⟩ := C
  refine W.widen hk hn (vx_ret ?_)
  exact W.vret hx hb (hret.trans hr) (fun t ht hW => ⟨⟨_, M, z, rfl, hΦ, by rw [ht]; exact hR⟩, va_S.F hS ht⟩) (fun q hq => hS.2.2 q hq) d hlocks
theorem g_areturn {ty : String} (hr : gr m = some (.object ty)) (d : dc m pc .areturn 1) (hk : k ≤ gce m) (hn : n ≤ gsl m) (hΦ : Φ (.inl (some (.ref a))) M z) : WP m pc L [.ref a] M z k n Φ := by
  intro D dA base p l e s mid args below meth c C H locs ls hR hS hL
  obtain ⟨hx, hb, hml, hown, hts, hlocks, hl, hname, hret, hT, hG, hbase, htab⟩ := C
  refine W.widen hk hn (vx_ret ?_)
  exact W.aret hx hb (hret.trans hr) (Or.inl ⟨ty, rfl⟩) (Or.inr ⟨a, rfl⟩) (fun t ht hW => ⟨⟨_, M, z, rfl, hΦ, by rw [ht]; exact hR⟩, va_S.F hS ht⟩) (fun q hq => hS.2.2 q hq) d hlocks
theorem g_areturnN {ty : String} (hr : gr m = some (.object ty)) (d : dc m pc .areturn 1) (hk : k ≤ gce m) (hn : n ≤ gsl m) (hΦ : Φ (.inl (some .null)) M z) : WP m pc L [.null] M z k n Φ := by
  intro D dA base p l e s mid args below meth c C H locs ls hR hS hL
  obtain ⟨hx, hb, hml, hown, hts, hlocks, hl, hname, hret, hT, hG, hbase, htab⟩ := C
  refine W.widen hk hn (vx_ret ?_)
  exact W.aret hx hb (hret.trans hr) (Or.inl ⟨ty, rfl⟩) (Or.inl rfl) (fun t ht hW => ⟨⟨_, M, z, rfl, hΦ, by rw [ht]; exact hR⟩, va_S.F hS ht⟩) (fun q hq => hS.2.2 q hq) d hlocks
theorem g_freturn {u : UInt32} (hr : gr m = some .float) (d : dc m pc .freturn 1) (hk : k ≤ gce m) (hn : n ≤ gsl m) (hΦ : Φ (.inl (some (.float u))) M z) : WP m pc L [.float u] M z k n Φ := by
  intro D dA base p l e s mid args below meth c C H locs ls hR hS hL
  obtain ⟨hx, hb, hml, hown, hts, hlocks, hl, hname, hret, hT, hG, hbase, htab⟩ := C
  refine W.widen hk hn (vx_ret ?_)
  exact W.fret hx hb (hret.trans hr) (fun t ht hW => ⟨⟨_, M, z, rfl, hΦ, by rw [ht]; exact hR⟩, va_S.F hS ht⟩) (fun q hq => hS.2.2 q hq) d hlocks
theorem g_dreturn {u : UInt64} (hr : gr m = some .double) (d : dc m pc .dreturn 1) (hk : k ≤ gce m) (hn : n ≤ gsl m) (hΦ : Φ (.inl (some (.double u))) M z) : WP m pc L [.double u] M z k n Φ := by
  intro D dA base p l e s mid args below meth c C H locs ls hR hS hL
  obtain ⟨hx, hb, hml, hown, hts, hlocks, hl, hname, hret, hT, hG, hbase, htab⟩ := C
  refine W.widen hk hn (vx_ret ?_)
  exact W.dret hx hb (hret.trans hr) (fun t ht hW => ⟨⟨_, M, z, rfl, hΦ, by rw [ht]; exact hR⟩, va_S.F hS ht⟩) (fun q hq => hS.2.2 q hq) d hlocks
end ROWS
end
section
section HEAP
variable {m m' : GM} {pc z k n idx : Nat} {L : List (Option Value)} {rest : List Value} {M : Hp} {Φ : GR → Hp → Nat → Prop} {x y v : Int32} {a ci fk N : Nat} {fs : List Value} {w : Value}
/-- a field's link: the class of kind ci, its field fk, of type ty, final or not -/
def gFL (m : GM) (idx ci fk : Nat) (ty : FieldType) (fin : Bool) : Prop := ∃ (C : String) (T : u_T) (N : Nat) (t0 : Nat → FieldType), vwCl[ci]? = some (C, T, N) ∧ fk < N ∧ (T fk).1 = C ∧ (∀ w ∈ u_ws C T N, w ∈ gW) ∧ (∀ k, k < N → parseFieldDescriptor (T k).2.2.1 = some (t0 k)) ∧ (∀ a, a < N → ∀ b, b < N → a ≠ b → (T a).2.1 ≠ (T b).2.1) ∧ t0 fk = ty ∧ (T fk).2.2.2 = fin ∧
  ((Cond.fieldLink (gy m).cls idx C (T fk).2.1 (T fk).2.2.1 ∈ gW ∧ (fin = true → C = (gy m).cls)) ∨ (fin = false ∨ True) ∧ ∃ host, Cond.fieldLinkNest (gy m).cls idx C (T fk).2.1 (T fk).2.2.1 host ∈ gN)
theorem gAt_P {D : va_G} {dA : Nat → ClassId} {base : Nat} {H : Heap} (hR : GRep D dA base z M H) (ho : M a = some (.inr (ci, fs))) : va_P D vwCl [(a, .inr (ci, fs))] H := by
  intro k q hk
  cases k with
  | zero => simp at hk; subst hk; exact (hR.2 a _ ho).1
  | succ k => simp at hk
theorem g_get {ty : FieldType} {fin : Bool} (d : dc m pc (.getfield idx) 3) (lk : gFL m idx ci fk ty fin) (ho : M a = some (.inr (ci, fs))) (hv : fs[fk]? = some w) (h : WP m (pc + 3) L (w :: rest) M z k n Φ) : WP m pc L (.ref a :: rest) M z k n Φ := by
  intro D dA base p l e s mid args below meth c C H locs ls hR hS hL
  obtain ⟨Cn, T, N, t0, hc, hk, hC, hw, -, -, -, -, hl⟩ := lk
  have hT := C.2.2.2.2.2.2.2.2.2.1
  rcases hl with ⟨hl, -⟩ | ⟨-, host, hl⟩
  · exact va_get (own := (gy m).cls) (ref := Cn) C.1 C.2.1 C.2.2.2.2.1 hw C.2.2.2.1 hT.1 (gAt_P hR ho) 0 rfl hc fk hk (C.2.2.2.2.1 _ hl) (by rw [hC]; exact fun _ h => h) hv d (h D dA base p l e s mid args below meth c C H locs ls hR hS hL)
  · exact va_getN (own := (gy m).cls) (ref := Cn) C.1 C.2.1 C.2.2.2.2.1 hw C.2.2.2.1 hT.1 (gAt_P hR ho) 0 rfl hc fk hk (va_Nw.use rfl (hT.2.2.1 _ hl)) (by rw [hC]; exact fun _ h => h) hv d (h D dA base p l e s mid args below meth c C H locs ls hR hS hL)
theorem va_S_put {base : Nat} {H0 H H1 : Heap} {locs : List Loc} {a j : Nat} (h : va_S (gA base) H0 H locs) (z : H1.size = H.size) (oq : ∀ q : Nat, q ≠ a → H1[q]? = H[q]?) (ha : base ≤ a) : va_S (gA base) H0 H1 (locs ++ [⟨a, j⟩]) := h.put z oq ha
theorem g_put {ty : FieldType} {fs' : List Value} (d : dc m pc (.putfield idx) 3) (lk : gFL m idx ci fk ty false) (ho : M a = some (.inr (ci, fs))) (hn : narrow ty w = w) (hf : fits ty w = true) (hlt : fk < fs.length) (hfs : fs.set fk w = fs') (h : WP m (pc + 3) L rest (hpu M a (.inr (ci, fs'))) z k n Φ) : WP m pc L (w :: .ref a :: rest) M z k n Φ := by
  intro D dA base p l e s mid args below meth c C H locs ls hR hS hL
  subst hfs
  obtain ⟨Cn, T, N, t0, hc, hk, hC, hin, hty, hnm, ht0, hfin, hl⟩ := lk
  have hT := C.2.2.2.2.2.2.2.2.2.1
  have hK := hT.1
  have hts := C.2.2.2.2.1
  have hown := C.2.2.2.1
  have hap := va_apart (own := (gy m).cls) hts hin t0 hty hnm hK hc
  obtain ⟨r, h1, cell, q1, q2, q3, q4⟩ := (hR.2 a _ ho).1
  have hr : r = (Cn, T, N) := Option.some.inj (h1.symm.trans hc)
  subst hr
  obtain ⟨hSl, hfc, kC, hkC, hkind⟩ := hK.1 ci _ hc
  obtain ⟨cf, kf, fi, f, hi, hsl⟩ := hSl fk hk
  have hlay := hts _ (hin _ (u_in_lay hk))
  unfold u_lay at hlay
  rw [if_neg (by rw [hfin]; decide)] at hlay
  have hst := (u_facts hfc hkC (u_lays hts hin hk) hi).1
  have h6 := u_store hfc hkC hkind hlay hi (by rw [hty fk hk, ht0]) hn hf
  have hba := (hR.2 a _ ho).2 rfl
  have fin : ∀ H' : Heap, H'[a]? = some (cell.setSlot (D.2 ci fk) w) → H'.size = H.size → (∀ q, q ≠ a → H'[q]? = H[q]?) → W p l e (grm m) s mid args below meth c H' (locs ++ [⟨a, D.2 ci fk⟩]) k n (vx_MQ below (gQ Φ D dA base) (gX Φ D dA base) args s (gce m) (gsl m) (gA base)) (F0 mid (pc + 3) ls rest) := by
    intro H' e1 e2 e3
    refine h D dA base p l e s mid args below meth c C H' _ ls (hR.put ho rfl ?_ e2 e3) (va_S_put hS e2 e3 hba) hL
    exact ⟨_, hc, t_OB.to (V := updV (vp_V fs) fk w) ⟨_, e1, q2, q3, t_set q4 hap hk w⟩ (fun j _ => vp_updV_set hlt w j)⟩
  rcases hl with ⟨hl, -⟩ | ⟨-, host, hl⟩
  · refine W.putK C.1 C.2.1 (f := f) ⟨hown, hts _ hl, ⟨_, _, _, by rw [← hC]; exact hi⟩, hst⟩ (by rw [q2]; exact h6) q1 q3 (by rw [hsl]; exact k2_hasslot (q4 fk hk)) rfl rfl d fun H' e1 e2 e3 => ?_
    rw [hsl] at e1 ⊢
    exact fin H' e1 e2 e3
  · refine va_WputK C.1 C.2.1 (f := f) hown (va_Nw.use rfl (hT.2.2.1 _ hl)) (by rw [← hC]; exact hi) hst (by rw [q2]; exact h6) q1 q3 (by rw [hsl]; exact k2_hasslot (q4 fk hk)) rfl rfl d fun H' e1 e2 e3 => ?_
    rw [hsl] at e1 ⊢
    exact fin H' e1 e2 e3
theorem g_putF {ty : FieldType} {fs' : List Value} (d : dc m pc (.putfield idx) 3) (lk : gFL m idx ci fk ty true) (hini : (gy m).name = "<init>") (hnn : ∀ host C n d, Cond.fieldLinkNest (gy m).cls idx C n d host ∉ gN) (ho : M a = some (.inr (ci, fs))) (hn : narrow ty w = w) (hf : fits ty w = true) (hlt : fk < fs.length) (hfs : fs.set fk w = fs') (h : WP m (pc + 3) L rest (hpu M a (.inr (ci, fs'))) z k n Φ) : WP m pc L (w :: .ref a :: rest) M z k n Φ := by
  intro D dA base p l e s mid args below meth c C H locs ls hR hS hL
  subst hfs
  obtain ⟨Cn, T, N, t0, hc, hk, hC, hin, hty, hnm, ht0, hfin, hl⟩ := lk
  have hT := C.2.2.2.2.2.2.2.2.2.1
  have hname := C.2.2.2.2.2.2.2.1
  have hK := hT.1
  have hts := C.2.2.2.2.1
  have hown := C.2.2.2.1
  have hap := va_apart (own := (gy m).cls) hts hin t0 hty hnm hK hc
  obtain ⟨r, h1, cell, q1, q2, q3, q4⟩ := (hR.2 a _ ho).1
  have hr : r = (Cn, T, N) := Option.some.inj (h1.symm.trans hc)
  subst hr
  obtain ⟨hSl, hfc, kC, hkC, hkind⟩ := hK.1 ci _ hc
  obtain ⟨cf, kf, fi, f, hi, hsl⟩ := hSl fk hk
  have hlay := hts _ (hin _ (u_in_lay hk))
  unfold u_lay at hlay
  rw [if_pos hfin] at hlay
  have hst := (u_facts hfc hkC (u_lays hts hin hk) hi).1
  have hba := (hR.2 a _ ho).2 rfl
  rcases hl with ⟨hl, hCo⟩ | ⟨-, host, hl⟩
  · have hcf : mid.cls = cf := by
      obtain ⟨_, _, c', _, _, _, -, -, hf', -, -, -, hown2, -⟩ := Cond.laysFinal_spec hlay
      have e1 : c' = cf := by have := hi.symm.trans hf'; simp at this; exact this.1.symm
      rw [hC, hCo rfl] at hown2
      rw [← e1]; exact Option.some.inj (hown.symm.trans hown2)
    have h6 := u_fits hfc hkC hkind (Or.inr hlay) hi (by rw [hty fk hk, ht0]) hn hf
    refine W.putFinK C.1 C.2.1 hown (hts _ hl) (by rw [← hC]; exact hi) hst hcf (hname.trans hini) (by rw [q2]; exact h6) q1 q3 (by rw [hsl]; exact k2_hasslot (q4 fk hk)) rfl rfl d fun H' e1 e2 e3 => ?_
    rw [hsl] at e1 ⊢
    refine h D dA base p l e s mid args below meth c C H' _ ls (hR.put ho rfl ?_ e2 e3) (va_S_put hS e2 e3 hba) hL
    exact ⟨_, hc, t_OB.to (V := updV (vp_V fs) fk w) ⟨_, e1, q2, q3, t_set q4 hap hk w⟩ (fun j _ => vp_updV_set hlt w j)⟩
  · exact absurd hl (hnn host _ _ _)
/-! arrays -/
theorem gArr {D : va_G} {dA : Nat → ClassId} {U : State} (h : GT D dA U) (kd : Nat) (hk : kd < 6) : ArrOfT U (dA kd) (gty kd) ∧ va_RA U (dA kd) (gty kd) := by
  have h1 := h.1.2
  match kd, hk with
  | 0, _ => exact h1 0 _ rfl
  | 1, _ => exact h1 1 _ rfl
  | 2, _ => exact h1 2 _ rfl
  | 3, _ => exact h1 3 _ rfl
  | 4, _ => exact h1 4 _ rfl
  | 5, _ => exact h1 5 _ rfl
theorem gin {x : Int32} {N : Nat} (h : ¬ (x < 0 ∨ N ≤ x.toNatClampNeg)) : x.toNatClampNeg < N := Nat.not_le.mp fun q => h (Or.inr q)
theorem g_iald {f : Nat → Int32} (d : dc m pc .iaload 1) (ho : M a = some (aI N f)) (hin : ¬ (x < 0 ∨ N ≤ x.toNatClampNeg)) (h : WP m (pc + 1) L (.int (f x.toNatClampNeg) :: rest) M z k n Φ) : WP m pc L (.int x :: .ref a :: rest) M z k n Φ := by
  intro D dA base p l e s mid args below meth c C H locs ls hR hS hL
  have hT := C.2.2.2.2.2.2.2.2.2.1
  have hc := gAt.arr (by decide) (hR.2 a _ ho).1
  exact W.iald (v := .int (f x.toNatClampNeg)) C.1 C.2.1 hc ((gArr hT 0 (by decide)).1 N (fun j => .int (f j))) (fun q => by cases q) (by show ¬ (x < 0 ∨ (arrV _ _ _).slots.size ≤ _); rw [arrV_size]; exact hin) (by show (arrV _ _ _).slots[_]? = _; rw [arrV_read _ _ (gin hin)]) rfl rfl d (h D dA base p l e s mid args below meth c C H locs ls hR hS hL)
theorem g_cald {f : Nat → Int32} (d : dc m pc .caload 1) (ho : M a = some (aC N f)) (hin : ¬ (x < 0 ∨ N ≤ x.toNatClampNeg)) (h : WP m (pc + 1) L (.int (f x.toNatClampNeg) :: rest) M z k n Φ) : WP m pc L (.int x :: .ref a :: rest) M z k n Φ := by
  intro D dA base p l e s mid args below meth c C H locs ls hR hS hL
  have hT := C.2.2.2.2.2.2.2.2.2.1
  have hc := gAt.arr (by decide) (hR.2 a _ ho).1
  exact W.cald (v := .int (f x.toNatClampNeg)) C.1 C.2.1 hc ((gArr hT 1 (by decide)).1 N (fun j => .int (f j))) (fun q => by cases q) (by show ¬ (x < 0 ∨ (arrV _ _ _).slots.size ≤ _); rw [arrV_size]; exact hin) (by show (arrV _ _ _).slots[_]? = _; rw [arrV_read _ _ (gin hin)]) rfl rfl d (h D dA base p l e s mid args below meth c C H locs ls hR hS hL)
theorem g_zald {f : Nat → Int32} (d : dc m pc .baload 1) (ho : M a = some (aZ N f)) (hin : ¬ (x < 0 ∨ N ≤ x.toNatClampNeg)) (h : WP m (pc + 1) L (.int (f x.toNatClampNeg) :: rest) M z k n Φ) : WP m pc L (.int x :: .ref a :: rest) M z k n Φ := by
  intro D dA base p l e s mid args below meth c C H locs ls hR hS hL
  have hT := C.2.2.2.2.2.2.2.2.2.1
  have hc := gAt.arr (by decide) (hR.2 a _ ho).1
  exact W.zald (v := .int (f x.toNatClampNeg)) C.1 C.2.1 hc ((gArr hT 2 (by decide)).1 N (fun j => .int (f j))) (fun q => by cases q) (by show ¬ (x < 0 ∨ (arrV _ _ _).slots.size ≤ _); rw [arrV_size]; exact hin) (by show (arrV _ _ _).slots[_]? = _; rw [arrV_read _ _ (gin hin)]) rfl rfl d (h D dA base p l e s mid args below meth c C H locs ls hR hS hL)
theorem g_lald {f : Nat → Int64} (d : dc m pc .laload 1) (ho : M a = some (aJ N f)) (hin : ¬ (x < 0 ∨ N ≤ x.toNatClampNeg)) (h : WP m (pc + 1) L (.long (f x.toNatClampNeg) :: rest) M z k n Φ) : WP m pc L (.int x :: .ref a :: rest) M z k n Φ := by
  intro D dA base p l e s mid args below meth c C H locs ls hR hS hL
  have hT := C.2.2.2.2.2.2.2.2.2.1
  have hc := gAt.arr (by decide) (hR.2 a _ ho).1
  exact W.lald (v := .long (f x.toNatClampNeg)) C.1 C.2.1 hc ((gArr hT 3 (by decide)).1 N (fun j => .long (f j))) (fun q => by cases q) (by show ¬ (x < 0 ∨ (arrV _ _ _).slots.size ≤ _); rw [arrV_size]; exact hin) (by show (arrV _ _ _).slots[_]? = _; rw [arrV_read _ _ (gin hin)]) rfl rfl d (h D dA base p l e s mid args below meth c C H locs ls hR hS hL)
theorem g_aaldR {f : Nat → Option Nat} (d : dc m pc .aaload 1) (ho : M a = some (aR N f)) (hin : ¬ (x < 0 ∨ N ≤ x.toNatClampNeg)) (h : WP m (pc + 1) L (va_rf (f x.toNatClampNeg) :: rest) M z k n Φ) : WP m pc L (.int x :: .ref a :: rest) M z k n Φ := by
  intro D dA base p l e s mid args below meth c C H locs ls hR hS hL
  have hT := C.2.2.2.2.2.2.2.2.2.1
  have hc := gAt.arr (by decide) (hR.2 a _ ho).1
  exact W.aald (v := va_rf (f x.toNatClampNeg)) C.1 C.2.1 hc ((gArr hT 4 (by decide)).1 N (fun j => va_rf (f j))) rfl (fun q => by cases q) (by show ¬ (x < 0 ∨ (arrV _ _ _).slots.size ≤ _); rw [arrV_size]; exact hin) (by show (arrV _ _ _).slots[_]? = _; rw [arrV_read _ _ (gin hin)]) rfl rfl d (h D dA base p l e s mid args below meth c C H locs ls hR hS hL)
theorem g_aaldS {f : Nat → Option Nat} (d : dc m pc .aaload 1) (ho : M a = some (aS N f)) (hin : ¬ (x < 0 ∨ N ≤ x.toNatClampNeg)) (h : WP m (pc + 1) L (va_rf (f x.toNatClampNeg) :: rest) M z k n Φ) : WP m pc L (.int x :: .ref a :: rest) M z k n Φ := by
  intro D dA base p l e s mid args below meth c C H locs ls hR hS hL
  have hT := C.2.2.2.2.2.2.2.2.2.1
  have hc := gAt.arr (by decide) (hR.2 a _ ho).1
  exact W.aald (v := va_rf (f x.toNatClampNeg)) C.1 C.2.1 hc ((gArr hT 5 (by decide)).1 N (fun j => va_rf (f j))) rfl (fun q => by cases q) (by show ¬ (x < 0 ∨ (arrV _ _ _).slots.size ≤ _); rw [arrV_size]; exact hin) (by show (arrV _ _ _).slots[_]? = _; rw [arrV_read _ _ (gin hin)]) rfl rfl d (h D dA base p l e s mid args below meth c C H locs ls hR hS hL)
theorem g_iast {f : Nat → Int32} (d : dc m pc .iastore 1) (ho : M a = some (aI N f)) (hin : ¬ (x < 0 ∨ N ≤ x.toNatClampNeg)) (h : WP m (pc + 1) L rest (hpu M a (aI N (upd f x.toNatClampNeg y))) z k n Φ) : WP m pc L (.int y :: .int x :: .ref a :: rest) M z k n Φ := by
  intro D dA base p l e s mid args below meth c C H locs ls hR hS hL
  have hT := C.2.2.2.2.2.2.2.2.2.1
  have hc := gAt.arr (by decide) (hR.2 a _ ho).1
  refine W.iast C.1 C.2.1 hc ((gArr hT 0 (by decide)).1 N (fun j => .int (f j))) (fun q => by cases q) (by show ¬ (x < 0 ∨ (arrV _ _ _).slots.size ≤ _); rw [arrV_size]; exact hin) rfl rfl d fun H1 e1 e2 e3 => ?_
  refine h D dA base p l e s mid args below meth c C H1 _ ls (hR.put ho rfl (gAt.mk (by decide) ?_) e2 e3) (va_S_put hS e2 e3 ((hR.2 a _ ho).2 rfl)) hL
  rw [e1, vp_cell_i, vp_cell_i, arrV_store]
  congr 2
  funext q
  by_cases hq : q = x.toNatClampNeg
  · subst hq; simp [updV, upd]
  · simp [updV, upd, hq]
theorem g_zast {f : Nat → Int32} (d : dc m pc .bastore 1) (ho : M a = some (aZ N f)) (hin : ¬ (x < 0 ∨ N ≤ x.toNatClampNeg)) (hv : narrow .boolean (.int y) = .int y) (h : WP m (pc + 1) L rest (hpu M a (aZ N (upd f x.toNatClampNeg y))) z k n Φ) : WP m pc L (.int y :: .int x :: .ref a :: rest) M z k n Φ := by
  intro D dA base p l e s mid args below meth c C H locs ls hR hS hL
  have hT := C.2.2.2.2.2.2.2.2.2.1
  have hc := gAt.arr (by decide) (hR.2 a _ ho).1
  refine W.zast C.1 C.2.1 hc ((gArr hT 2 (by decide)).1 N (fun j => .int (f j))) (fun q => by cases q) (by show ¬ (x < 0 ∨ (arrV _ _ _).slots.size ≤ _); rw [arrV_size]; exact hin) rfl rfl d fun H1 e1 e2 e3 => ?_
  refine h D dA base p l e s mid args below meth c C H1 _ ls (hR.put ho rfl (gAt.mk (by decide) ?_) e2 e3) (va_S_put hS e2 e3 ((hR.2 a _ ho).2 rfl)) hL
  rw [e1, hv, vp_cell_i, vp_cell_i, arrV_store]
  congr 2
  funext q
  by_cases hq : q = x.toNatClampNeg
  · subst hq; simp [updV, upd]
  · simp [updV, upd, hq]
theorem g_cast {f : Nat → Int32} (d : dc m pc .castore 1) (ho : M a = some (aC N f)) (hin : ¬ (x < 0 ∨ N ≤ x.toNatClampNeg)) (hv : narrow .char (.int y) = .int y) (h : WP m (pc + 1) L rest (hpu M a (aC N (upd f x.toNatClampNeg y))) z k n Φ) : WP m pc L (.int y :: .int x :: .ref a :: rest) M z k n Φ := by
  intro D dA base p l e s mid args below meth c C H locs ls hR hS hL
  have hT := C.2.2.2.2.2.2.2.2.2.1
  have hc := gAt.arr (by decide) (hR.2 a _ ho).1
  refine W.cast C.1 C.2.1 hc ((gArr hT 1 (by decide)).1 N (fun j => .int (f j))) (fun q => by cases q) (by show ¬ (x < 0 ∨ (arrV _ _ _).slots.size ≤ _); rw [arrV_size]; exact hin) rfl rfl d fun H1 e1 e2 e3 => ?_
  refine h D dA base p l e s mid args below meth c C H1 _ ls (hR.put ho rfl (gAt.mk (by decide) ?_) e2 e3) (va_S_put hS e2 e3 ((hR.2 a _ ho).2 rfl)) hL
  rw [e1, hv, vp_cell_i, vp_cell_i, arrV_store]
  congr 2
  funext q
  by_cases hq : q = x.toNatClampNeg
  · subst hq; simp [updV, upd]
  · simp [updV, upd, hq]
theorem g_last {f : Nat → Int64} {yl : Int64} (d : dc m pc .lastore 1) (ho : M a = some (aJ N f)) (hin : ¬ (x < 0 ∨ N ≤ x.toNatClampNeg)) (h : WP m (pc + 1) L rest (hpu M a (aJ N (vp_updL f x.toNatClampNeg yl))) z k n Φ) : WP m pc L (.long yl :: .int x :: .ref a :: rest) M z k n Φ := by
  intro D dA base p l e s mid args below meth c C H locs ls hR hS hL
  have hT := C.2.2.2.2.2.2.2.2.2.1
  have hc := gAt.arr (by decide) (hR.2 a _ ho).1
  refine W.last C.1 C.2.1 hc ((gArr hT 3 (by decide)).1 N (fun j => .long (f j))) (fun q => by cases q) (by show ¬ (x < 0 ∨ (arrV _ _ _).slots.size ≤ _); rw [arrV_size]; exact hin) rfl rfl d fun H1 e1 e2 e3 => ?_
  refine h D dA base p l e s mid args below meth c C H1 _ ls (hR.put ho rfl (gAt.mk (by decide) ?_) e2 e3) (va_S_put hS e2 e3 ((hR.2 a _ ho).2 rfl)) hL
  rw [e1, vp_cell_l, vp_cell_l, arrV_store]
  congr 2
  funext q
  by_cases hq : q = x.toNatClampNeg
  · subst hq; simp [updV, vp_updL]
  · simp [updV, vp_updL, hq]
theorem g_aast0 {f : Nat → Option Nat} {kd b cj : Nat} {gs : List Value} {r : vw_C} (d : dc m pc .aastore 1) (hkd : kd < 6) (ho : M a = some (.inl (kd, N, .inr (.inr (.inr (.inr f)))))) (hty : gty kd = .object r.1) (hb : M b = some (.inr (cj, gs))) (hcj : vwCl[cj]? = some r) (hin : ¬ (x < 0 ∨ N ≤ x.toNatClampNeg)) (h : WP m (pc + 1) L rest (hpu M a (.inl (kd, N, .inr (.inr (.inr (.inr (va_up f x.toNatClampNeg (some b)))))))) z k n Φ) : WP m pc L (.ref b :: .int x :: .ref a :: rest) M z k n Φ := by
  intro D dA base p l e s mid args below meth c C H locs ls hR hS hL
  have hT := C.2.2.2.2.2.2.2.2.2.1
  have hk9 : kd ≠ 9 := by omega
  have hc := gAt.arr hk9 (hR.2 a _ ho).1
  have hA := gArr hT kd hkd
  rw [hty] at hA
  obtain ⟨r', hr', cellV, g1, g2, g3, -⟩ := (hR.2 b _ hb).1
  have hrr : r' = r := Option.some.inj (hr'.symm.trans hcj)
  subst hrr
  have hcls := (hT.1.1 cj r' hcj).2
  obtain ⟨kA, comp, k1, k2, k3, -⟩ := hA.2
  have hcomp : comp = D.1 cj := Option.some.inj (k3.symm.trans hcls.1)
  subst hcomp
  obtain ⟨kC, hkC, hkind⟩ := hcls.2
  have hro : gro (.inl (kd, N, .inr (.inr (.inr (.inr f))))) = false := by simp [gro, hk9]
  refine W.aast (cv := cellV) (k := kA) (kv := kC) (kcomp := kC) (comp := D.1 cj) (t := .object r'.1) C.1 C.2.1 hc (fun q h => by cases h) (fun q => by cases q) k1 k2 rfl hkC (by
      refine ⟨fun q => hin (Or.inl q), ?_⟩
      show _ < (arrV _ _ _).slots.size
      rw [arrV_size]; exact gin hin) g1 (by rw [g3]; exact fun q h => by cases h) (by rw [g2]; exact hkC) (by rw [g2]; exact va_assign hcls) rfl rfl d fun H1 e1 e2 e3 => ?_
  refine h D dA base p l e s mid args below meth c C H1 _ ls (hR.put ho hro (gAt.mk hk9 ?_) e2 e3) (va_S_put hS e2 e3 ((hR.2 a _ ho).2 hro)) hL
  rw [e1, vp_cell_q, vp_cell_q, arrV_store]
  congr 2
  funext q
  by_cases hq : q = x.toNatClampNeg
  · subst hq; simp [updV, va_up, va_rf]
  · simp [updV, va_up, hq]
theorem g_alenX {f : Nat → Int32} (d : dc m pc .arraylength 1) (ho : M a = some (aX N f)) (h : WP m (pc + 1) L (.int (Int32.ofNat N) :: rest) M z k n Φ) : WP m pc L (.ref a :: rest) M z k n Φ := by
  intro D dA base p l e s mid args below meth c C H locs ls hR hS hL
  have hT := C.2.2.2.2.2.2.2.2.2.1
  obtain ⟨scr, g, h0, h1, h2, h3, h4, h5, h6⟩ := (by simpa [gAt, aX] using (hR.2 a _ ho).1 : ∃ (scr : Cell) (g : Nat → Int32), f = g ∧ H[a]? = some scr ∧ scr.cls = dA 9 ∧ scr.vm ≠ .unknown ∧ (∀ k, scr.vm ≠ .statics k) ∧ scr.slots.size = N ∧ ∀ j : Nat, j < N → scr.slots[j]? = some (.int (g j)))
  have harr : s.isArrayOf scr .int := ⟨h4, by rw [h2]; exact (hT.2.1 0 (fun _ => .null)).2⟩
  exact W.alen (n := Int32.ofNat N) C.1 C.2.1 h1 harr (by rw [h5] <;> rfl) rfl rfl d (h D dA base p l e s mid args below meth c C H locs ls hR hS hL)
theorem g_ialdX {f : Nat → Int32} (d : dc m pc .iaload 1) (ho : M a = some (aX N f)) (hin : ¬ (x < 0 ∨ N ≤ x.toNatClampNeg)) (h : WP m (pc + 1) L (.int (f x.toNatClampNeg) :: rest) M z k n Φ) : WP m pc L (.int x :: .ref a :: rest) M z k n Φ := by
  intro D dA base p l e s mid args below meth c C H locs ls hR hS hL
  have hT := C.2.2.2.2.2.2.2.2.2.1
  obtain ⟨scr, g, h0, h1, h2, h3, h4, h5, h6⟩ := (by simpa [gAt, aX] using (hR.2 a _ ho).1 : ∃ (scr : Cell) (g : Nat → Int32), f = g ∧ H[a]? = some scr ∧ scr.cls = dA 9 ∧ scr.vm ≠ .unknown ∧ (∀ k, scr.vm ≠ .statics k) ∧ scr.slots.size = N ∧ ∀ j : Nat, j < N → scr.slots[j]? = some (.int (g j)))
  have harr : s.isArrayOf scr .int := ⟨h4, by rw [h2]; exact (hT.2.1 0 (fun _ => .null)).2⟩
  subst h0
  exact W.iald (v := .int (f x.toNatClampNeg)) C.1 C.2.1 h1 harr h3 (by rw [h5]; exact hin) (h6 _ (gin hin)) rfl rfl d (h D dA base p l e s mid args below meth c C H locs ls hR hS hL)
end HEAP
end
section
section CALLS
variable {m m' : GM} {pc z k n idx : Nat} {L : List (Option Value)} {rest : List Value} {M : Hp} {Φ Ψ : GR → Hp → Nat → Prop} {x y v : Int32} {a ci N : Nat} {fs : List Value} {w : Value}
/-- a class that is made: its link, its kind, its cells' first values -/
def gNW (m : GM) (idx ci N : Nat) (fs : List Value) : Prop := ∃ (C : String) (T : u_T) (t0 : Nat → FieldType), vwCl[ci]? = some (C, T, N) ∧ (∀ w ∈ u_ws C T N, w ∈ gW) ∧ (∀ k, k < N → parseFieldDescriptor (T k).2.2.1 = some (t0 k)) ∧ (∀ j, j < N → defaultValue (t0 j) = vp_V fs j) ∧ Cond.classLink (gy m).cls idx C ∈ gW ∧ Cond.instantiable C N ∈ gW ∧ Cond.initialized C ∈ gW
theorem g_new (d : dc m pc (.new idx) 3) (nw : gNW m idx ci N fs) (hk : k + 1 ≤ gce m) (hn : n + N ≤ gsl m) (h : WP m (pc + 3) L (.ref z :: rest) (hpu M z (.inr (ci, fs))) (z + 1) (k + 1) (n + N) Φ) : WP m pc L rest M z k n Φ := by
  intro D dA base p l e s mid args below meth c C H locs ls hR hS hL
  obtain ⟨Cn, T, t0, hc, hin, hty, hfs, w1, w2, w3⟩ := nw
  have hT := C.2.2.2.2.2.2.2.2.2.1
  have hts := C.2.2.2.2.1
  have hb := C.2.2.2.2.2.2.2.2.2.2.2.1
  have hKn := hT.1.1 ci _ hc
  have hz := hR.1
  refine W.newcK C.1 C.2.1 C.2.2.2.1 (hts _ w1) (hts _ w2) (hts _ w3) rfl d hk hn hKn.2.1 hz fun H1 kC hkC e1 z1 o1 => ?_
  have hbz : base ≤ z := by rw [← hz]; exact Nat.le_trans hb hS.1
  refine h D dA base p l e s mid args below meth c C H1 locs ls (hR.push hbz ⟨_, hc, (u_born t0 hts hin hKn hkC e1 hty).to hfs⟩ z1 o1) ⟨by rw [z1]; exact Nat.le_succ_of_le (by rw [← hz]; exact hS.1), fun q h1 h2 => (o1 q (by rw [← hz]; exact Nat.lt_of_lt_of_le h1 hS.1)).trans (hS.2.1 q h1 h2), hS.2.2⟩ hL
theorem gInj {U : State} {nm : String} {a b : ClassId} (h1 : U.vm.findClass nm = some a) (h2 : U.vm.findClass nm = some b) : a = b := Option.some.inj (h1.symm.trans h2)
theorem g_newarr {at_ : ArrayType} {kd N : Nat} {a0 : vp_A} (d : dc m pc (.newarray at_) 2) (hw : Cond.arrayClass (newarray.typeOf at_) ∈ gW) (hkd : kd < 4) (hg : gty kd = newarray.typeOf at_) (hN : x.toNatClampNeg = N) (hx0 : ¬ x < 0) (hby : N * componentBytes (newarray.typeOf at_) ≤ 536870912) (ha : ∀ cA : ClassId, vp_cell cA a0 = arrV cA N (fun _ => defaultValue (newarray.typeOf at_))) (hk : k + 1 ≤ gce m) (hn : n + N ≤ gsl m)
    (h : WP m (pc + 2) L (.ref z :: rest) (hpu M z (.inl (kd, a0))) (z + 1) (k + 1) (n + N) Φ) : WP m pc L (.int x :: rest) M z k n Φ := by
  intro D dA base p l e s mid args below meth c C H locs ls hR hS hL
  have hT := C.2.2.2.2.2.2.2.2.2.1
  have hts := C.2.2.2.2.1
  have hb := C.2.2.2.2.2.2.2.2.2.2.2.1
  have hz := hR.1
  have hbz : base ≤ z := by rw [← hz]; exact Nat.le_trans hb hS.1
  refine va_newaK C.1 C.2.1 (hts _ hw) rfl d rfl hx0 hN hby hk hn hz fun H1 cA e1 z1 o1 hAr hNm => ?_
  have hA := gArr hT kd (by omega)
  have hcA : cA = dA kd := by
    have h2 := hA.2
    rw [hg] at h2
    refine gInj hNm ?_
    cases at_ <;> exact h2
  subst hcA
  refine h D dA base p l e s mid args below meth c C H1 locs ls (hR.push hbz (gAt.mk (by omega) (by rw [ha]; exact e1)) z1 o1) ⟨by rw [z1]; exact Nat.le_succ_of_le (by rw [← hz]; exact hS.1), fun q h1 h2 => (o1 q (by rw [← hz]; exact Nat.lt_of_lt_of_le h1 hS.1)).trans (hS.2.1 q h1 h2), hS.2.2⟩ hL
theorem g_anew {kd N : Nat} {Cn : String} (d : dc m pc (.anewarray idx) 3) (hw : Cond.classLink (gy m).cls idx Cn ∈ gW) (hkd : kd = 4 ∨ kd = 5) (hg : gty kd = .object Cn) (hN : x.toNatClampNeg = N) (hx0 : ¬ x < 0) (hby : N * 4 ≤ 536870912) (hk : k + 1 ≤ gce m) (hn : n + N ≤ gsl m)
    (h : WP m (pc + 3) L (.ref z :: rest) (hpu M z (.inl (kd, N, .inr (.inr (.inr (.inr (fun _ => none))))))) (z + 1) (k + 1) (n + N) Φ) : WP m pc L (.int x :: rest) M z k n Φ := by
  intro D dA base p l e s mid args below meth c C H locs ls hR hS hL
  have hT := C.2.2.2.2.2.2.2.2.2.1
  have hts := C.2.2.2.2.1
  have hb := C.2.2.2.2.2.2.2.2.2.2.2.1
  have hz := hR.1
  have hbz : base ≤ z := by rw [← hz]; exact Nat.le_trans hb hS.1
  subst hN
  have hover : (Cond.arrayOver (.object Cn)).before args s = true := by
    rcases hkd with rfl | rfl
    · have : Cn = "RugPunch$Rug" := by have := hg; simp [gty] at this; exact this.symm
      subst this
      exact va_AO.use hT.2.2.2.2.1
    · have : Cn = "RugPunch$Script" := by have := hg; simp [gty] at this; exact this.symm
      subst this
      exact va_AO.use hT.2.2.2.2.2.1
  refine W.anew C.1 C.2.1 C.2.2.2.1 (hts _ hw) hover rfl d rfl hx0 hby hk hn fun cA kA comp f1 f2 f3 f4 => ?_
  have hA := gArr hT kd (by omega)
  rw [hg] at hA
  have hcA : cA = dA kd := by
    obtain ⟨kA', comp', -, -, -, h4⟩ := hA.2
    exact gInj f1 h4
  subst hcA
  rw [hz]
  refine h D dA base p l e s mid args below meth c C _ locs ls (hR.push hbz (gAt.mk (by omega) ?_) (by rw [Array.size_push, hz]) ?_) ⟨by rw [Array.size_push]; exact Nat.le_succ_of_le hS.1, fun q h1 h2 => ?_, hS.2.2⟩ hL
  · rw [← hz, Array.getElem?_push_size, vp_cell_q]
    rw [show (fun j : Nat => va_rf ((fun _ => none) j)) = (fun _ : Nat => Value.null) from rfl, ← arrV_new]
  · intro q hq
    rw [Array.getElem?_push, if_neg (by omega)]
  · rw [Array.getElem?_push, if_neg (by have := hS.1; omega)]
    exact hS.2.1 q h1 h2
/-! throwing -/
abbrev gXn : List String := ["java/lang/RuntimeException", "java/lang/Exception"]
def gTH (m : GM) (ik is ic : Nat) (E : String) (text : String) : Prop := Cond.classLink (gy m).cls ik E ∈ gW ∧ Cond.initialized E ∈ gW ∧ ((gy m).cls, is, text) ∈ gS ∧ (∀ w ∈ vx_atS (gy m).cls ic E gXn, w ∈ gW ∨ w ∈ gO) ∧ Bundle.fit E = true ∧ (∀ w ∈ Cond.classLink (gy m).cls ik E :: Cond.initialized E :: vx_atS (gy m).cls ic E gXn, vx_ot w = true)
theorem gO_tab : ∀ w ∈ gO, w.onTables = true := fun w hw => by
  have hg := (List.mem_filter.mp hw).2
  cases w <;> first | rfl | (exact absurd hg (by simp [gothr]))
theorem g_throw {ik is ic : Nat} {E text : String} (th : gTH m ik is ic E text) (hh : ghh m = []) (d0 : dc m pc (.new ik) 3) (d3 : dc m (pc + 3) .dup 1)
    (d4 : (dc m (pc + 4) (.ldc is) 2 ∧ dc m (pc + 6) (.invokespecial ic) 3 ∧ dc m (pc + 9) .athrow 1) ∨ (dc m (pc + 4) (.ldc_w is) 3 ∧ dc m (pc + 7) (.invokespecial ic) 3 ∧ dc m (pc + 10) .athrow 1))
    (hf : 6 ≤ gfr m) (hl : (rest.map fun v => v.category).sum + 82 ≤ glo m) (hk : k + 1 ≤ gce m) (hn : n + 6 ≤ gsl m) (hΦ : ∀ z', z ≤ z' → Φ (.inr E) M z') : WP m pc L rest M z k n Φ := by
  intro D dA base p l e s mid args below meth c C H locs ls hR hS hL
  obtain ⟨hx, hb, hml, hown, hts, hlocks, htr, hname, hret, hT, hG, hbase, htab⟩ := C
  obtain ⟨t1, t2, t3, t4, t5, t6⟩ := th
  obtain ⟨sa, hsa⟩ := hT.2.2.2.1 _ t3
  have hat : ∀ w ∈ vx_atS (gy m).cls ic E gXn, w.before args s = true := fun w hw => (t4 w hw).elim (fun h => hts w h) (fun h => va_Nw.use (gO_tab w h) (hT.2.2.2.2.2.2.1 w h))
  have htab' : ∀ pc x, x ∈ c.exceptionTable.toList → covers x pc = false := by rw [hh] at htab; exact fun pc x hx => (htab x hx).elim
  have hX : ∀ t : State, s.vm.Alike t.vm → H.size ≤ t.heap.size → (∀ q : Nat, q < H.size → t.heap[q]? = H[q]?) → gX Φ D dA base E s t := fun t _ h1 h2 => ⟨⟨M, t.heap.size, hΦ _ (by rw [← hR.1]; exact h1), hR.grow h1 h2⟩, Nat.le_trans hS.1 h1, fun q g1 g2 => (h2 q (Nat.lt_of_lt_of_le g1 hS.1)).trans (hS.2.1 q g1 g2)⟩
  rcases d4 with ⟨d4, d6, d9⟩ | ⟨d4, d7, d10⟩
  · exact vx_throwS hx hb htr (own := (gy m).cls) (text := text) (names := gXn) hown t5 (by decide) (hts _ t1) (hts _ t2) hsa hat t6 hG.1 hG.2 hS (by rw [hL.2.1, hml]) d0 d3 d4 d6 d9 (htab' _) (show 2 + 3 < gfr m by omega) (by show _ + (13 * (2 + 1) + 43) ≤ glo m; omega) hk hn hlocks hX (fun z hz => hS.2.2 z hz) hk hn
  · exact vx_throwSW hx hb htr (own := (gy m).cls) (text := text) (names := gXn) hown t5 (by decide) (hts _ t1) (hts _ t2) hsa hat t6 hG.1 hG.2 hS (by rw [hL.2.1, hml]) d0 d3 d4 d7 d10 (htab' _) (show 2 + 3 < gfr m by omega) (by show _ + (13 * (2 + 1) + 43) ≤ glo m; omega) hk hn hlocks hX (fun z hz => hS.2.2 z hz) hk hn
/-! calls -/
def gVir (m m' : GM) (idx ci nA : Nat) : Prop := gCal m' nA ∧ ghh m' = [] ∧ gIn m' ∧ Cond.methodLink (gy m).cls idx (gy m') ∈ gW ∧ ∃ r, vwCl[ci]? = some r ∧ r.1 = (gy m').cls
def gSta (m m' : GM) (idx nA : Nat) : Prop := gCal m' nA ∧ ghh m' = [] ∧ Cond.static (gy m') ∈ gW ∧ gML m idx (gy m')
def gIni (m m' : GM) (idx nA : Nat) : Prop := gCal m' nA ∧ ghh m' = [] ∧ gr m' = none ∧ (gy m').name = "<init>" ∧ Cond.instanceMethod (gy m') ∈ gW ∧ gML m idx (gy m')
theorem g_vir {as st : List Value} {nA : Nat} (d : dc m pc (.invokevirtual idx) 3) (lk : gVir m m' idx ci nA) (bud : gBud m m' = true) (hst : st = as.reverse ++ .ref a :: rest) (hnA : as.length = nA) (ho : M a = some (.inr (ci, fs))) (hcat : (rest.map fun v => v.category).sum ≤ 8) (hk : k + gce m' ≤ gce m) (hn : n + gsl m' ≤ gsl m)
    (call : Runs m' (.ref a :: as) M z Ψ) (kk : ∀ r M' z', Ψ (.inl r) M' z' → WP m (pc + 3) L (r.toList ++ rest) M' z' (k + gce m') (n + gsl m') Φ) (kx : ∀ E M' z', Ψ (.inr E) M' z' → WX m pc L rest M' z' (k + gce m') (n + gsl m') E Φ) : WP m pc L st M z k n Φ := by
  intro D dA base p l e s mid args below meth c C H locs ls hR hS hL
  subst hnA
  obtain ⟨c1, c2, c3, c4, r, c5, c6⟩ := lk
  exact g_call C hS hL (g_runV C hR hS hL.2.1 call c1 c2 c3 c4 bud ho c5 c6 hst hcat hk hn d) kk kx
theorem g_sta {as st : List Value} {nA : Nat} (d : dc m pc (.invokestatic idx) 3) (lk : gSta m m' idx nA) (bud : gBud m m' = true) (hst : st = as.reverse ++ rest) (hnA : as.length = nA) (hcat : (rest.map fun v => v.category).sum ≤ 8) (hk : k + gce m' ≤ gce m) (hn : n + gsl m' ≤ gsl m)
    (call : Runs m' as M z Ψ) (kk : ∀ r M' z', Ψ (.inl r) M' z' → WP m (pc + 3) L (r.toList ++ rest) M' z' (k + gce m') (n + gsl m') Φ) (kx : ∀ E M' z', Ψ (.inr E) M' z' → WX m pc L rest M' z' (k + gce m') (n + gsl m') E Φ) : WP m pc L st M z k n Φ := by
  intro D dA base p l e s mid args below meth c C H locs ls hR hS hL
  subst hnA
  obtain ⟨c1, c2, c3, c4⟩ := lk
  exact g_call C hS hL (g_runS C hR hS hL.2.1 call c1 c2 c3 c4 bud hst hcat hk hn d) kk kx
theorem g_ini {as st : List Value} {nA : Nat} (d : dc m pc (.invokespecial idx) 3) (lk : gIni m m' idx nA) (bud : gBud m m' = true) (hst : st = as.reverse ++ .ref a :: rest) (hnA : as.length = nA) (hcat : (rest.map fun v => v.category).sum ≤ 8) (hk : k + gce m' ≤ gce m) (hn : n + gsl m' ≤ gsl m)
    (call : Runs m' (.ref a :: as) M z Ψ) (kk : ∀ r M' z', Ψ (.inl r) M' z' → WP m (pc + 3) L (r.toList ++ rest) M' z' (k + gce m') (n + gsl m') Φ) (kx : ∀ E M' z', Ψ (.inr E) M' z' → WX m pc L rest M' z' (k + gce m') (n + gsl m') E Φ) : WP m pc L st M z k n Φ := by
  intro D dA base p l e s mid args below meth c C H locs ls hR hS hL
  subst hnA
  obtain ⟨c1, c2, c3, c4, c5, c6⟩ := lk
  exact g_call C hS hL (g_runI C hR hS hL.2.1 call c1 c2 c3 c4 c5 c6 bud hst hcat hk hn d) kk kx
theorem g_objinit (d : dc m pc (.invokespecial idx) 3) (hl : Cond.methodLink (gy m).cls idx Lib.objectInit ∈ gW) (hi : Cond.instanceMethod Lib.objectInit ∈ gW) (hcd : Cond.code Lib.objectInit ⟨#[0xb1]⟩ 1 none ∈ gW) (hf : 1 ≤ gfr m) (hlo : (rest.map fun v => v.category).sum + 12 ≤ glo m) (h : WP m (pc + 3) L rest M z k n Φ) : WP m pc L (.ref a :: rest) M z k n Φ := by
  intro D dA base p l e s mid args below meth c C H locs ls hR hS hL
  have hts := C.2.2.2.2.1
  exact W.objInit C.1 C.2.1 C.2.2.2.1 (hts _ hl) (hts _ hi) (hts _ hcd) rfl (by rw [show (F0 mid pc ls (.ref a :: rest)).locals = ls from rfl, hL.2.1, C.2.2.1]) rfl d hf (by show 2 * 0 + _ + 12 ≤ glo m; omega) (h D dA base p l e s mid args below meth c C H locs ls hR hS hL)
/-! a thrown exception -/
theorem x_out {E : String} (hh : ghh m = []) (hk : k ≤ gce m) (hn : n ≤ gsl m) (hΦ : Φ (.inr E) M z) : WX m pc L rest M z k n E Φ := by
  intro D dA base p l e s mid args below meth c C H locs ls q ce hR hS hL hq hv hcl
  obtain ⟨hx, hb, hml, hown, hts, hlocks, htr, hname, hret, hT, hG, hbase, htab⟩ := C
  refine vx_out (E := E) (by rw [hh] at htab; exact fun x hx => (htab x hx).elim) hlocks hq hv hcl (fun t ht _ => ⟨⟨M, z, hΦ, by rw [ht]; exact hR⟩, va_S.F hS ht⟩) (fun z hz => hS.2.2 z hz) hk hn
theorem x_catch {E : String} (pre : List ExceptionTableEntry) (xe : ExceptionTableEntry) (suf : List ExceptionTableEntry) (hne : ghh m ≠ []) (hsp : tableOf (ghh m) = pre ++ xe :: suf) (hpass : ∀ q ∈ pre, q.catchType ≠ 0 ∧ ∃ nm, Cond.classLink (gy m).cls q.catchType nm ∈ gW ∧ (E, nm) ∈ gNC) (hcov : covers xe pc = true) (h0 : xe.catchType ≠ 0) (hlk : Cond.classLink (gy m).cls xe.catchType E ∈ gW) (hca : Cond.castable E E ∈ gO)
    (h : ∀ q, WP m xe.handlerPc L [.ref q] M z k n Φ) : WX m pc L rest M z k n E Φ := by
  intro D dA base p l e s mid args below meth c C H locs ls q ce hR hS hL hq hv hcl
  have C' := C
  obtain ⟨hx, hb, hml, hown, hts, hlocks, htr, hname, hret, hT, hG, hbase, htab⟩ := C'
  have ht : c.exceptionTable.toList = tableOf (ghh m) := by
    cases hg : ghh m with
    | nil => exact absurd hg hne
    | cons a t => rw [hg] at htab; exact htab
  refine vx_catch (own := (gy m).cls) (name := E) hown pre xe suf (ht.trans hsp) (fun z hz => Or.inr ?_) hcov h0 (hts _ hlk) (va_Nw.use rfl (hT.2.2.2.2.2.2.1 _ hca)) hq hv hcl (h q D dA base p l e s mid args below meth c C H locs ls hR hS hL)
  obtain ⟨g1, nm, g2, g3⟩ := hpass z hz
  exact ⟨g1, nm, hts _ g2, hT.2.2.2.2.2.2.2 _ g3⟩
/-! System.arraycopy -/
def gAC (m : GM) (idx : Nat) : Prop := Cond.methodLink (gy m).cls idx arraycopyName ∈ gW ∧ Cond.native arraycopyName ∈ gW ∧ Cond.static arraycopyName ∈ gW ∧ Cond.initialized "java/lang/System" ∈ gW
theorem g_copy {kd a0 n0 n1 sp dp nn : Nat} {f g : Nat → Int32} (hkd : kd < 2) (d : dc m pc (.invokestatic idx) 3) (lk : gAC m idx) (ho0 : M a0 = some (.inl (kd, n0, .inl f))) (ho : M a = some (.inl (kd, n1, .inl g))) (hsp : sp + nn ≤ n0) (hdp : dp + nn ≤ n1) (h31 : n0 < 2 ^ 31 ∧ n1 < 2 ^ 31) (hfit : ∀ i, i < nn → fits (gty kd) (.int (f (sp + i))) = true) (hf : 1 ≤ gfr m) (hl : (rest.map fun v => v.category).sum + 18 ≤ glo m)
    (h : WP m (pc + 3) L rest (hpu M a (.inl (kd, n1, .inl (va_cpy f g sp dp nn)))) z k n Φ) : WP m pc L (.int (nI nn) :: .int (nI dp) :: .ref a :: .int (nI sp) :: .ref a0 :: rest) M z k n Φ := by
  intro D dA base p l e s mid args below meth c C H locs ls hR hS hL
  have hT := C.2.2.2.2.2.2.2.2.2.1
  have hts := C.2.2.2.2.1
  obtain ⟨l1, l2, l3, l4⟩ := lk
  have hA := gArr hT kd (by omega)
  have hk9 : kd ≠ 9 := by omega
  have hc0 := gAt.arr hk9 (hR.2 a0 _ ho0).1
  have hc1 := gAt.arr hk9 (hR.2 a _ ho).1
  have hprim : refKind (gty kd) = false := by
    match kd, hkd with
    | 0, _ => rfl
    | 1, _ => rfl
  have e1 : ∀ j : Nat, j < 2 ^ 31 → (nI j).toNatClampNeg = j := fun j hj => nI_clamp hj
  have e2 : ∀ j : Nat, j < 2 ^ 31 → ¬ (nI j) < 0 := fun j hj => by
    simp only [Int32.lt_iff_toInt_lt, Int32.toInt_zero, nI_toInt hj]; omega
  have e3 : ∀ j : Nat, j < 2 ^ 31 → (nI j).toInt = (j : Int) := fun j hj => nI_toInt hj
  intro T hTh X
  obtain ⟨-, k0, hk0, cm0, hkk0⟩ := hA.1 n0 (fun j => .int (f j))
  obtain ⟨-, k1, hk1, cm1, hkk1⟩ := hA.1 n1 (fun j => .int (g j))
  obtain ⟨vm', X', step⟩ := X.arraycopy C.1 C.2.2.2.1 (hts _ l1) (hts _ l2) (hts _ l3) (hts _ l4) (src := a0) (dst := a) (cs := vp_cell (dA kd) (n0, .inl f)) (cd := vp_cell (dA kd) (n1, .inl g)) (srcPos := nI sp) (destPos := nI dp) (n := nI nn) (by rw [hTh]; exact hc0) (by rw [hTh]; exact hc1)
    (fun _ h => by cases h) (fun _ h => by cases h) (fun h => by cases h) (fun h => by cases h) hk0 hk1 hkk0 hkk1 (by simp [hprim]) (e2 _ (by omega)) (e2 _ (by omega)) (e2 _ (by omega))
    (by rw [e3 sp (by omega), e3 nn (by omega)]; show ¬ _ > ((arrV (dA kd) n0 (fun j => .int (f j))).slots.size : Int); rw [arrV_size]; omega)
    (by rw [e3 dp (by omega), e3 nn (by omega)]; show ¬ _ > ((arrV (dA kd) n1 (fun j => .int (g j))).slots.size : Int); rw [arrV_size]; omega)
    (fun vm₁ _ i hi => by
      rw [e1 nn (by omega)] at hi
      have e : (vp_cell (dA kd) (n0, .inl f)).slots.getD ((nI sp).toNatClampNeg + i) .null = .int (f (sp + i)) := by
        rw [e1 sp (by omega)]
        show (arrV (dA kd) n0 (fun j => .int (f j))).slots.getD _ _ = _
        rw [Array.getD_eq_getD_getElem?, arrV_read _ _ (by omega)]
        rfl
      refine ⟨?_, ?_⟩
      · rw [e]
        exact hfit i hi
      · rw [e]
        exact trivial)
    (g := F0 mid pc ls (.int (nI nn) :: .int (nI dp) :: .ref a :: .int (nI sp) :: .ref a0 :: rest)) rfl (by rw [show (F0 mid pc ls (.int (nI nn) :: .int (nI dp) :: .ref a :: .int (nI sp) :: .ref a0 :: rest)).locals = ls from rfl, hL.2.1, C.2.2.1]) (rest := rest) rfl (by rw [C.2.1]; exact d) hf (by show 2 * 0 + _ + (nativeFrameWords "java/lang/System" "arraycopy" 5 + 11) ≤ glo m; rw [show nativeFrameWords "java/lang/System" "arraycopy" 5 = 7 from by decide]; omega)
  have ee : copied (vp_cell (dA kd) (n0, .inl f)) (vp_cell (dA kd) (n1, .inl g)) (nI sp) (nI dp) (nI nn) = vp_cell (dA kd) (n1, .inl (va_cpy f g sp dp nn)) := by
    have h9 := va_copied (fun z => Value.int z) (dA kd) (dA kd) (n1 := n1) f g hsp
    show (arrV (dA kd) n1 (fun j => .int (g j))).storeRun (nI dp).toNatClampNeg ((arrV (dA kd) n0 (fun j => .int (f j))).stretch (nI sp).toNatClampNeg (nI nn).toNatClampNeg) = _
    rw [e1 sp (by omega), e1 dp (by omega), e1 nn (by omega)]
    exact h9
  rw [ee] at X' step
  have hlt : a < H.size := (Array.getElem?_eq_some_iff.mp hc1).1
  have hheap : ((T.setVm vm').setCell a (vp_cell (dA kd) (n1, .inl (va_cpy f g sp dp nn)))).heap = H.setIfInBounds a (vp_cell (dA kd) (n1, .inl (va_cpy f g sp dp nn))) := by rw [← hTh]; rfl
  have oq : ∀ q : Nat, q ≠ a → (H.setIfInBounds a (vp_cell (dA kd) (n1, .inl (va_cpy f g sp dp nn))))[q]? = H[q]? := fun q hq => by simp [Array.getElem?_setIfInBounds, Ne.symm hq]
  have hro : gro (.inl (kd, n1, .inl g)) = false := by simp [gro, hk9]
  have hba := (hR.2 a _ ho).2 hro
  obtain ⟨t, a1, b1⟩ := h D dA base p l e s mid args below meth c C _ _ ls (hR.put ho hro (gAt.mk hk9 (show (H.setIfInBounds a _)[a]? = some _ by simp [Array.getElem?_setIfInBounds, hlt])) (by simp) oq) ⟨by simp; exact hS.1, fun q g1 g2 => by
      rw [oq q (fun e => g2 (by rw [e]; exact hba))]
      exact hS.2.1 q g1 g2, fun q hq => by
      rcases List.mem_append.mp hq with h | h
      · exact hS.2.2 q h
      · obtain ⟨z, -, hz⟩ := List.mem_map.mp h
        rw [← hz]
        exact hba⟩ hL _ hheap X'
  exact ⟨t, step t a1, b1⟩
end CALLS
end
