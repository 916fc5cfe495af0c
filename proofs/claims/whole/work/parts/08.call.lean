section CALLS
variable {m m' : GM} {pc z k n idx : Nat} {L : List (Option Value)} {rest : List Value} {M : Hp} {Φ Ψ : GR → Hp → Nat → Prop} {x y v : Int32} {a ci N : Nat} {fs : List Value} {w : Value}
/-- a class that is made: its link, its kind, its cells' first values -/
def gNW (m : GM) (idx ci N : Nat) (fs : List Value) : Prop := ∃ (C : String) (T : u_T) (t0 : Nat → FieldType), vwCl[ci]? = some (C, T, N) ∧ (∀ w ∈ u_ws C T N, w ∈ gW) ∧ (∀ k, k < N → parseFieldDescriptor (T k).2.2.1 = some (t0 k)) ∧ (∀ j, j < N → defaultValue (t0 j) = vp_V fs j) ∧ Cond.classLink (gy m).cls idx C ∈ gW ∧ Cond.instantiable C N ∈ gW ∧ Cond.initialized C ∈ gW
theorem g_new (d : dc m pc (.new idx) 3) (nw : gNW m idx ci N fs) (hk : k + 1 ≤ gce m) (hn : n + N ≤ gsl m) (h : WP m (pc + 3) L (.ref z :: rest) (hpu M z (.inr (ci, fs))) (z + 1) (k + 1) (n + N) Φ) : WP m pc L rest M z k n Φ := by
  intro D dA base p l e s mid args below meth c C H locs ls hR hS hL
  obtain ⟨Cn, T, t0, hc, hin, hty, hfs, w1, w2, w3⟩ := nw
  have hT := C.2.2.2.2.2.2.2.2.2.1
  have hts := C.2.2.2.2.1
  have hb := C.2.2.2.2.2.2.2.2.2.2.2.1
  have hKn := hT.1.1 ci _ hc
  have hz := hR.1
  refine W.newcK C.1 C.2.1 C.2.2.2.1 (hts _ w1) (hts _ w2) (hts _ w3) rfl d hk hn hKn.2.1 hz fun H1 kC hkC e1 z1 o1 => ?_
  have hbz : base ≤ z := by rw [← hz]; exact Nat.le_trans hb hS.1
  refine h D dA base p l e s mid args below meth c C H1 locs ls (hR.push hbz ⟨_, hc, (u_born t0 hts hin hKn hkC e1 hty).to hfs⟩ z1 o1) ⟨by rw [z1]; exact Nat.le_succ_of_le (by rw [← hz]; exact hS.1), fun q h1 h2 => (o1 q (by rw [← hz]; exact Nat.lt_of_lt_of_le h1 hS.1)).trans (hS.2.1 q h1 h2), hS.2.2⟩ hL
theorem gInj {U : State} {nm : String} {a b : ClassId} (h1 : U.vm.findClass nm = some a) (h2 : U.vm.findClass nm = some b) : a = b := Option.some.inj (h1.symm.trans h2)
theorem g_newarr {at_ : ArrayType} {kd N : Nat} {a0 : vp_A} (d : dc m pc (.newarray at_) 2) (hw : Cond.arrayClass (newarray.typeOf at_) ∈ gW) (hkd : kd < 4) (hg : gty kd = newarray.typeOf at_) (hN : x.toNatClampNeg = N) (hx0 : ¬ x < 0) (hby : N * componentBytes (newarray.typeOf at_) ≤ 536870912) (ha : ∀ cA : ClassId, vp_cell cA a0 = arrV cA N (fun _ => defaultValue (newarray.typeOf at_))) (hk : k + 1 ≤ gce m) (hn : n + N ≤ gsl m)
    (h : WP m (pc + 2) L (.ref z :: rest) (hpu M z (.inl (kd, a0))) (z + 1) (k + 1) (n + N) Φ) : WP m pc L (.int x :: rest) M z k n Φ := by
  intro D dA base p l e s mid args below meth c C H locs ls hR hS hL
  have hT := C.2.2.2.2.2.2.2.2.2.1
  have hts := C.2.2.2.2.1
  have hb := C.2.2.2.2.2.2.2.2.2.2.2.1
  have hz := hR.1
  have hbz : base ≤ z := by rw [← hz]; exact Nat.le_trans hb hS.1
  refine va_newaK C.1 C.2.1 (hts _ hw) rfl d rfl hx0 hN hby hk hn hz fun H1 cA e1 z1 o1 hAr hNm => ?_
  have hA := gArr hT kd (by omega)
  have hcA : cA = dA kd := by
    have h2 := hA.2
    rw [hg] at h2
    refine gInj hNm ?_
    cases at_ <;> exact h2
  subst hcA
  refine h D dA base p l e s mid args below meth c C H1 locs ls (hR.push hbz (gAt.mk (by omega) (by rw [ha]; exact e1)) z1 o1) ⟨by rw [z1]; exact Nat.le_succ_of_le (by rw [← hz]; exact hS.1), fun q h1 h2 => (o1 q (by rw [← hz]; exact Nat.lt_of_lt_of_le h1 hS.1)).trans (hS.2.1 q h1 h2), hS.2.2⟩ hL
theorem g_anew {kd N : Nat} {Cn : String} (d : dc m pc (.anewarray idx) 3) (hw : Cond.classLink (gy m).cls idx Cn ∈ gW) (hkd : kd = 4 ∨ kd = 5) (hg : gty kd = .object Cn) (hN : x.toNatClampNeg = N) (hx0 : ¬ x < 0) (hby : N * 4 ≤ 536870912) (hk : k + 1 ≤ gce m) (hn : n + N ≤ gsl m)
    (h : WP m (pc + 3) L (.ref z :: rest) (hpu M z (.inl (kd, N, .inr (.inr (.inr (.inr (fun _ => none))))))) (z + 1) (k + 1) (n + N) Φ) : WP m pc L (.int x :: rest) M z k n Φ := by
  intro D dA base p l e s mid args below meth c C H locs ls hR hS hL
  have hT := C.2.2.2.2.2.2.2.2.2.1
  have hts := C.2.2.2.2.1
  have hb := C.2.2.2.2.2.2.2.2.2.2.2.1
  have hz := hR.1
  have hbz : base ≤ z := by rw [← hz]; exact Nat.le_trans hb hS.1
  subst hN
  have hover : (Cond.arrayOver (.object Cn)).before args s = true := by
    rcases hkd with rfl | rfl
    · have : Cn = "RugPunch$Rug" := by have := hg; simp [gty] at this; exact this.symm
      subst this
      exact va_AO.use hT.2.2.2.2.1
    · have : Cn = "RugPunch$Script" := by have := hg; simp [gty] at this; exact this.symm
      subst this
      exact va_AO.use hT.2.2.2.2.2.1
  refine W.anew C.1 C.2.1 C.2.2.2.1 (hts _ hw) hover rfl d rfl hx0 hby hk hn fun cA kA comp f1 f2 f3 f4 => ?_
  have hA := gArr hT kd (by omega)
  rw [hg] at hA
  have hcA : cA = dA kd := by
    obtain ⟨kA', comp', -, -, -, h4⟩ := hA.2
    exact gInj f1 h4
  subst hcA
  rw [hz]
  refine h D dA base p l e s mid args below meth c C _ locs ls (hR.push hbz (gAt.mk (by omega) ?_) (by rw [Array.size_push, hz]) ?_) ⟨by rw [Array.size_push]; exact Nat.le_succ_of_le hS.1, fun q h1 h2 => ?_, hS.2.2⟩ hL
  · rw [← hz, Array.getElem?_push_size, vp_cell_q]
    rw [show (fun j : Nat => va_rf ((fun _ => none) j)) = (fun _ : Nat => Value.null) from rfl, ← arrV_new]
  · intro q hq
    rw [Array.getElem?_push, if_neg (by omega)]
  · rw [Array.getElem?_push, if_neg (by have := hS.1; omega)]
    exact hS.2.1 q h1 h2
/-! throwing -/
abbrev gXn : List String := ["java/lang/RuntimeException", "java/lang/Exception"]
def gTH (m : GM) (ik is ic : Nat) (E : String) (text : String) : Prop := Cond.classLink (gy m).cls ik E ∈ gW ∧ Cond.initialized E ∈ gW ∧ ((gy m).cls, is, text) ∈ gS ∧ (∀ w ∈ vx_atS (gy m).cls ic E gXn, w ∈ gW ∨ w ∈ gO) ∧ Bundle.fit E = true ∧ (∀ w ∈ Cond.classLink (gy m).cls ik E :: Cond.initialized E :: vx_atS (gy m).cls ic E gXn, vx_ot w = true)
theorem gO_tab : ∀ w ∈ gO, w.onTables = true := fun w hw => by
  have hg := (List.mem_filter.mp hw).2
  cases w <;> first | rfl | (exact absurd hg (by simp [gothr]))
theorem g_throw {ik is ic : Nat} {E text : String} (th : gTH m ik is ic E text) (hh : ghh m = []) (d0 : dc m pc (.new ik) 3) (d3 : dc m (pc + 3) .dup 1)
    (d4 : (dc m (pc + 4) (.ldc is) 2 ∧ dc m (pc + 6) (.invokespecial ic) 3 ∧ dc m (pc + 9) .athrow 1) ∨ (dc m (pc + 4) (.ldc_w is) 3 ∧ dc m (pc + 7) (.invokespecial ic) 3 ∧ dc m (pc + 10) .athrow 1))
    (hf : 6 ≤ gfr m) (hl : (rest.map fun v => v.category).sum + 82 ≤ glo m) (hk : k + 1 ≤ gce m) (hn : n + 6 ≤ gsl m) (hΦ : ∀ z', z ≤ z' → Φ (.inr E) M z') : WP m pc L rest M z k n Φ := by
  intro D dA base p l e s mid args below meth c C H locs ls hR hS hL
  obtain ⟨hx, hb, hml, hown, hts, hlocks, htr, hname, hret, hT, hG, hbase, htab⟩ := C
  obtain ⟨t1, t2, t3, t4, t5, t6⟩ := th
  obtain ⟨sa, hsa⟩ := hT.2.2.2.1 _ t3
  have hat : ∀ w ∈ vx_atS (gy m).cls ic E gXn, w.before args s = true := fun w hw => (t4 w hw).elim (fun h => hts w h) (fun h => va_Nw.use (gO_tab w h) (hT.2.2.2.2.2.2.1 w h))
  have htab' : ∀ pc x, x ∈ c.exceptionTable.toList → covers x pc = false := by rw [hh] at htab; exact fun pc x hx => (htab x hx).elim
  have hX : ∀ t : State, s.vm.Alike t.vm → H.size ≤ t.heap.size → (∀ q : Nat, q < H.size → t.heap[q]? = H[q]?) → gX Φ D dA base E s t := fun t _ h1 h2 => ⟨⟨M, t.heap.size, hΦ _ (by rw [← hR.1]; exact h1), hR.grow h1 h2⟩, Nat.le_trans hS.1 h1, fun q g1 g2 => (h2 q (Nat.lt_of_lt_of_le g1 hS.1)).trans (hS.2.1 q g1 g2)⟩
  rcases d4 with ⟨d4, d6, d9⟩ | ⟨d4, d7, d10⟩
  · exact vx_throwS hx hb htr (own := (gy m).cls) (text := text) (names := gXn) hown t5 (by decide) (hts _ t1) (hts _ t2) hsa hat t6 hG.1 hG.2 hS (by rw [hL.2.1, hml]) d0 d3 d4 d6 d9 (htab' _) (show 2 + 3 < gfr m by omega) (by show _ + (13 * (2 + 1) + 43) ≤ glo m; omega) hk hn hlocks hX (fun z hz => hS.2.2 z hz) hk hn
  · exact vx_throwSW hx hb htr (own := (gy m).cls) (text := text) (names := gXn) hown t5 (by decide) (hts _ t1) (hts _ t2) hsa hat t6 hG.1 hG.2 hS (by rw [hL.2.1, hml]) d0 d3 d4 d7 d10 (htab' _) (show 2 + 3 < gfr m by omega) (by show _ + (13 * (2 + 1) + 43) ≤ glo m; omega) hk hn hlocks hX (fun z hz => hS.2.2 z hz) hk hn
/-! calls -/
def gVir (m m' : GM) (idx ci nA : Nat) : Prop := gCal m' nA ∧ ghh m' = [] ∧ gIn m' ∧ Cond.methodLink (gy m).cls idx (gy m') ∈ gW ∧ ∃ r, vwCl[ci]? = some r ∧ r.1 = (gy m').cls
def gSta (m m' : GM) (idx nA : Nat) : Prop := gCal m' nA ∧ ghh m' = [] ∧ Cond.static (gy m') ∈ gW ∧ gML m idx (gy m')
def gIni (m m' : GM) (idx nA : Nat) : Prop := gCal m' nA ∧ ghh m' = [] ∧ gr m' = none ∧ (gy m').name = "<init>" ∧ Cond.instanceMethod (gy m') ∈ gW ∧ gML m idx (gy m')
theorem g_vir {as st : List Value} {nA : Nat} (d : dc m pc (.invokevirtual idx) 3) (lk : gVir m m' idx ci nA) (bud : gBud m m' = true) (hst : st = as.reverse ++ .ref a :: rest) (hnA : as.length = nA) (ho : M a = some (.inr (ci, fs))) (hcat : (rest.map fun v => v.category).sum ≤ 8) (hk : k + gce m' ≤ gce m) (hn : n + gsl m' ≤ gsl m)
    (call : Runs m' (.ref a :: as) M z Ψ) (kk : ∀ r M' z', Ψ (.inl r) M' z' → WP m (pc + 3) L (r.toList ++ rest) M' z' (k + gce m') (n + gsl m') Φ) (kx : ∀ E M' z', Ψ (.inr E) M' z' → WX m pc L rest M' z' (k + gce m') (n + gsl m') E Φ) : WP m pc L st M z k n Φ := by
  intro D dA base p l e s mid args below meth c C H locs ls hR hS hL
  subst hnA
  obtain ⟨c1, c2, c3, c4, r, c5, c6⟩ := lk
  exact g_call C hS hL (g_runV C hR hS hL.2.1 call c1 c2 c3 c4 bud ho c5 c6 hst hcat hk hn d) kk kx
theorem g_sta {as st : List Value} {nA : Nat} (d : dc m pc (.invokestatic idx) 3) (lk : gSta m m' idx nA) (bud : gBud m m' = true) (hst : st = as.reverse ++ rest) (hnA : as.length = nA) (hcat : (rest.map fun v => v.category).sum ≤ 8) (hk : k + gce m' ≤ gce m) (hn : n + gsl m' ≤ gsl m)
    (call : Runs m' as M z Ψ) (kk : ∀ r M' z', Ψ (.inl r) M' z' → WP m (pc + 3) L (r.toList ++ rest) M' z' (k + gce m') (n + gsl m') Φ) (kx : ∀ E M' z', Ψ (.inr E) M' z' → WX m pc L rest M' z' (k + gce m') (n + gsl m') E Φ) : WP m pc L st M z k n Φ := by
  intro D dA base p l e s mid args below meth c C H locs ls hR hS hL
  subst hnA
  obtain ⟨c1, c2, c3, c4⟩ := lk
  exact g_call C hS hL (g_runS C hR hS hL.2.1 call c1 c2 c3 c4 bud hst hcat hk hn d) kk kx
theorem g_ini {as st : List Value} {nA : Nat} (d : dc m pc (.invokespecial idx) 3) (lk : gIni m m' idx nA) (bud : gBud m m' = true) (hst : st = as.reverse ++ .ref a :: rest) (hnA : as.length = nA) (hcat : (rest.map fun v => v.category).sum ≤ 8) (hk : k + gce m' ≤ gce m) (hn : n + gsl m' ≤ gsl m)
    (call : Runs m' (.ref a :: as) M z Ψ) (kk : ∀ r M' z', Ψ (.inl r) M' z' → WP m (pc + 3) L (r.toList ++ rest) M' z' (k + gce m') (n + gsl m') Φ) (kx : ∀ E M' z', Ψ (.inr E) M' z' → WX m pc L rest M' z' (k + gce m') (n + gsl m') E Φ) : WP m pc L st M z k n Φ := by
  intro D dA base p l e s mid args below meth c C H locs ls hR hS hL
  subst hnA
  obtain ⟨c1, c2, c3, c4, c5, c6⟩ := lk
  exact g_call C hS hL (g_runI C hR hS hL.2.1 call c1 c2 c3 c4 c5 c6 bud hst hcat hk hn d) kk kx
theorem g_objinit (d : dc m pc (.invokespecial idx) 3) (hl : Cond.methodLink (gy m).cls idx Lib.objectInit ∈ gW) (hi : Cond.instanceMethod Lib.objectInit ∈ gW) (hcd : Cond.code Lib.objectInit ⟨#[0xb1]⟩ 1 none ∈ gW) (hf : 1 ≤ gfr m) (hlo : (rest.map fun v => v.category).sum + 12 ≤ glo m) (h : WP m (pc + 3) L rest M z k n Φ) : WP m pc L (.ref a :: rest) M z k n Φ := by
  intro D dA base p l e s mid args below meth c C H locs ls hR hS hL
  have hts := C.2.2.2.2.1
  exact W.objInit C.1 C.2.1 C.2.2.2.1 (hts _ hl) (hts _ hi) (hts _ hcd) rfl (by rw [show (F0 mid pc ls (.ref a :: rest)).locals = ls from rfl, hL.2.1, C.2.2.1]) rfl d hf (by show 2 * 0 + _ + 12 ≤ glo m; omega) (h D dA base p l e s mid args below meth c C H locs ls hR hS hL)
/-! a thrown exception -/
theorem x_out {E : String} (hh : ghh m = []) (hk : k ≤ gce m) (hn : n ≤ gsl m) (hΦ : Φ (.inr E) M z) : WX m pc L rest M z k n E Φ := by
  intro D dA base p l e s mid args below meth c C H locs ls q ce hR hS hL hq hv hcl
  obtain ⟨hx, hb, hml, hown, hts, hlocks, htr, hname, hret, hT, hG, hbase, htab⟩ := C
  refine vx_out (E := E) (by rw [hh] at htab; exact fun x hx => (htab x hx).elim) hlocks hq hv hcl (fun t ht _ => ⟨⟨M, z, hΦ, by rw [ht]; exact hR⟩, va_S.F hS ht⟩) (fun z hz => hS.2.2 z hz) hk hn
theorem x_catch {E : String} (pre : List ExceptionTableEntry) (xe : ExceptionTableEntry) (suf : List ExceptionTableEntry) (hne : ghh m ≠ []) (hsp : tableOf (ghh m) = pre ++ xe :: suf) (hpass : ∀ q ∈ pre, q.catchType ≠ 0 ∧ ∃ nm, Cond.classLink (gy m).cls q.catchType nm ∈ gW ∧ (E, nm) ∈ gNC) (hcov : covers xe pc = true) (h0 : xe.catchType ≠ 0) (hlk : Cond.classLink (gy m).cls xe.catchType E ∈ gW) (hca : Cond.castable E E ∈ gO)
    (h : ∀ q, WP m xe.handlerPc L [.ref q] M z k n Φ) : WX m pc L rest M z k n E Φ := by
  intro D dA base p l e s mid args below meth c C H locs ls q ce hR hS hL hq hv hcl
  have C' := C
  obtain ⟨hx, hb, hml, hown, hts, hlocks, htr, hname, hret, hT, hG, hbase, htab⟩ := C'
  have ht : c.exceptionTable.toList = tableOf (ghh m) := by
    cases hg : ghh m with
    | nil => exact absurd hg hne
    | cons a t => rw [hg] at htab; exact htab
  refine vx_catch (own := (gy m).cls) (name := E) hown pre xe suf (ht.trans hsp) (fun z hz => Or.inr ?_) hcov h0 (hts _ hlk) (va_Nw.use rfl (hT.2.2.2.2.2.2.1 _ hca)) hq hv hcl (h q D dA base p l e s mid args below meth c C H locs ls hR hS hL)
  obtain ⟨g1, nm, g2, g3⟩ := hpass z hz
  exact ⟨g1, nm, hts _ g2, hT.2.2.2.2.2.2.2 _ g3⟩
/-! System.arraycopy -/
def gAC (m : GM) (idx : Nat) : Prop := Cond.methodLink (gy m).cls idx arraycopyName ∈ gW ∧ Cond.native arraycopyName ∈ gW ∧ Cond.static arraycopyName ∈ gW ∧ Cond.initialized "java/lang/System" ∈ gW
theorem g_copy {kd a0 n0 n1 sp dp nn : Nat} {f g : Nat → Int32} (hkd : kd < 2) (d : dc m pc (.invokestatic idx) 3) (lk : gAC m idx) (ho0 : M a0 = some (.inl (kd, n0, .inl f))) (ho : M a = some (.inl (kd, n1, .inl g))) (hsp : sp + nn ≤ n0) (hdp : dp + nn ≤ n1) (h31 : n0 < 2 ^ 31 ∧ n1 < 2 ^ 31) (hfit : ∀ i, i < nn → fits (gty kd) (.int (f (sp + i))) = true) (hf : 1 ≤ gfr m) (hl : (rest.map fun v => v.category).sum + 18 ≤ glo m)
    (h : WP m (pc + 3) L rest (hpu M a (.inl (kd, n1, .inl (va_cpy f g sp dp nn)))) z k n Φ) : WP m pc L (.int (nI nn) :: .int (nI dp) :: .ref a :: .int (nI sp) :: .ref a0 :: rest) M z k n Φ := by
  intro D dA base p l e s mid args below meth c C H locs ls hR hS hL
  have hT := C.2.2.2.2.2.2.2.2.2.1
  have hts := C.2.2.2.2.1
  obtain ⟨l1, l2, l3, l4⟩ := lk
  have hA := gArr hT kd (by omega)
  have hk9 : kd ≠ 9 := by omega
  have hc0 := gAt.arr hk9 (hR.2 a0 _ ho0).1
  have hc1 := gAt.arr hk9 (hR.2 a _ ho).1
  have hprim : refKind (gty kd) = false := by
    match kd, hkd with
    | 0, _ => rfl
    | 1, _ => rfl
  have e1 : ∀ j : Nat, j < 2 ^ 31 → (nI j).toNatClampNeg = j := fun j hj => nI_clamp hj
  have e2 : ∀ j : Nat, j < 2 ^ 31 → ¬ (nI j) < 0 := fun j hj => by
    simp only [Int32.lt_iff_toInt_lt, Int32.toInt_zero, nI_toInt hj]; omega
  have e3 : ∀ j : Nat, j < 2 ^ 31 → (nI j).toInt = (j : Int) := fun j hj => nI_toInt hj
  intro T hTh X
  obtain ⟨-, k0, hk0, cm0, hkk0⟩ := hA.1 n0 (fun j => .int (f j))
  obtain ⟨-, k1, hk1, cm1, hkk1⟩ := hA.1 n1 (fun j => .int (g j))
  obtain ⟨vm', X', step⟩ := X.arraycopy C.1 C.2.2.2.1 (hts _ l1) (hts _ l2) (hts _ l3) (hts _ l4) (src := a0) (dst := a) (cs := vp_cell (dA kd) (n0, .inl f)) (cd := vp_cell (dA kd) (n1, .inl g)) (srcPos := nI sp) (destPos := nI dp) (n := nI nn) (by rw [hTh]; exact hc0) (by rw [hTh]; exact hc1)
    (fun _ h => by cases h) (fun _ h => by cases h) (fun h => by cases h) (fun h => by cases h) hk0 hk1 hkk0 hkk1 (by simp [hprim]) (e2 _ (by omega)) (e2 _ (by omega)) (e2 _ (by omega))
    (by rw [e3 sp (by omega), e3 nn (by omega)]; show ¬ _ > ((arrV (dA kd) n0 (fun j => .int (f j))).slots.size : Int); rw [arrV_size]; omega)
    (by rw [e3 dp (by omega), e3 nn (by omega)]; show ¬ _ > ((arrV (dA kd) n1 (fun j => .int (g j))).slots.size : Int); rw [arrV_size]; omega)
    (fun vm₁ _ i hi => by
      rw [e1 nn (by omega)] at hi
      have e : (vp_cell (dA kd) (n0, .inl f)).slots.getD ((nI sp).toNatClampNeg + i) .null = .int (f (sp + i)) := by
        rw [e1 sp (by omega)]
        show (arrV (dA kd) n0 (fun j => .int (f j))).slots.getD _ _ = _
        rw [Array.getD_eq_getD_getElem?, arrV_read _ _ (by omega)]
        rfl
      refine ⟨?_, ?_⟩
      · rw [e]
        exact hfit i hi
      · rw [e]
        exact trivial)
    (g := F0 mid pc ls (.int (nI nn) :: .int (nI dp) :: .ref a :: .int (nI sp) :: .ref a0 :: rest)) rfl (by rw [show (F0 mid pc ls (.int (nI nn) :: .int (nI dp) :: .ref a :: .int (nI sp) :: .ref a0 :: rest)).locals = ls from rfl, hL.2.1, C.2.2.1]) (rest := rest) rfl (by rw [C.2.1]; exact d) hf (by show 2 * 0 + _ + (nativeFrameWords "java/lang/System" "arraycopy" 5 + 11) ≤ glo m; rw [show nativeFrameWords "java/lang/System" "arraycopy" 5 = 7 from by decide]; omega)
  have ee : copied (vp_cell (dA kd) (n0, .inl f)) (vp_cell (dA kd) (n1, .inl g)) (nI sp) (nI dp) (nI nn) = vp_cell (dA kd) (n1, .inl (va_cpy f g sp dp nn)) := by
    have h9 := va_copied (fun z => Value.int z) (dA kd) (dA kd) (n1 := n1) (dp := dp) f g hsp
    show (arrV (dA kd) n1 (fun j => .int (g j))).storeRun (nI dp).toNatClampNeg ((arrV (dA kd) n0 (fun j => .int (f j))).stretch (nI sp).toNatClampNeg (nI nn).toNatClampNeg) = _
    rw [e1 sp (by omega), e1 dp (by omega), e1 nn (by omega)]
    exact h9
  rw [ee] at X' step
  have hlt : a < H.size := (Array.getElem?_eq_some_iff.mp hc1).1
  have hheap : ((T.setVm vm').setCell a (vp_cell (dA kd) (n1, .inl (va_cpy f g sp dp nn)))).heap = H.setIfInBounds a (vp_cell (dA kd) (n1, .inl (va_cpy f g sp dp nn))) := by rw [← hTh]; rfl
  have oq : ∀ q : Nat, q ≠ a → (H.setIfInBounds a (vp_cell (dA kd) (n1, .inl (va_cpy f g sp dp nn))))[q]? = H[q]? := fun q hq => by simp [Array.getElem?_setIfInBounds, Ne.symm hq]
  have hro : gro (.inl (kd, n1, .inl g)) = false := by simp [gro, hk9]
  have hba := (hR.2 a _ ho).2 hro
  obtain ⟨t, a1, b1⟩ := h D dA base p l e s mid args below meth c C _ _ ls (hR.put ho hro (gAt.mk hk9 (show (H.setIfInBounds a _)[a]? = some _ by simp [Array.getElem?_setIfInBounds, hlt])) (by simp) oq) ⟨by simp; exact hS.1, fun q g1 g2 => by
      rw [oq q (fun e => g2 (by rw [e]; exact hba))]
      exact hS.2.1 q g1 g2, fun q hq => by
      rcases List.mem_append.mp hq with h | h
      · exact hS.2.2 q h
      · obtain ⟨z, -, hz⟩ := List.mem_map.mp h
        rw [← hz]
        exact hba⟩ hL _ hheap X'
  exact ⟨t, step t a1, b1⟩
end CALLS
