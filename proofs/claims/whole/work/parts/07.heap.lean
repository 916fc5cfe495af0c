section HEAP
variable {m m' : GM} {pc z k n idx : Nat} {L : List (Option Value)} {rest : List Value} {M : Hp} {Φ : GR → Hp → Nat → Prop} {x y v : Int32} {a ci fk N : Nat} {fs : List Value} {w : Value}
/-- a field's link: the class of kind ci, its field fk, of type ty, final or not -/
def gFL (m : GM) (idx ci fk : Nat) (ty : FieldType) (fin : Bool) : Prop := ∃ (C : String) (T : u_T) (N : Nat) (t0 : Nat → FieldType), vwCl[ci]? = some (C, T, N) ∧ fk < N ∧ (T fk).1 = C ∧ (∀ w ∈ u_ws C T N, w ∈ gW) ∧ (∀ k, k < N → parseFieldDescriptor (T k).2.2.1 = some (t0 k)) ∧ (∀ a, a < N → ∀ b, b < N → a ≠ b → (T a).2.1 ≠ (T b).2.1) ∧ t0 fk = ty ∧ (T fk).2.2.2 = fin ∧
  ((Cond.fieldLink (gy m).cls idx C (T fk).2.1 (T fk).2.2.1 ∈ gW ∧ (fin = true → C = (gy m).cls)) ∨ (fin = false ∨ True) ∧ ∃ host, Cond.fieldLinkNest (gy m).cls idx C (T fk).2.1 (T fk).2.2.1 host ∈ gN)
theorem gAt_P {D : va_G} {dA : Nat → ClassId} {base : Nat} {H : Heap} (hR : GRep D dA base z M H) (ho : M a = some (.inr (ci, fs))) : va_P D vwCl [(a, .inr (ci, fs))] H := by
  intro k q hk
  cases k with
  | zero => simp at hk; subst hk; exact (hR.2 a _ ho).1
  | succ k => simp at hk
theorem g_get {ty : FieldType} {fin : Bool} (d : dc m pc (.getfield idx) 3) (lk : gFL m idx ci fk ty fin) (ho : M a = some (.inr (ci, fs))) (hv : fs[fk]? = some w) (h : WP m (pc + 3) L (w :: rest) M z k n Φ) : WP m pc L (.ref a :: rest) M z k n Φ := by
  intro D dA base p l e s mid args below meth c C H locs ls hR hS hL
  obtain ⟨Cn, T, N, t0, hc, hk, hC, hw, -, -, -, -, hl⟩ := lk
  have hT := C.2.2.2.2.2.2.2.2.2.1
  rcases hl with ⟨hl, -⟩ | ⟨-, host, hl⟩
  · exact va_get (own := (gy m).cls) (ref := Cn) C.1 C.2.1 C.2.2.2.2.1 hw C.2.2.2.1 hT.1 (gAt_P hR ho) 0 rfl hc fk hk (C.2.2.2.2.1 _ hl) (by rw [hC]; exact fun _ h => h) hv d (h D dA base p l e s mid args below meth c C H locs ls hR hS hL)
  · exact va_getN (own := (gy m).cls) (ref := Cn) C.1 C.2.1 C.2.2.2.2.1 hw C.2.2.2.1 hT.1 (gAt_P hR ho) 0 rfl hc fk hk (va_Nw.use rfl (hT.2.2.1 _ hl)) (by rw [hC]; exact fun _ h => h) hv d (h D dA base p l e s mid args below meth c C H locs ls hR hS hL)
theorem va_S_put {base : Nat} {H0 H H1 : Heap} {locs : List Loc} {a j : Nat} (h : va_S (gA base) H0 H locs) (z : H1.size = H.size) (oq : ∀ q : Nat, q ≠ a → H1[q]? = H[q]?) (ha : base ≤ a) : va_S (gA base) H0 H1 (locs ++ [⟨a, j⟩]) := h.put z oq ha
theorem g_put {ty : FieldType} {fs' : List Value} (d : dc m pc (.putfield idx) 3) (lk : gFL m idx ci fk ty false) (ho : M a = some (.inr (ci, fs))) (hn : narrow ty w = w) (hf : fits ty w = true) (hlt : fk < fs.length) (hfs : fs.set fk w = fs') (h : WP m (pc + 3) L rest (hpu M a (.inr (ci, fs'))) z k n Φ) : WP m pc L (w :: .ref a :: rest) M z k n Φ := by
  intro D dA base p l e s mid args below meth c C H locs ls hR hS hL
  subst hfs
  obtain ⟨Cn, T, N, t0, hc, hk, hC, hin, hty, hnm, ht0, hfin, hl⟩ := lk
  have hT := C.2.2.2.2.2.2.2.2.2.1
  have hK := hT.1
  have hts := C.2.2.2.2.1
  have hown := C.2.2.2.1
  have hap := va_apart (own := (gy m).cls) hts hin t0 hty hnm hK hc
  obtain ⟨r, h1, cell, q1, q2, q3, q4⟩ := (hR.2 a _ ho).1
  have hr : r = (Cn, T, N) := Option.some.inj (h1.symm.trans hc)
  subst hr
  obtain ⟨hSl, hfc, kC, hkC, hkind⟩ := hK.1 ci _ hc
  obtain ⟨cf, kf, fi, f, hi, hsl⟩ := hSl fk hk
  have hlay := hts _ (hin _ (u_in_lay hk))
  unfold u_lay at hlay
  rw [if_neg (by rw [hfin]; decide)] at hlay
  have hst := (u_facts hfc hkC (u_lays hts hin hk) hi).1
  have h6 := u_store hfc hkC hkind hlay hi (by rw [hty fk hk, ht0]) hn hf
  have hba := (hR.2 a _ ho).2 rfl
  have fin : ∀ H' : Heap, H'[a]? = some (cell.setSlot (D.2 ci fk) w) → H'.size = H.size → (∀ q, q ≠ a → H'[q]? = H[q]?) → W p l e (grm m) s mid args below meth c H' (locs ++ [⟨a, D.2 ci fk⟩]) k n (vx_MQ below (gQ Φ D dA base) (gX Φ D dA base) args s (gce m) (gsl m) (gA base)) (F0 mid (pc + 3) ls rest) := by
    intro H' e1 e2 e3
    refine h D dA base p l e s mid args below meth c C H' _ ls (hR.put ho rfl ?_ e2 e3) (va_S_put hS e2 e3 hba) hL
    exact ⟨_, hc, t_OB.to (V := updV (vp_V fs) fk w) ⟨_, e1, q2, q3, t_set q4 hap hk w⟩ (fun j _ => vp_updV_set hlt w j)⟩
  rcases hl with ⟨hl, -⟩ | ⟨-, host, hl⟩
  · refine W.putK C.1 C.2.1 (f := f) ⟨hown, hts _ hl, ⟨_, _, _, by rw [← hC]; exact hi⟩, hst⟩ (by rw [q2]; exact h6) q1 q3 (by rw [hsl]; exact k2_hasslot (q4 fk hk)) rfl rfl d fun H' e1 e2 e3 => ?_
    rw [hsl] at e1 ⊢
    exact fin H' e1 e2 e3
  · refine va_WputK C.1 C.2.1 (f := f) hown (va_Nw.use rfl (hT.2.2.1 _ hl)) (by rw [← hC]; exact hi) hst (by rw [q2]; exact h6) q1 q3 (by rw [hsl]; exact k2_hasslot (q4 fk hk)) rfl rfl d fun H' e1 e2 e3 => ?_
    rw [hsl] at e1 ⊢
    exact fin H' e1 e2 e3
theorem g_putF {ty : FieldType} {fs' : List Value} (d : dc m pc (.putfield idx) 3) (lk : gFL m idx ci fk ty true) (hini : (gy m).name = "<init>") (hnn : ∀ host C n d, Cond.fieldLinkNest (gy m).cls idx C n d host ∉ gN) (ho : M a = some (.inr (ci, fs))) (hn : narrow ty w = w) (hf : fits ty w = true) (hlt : fk < fs.length) (hfs : fs.set fk w = fs') (h : WP m (pc + 3) L rest (hpu M a (.inr (ci, fs'))) z k n Φ) : WP m pc L (w :: .ref a :: rest) M z k n Φ := by
  intro D dA base p l e s mid args below meth c C H locs ls hR hS hL
  subst hfs
  obtain ⟨Cn, T, N, t0, hc, hk, hC, hin, hty, hnm, ht0, hfin, hl⟩ := lk
  have hT := C.2.2.2.2.2.2.2.2.2.1
  have hname := C.2.2.2.2.2.2.2.1
  have hK := hT.1
  have hts := C.2.2.2.2.1
  have hown := C.2.2.2.1
  have hap := va_apart (own := (gy m).cls) hts hin t0 hty hnm hK hc
  obtain ⟨r, h1, cell, q1, q2, q3, q4⟩ := (hR.2 a _ ho).1
  have hr : r = (Cn, T, N) := Option.some.inj (h1.symm.trans hc)
  subst hr
  obtain ⟨hSl, hfc, kC, hkC, hkind⟩ := hK.1 ci _ hc
  obtain ⟨cf, kf, fi, f, hi, hsl⟩ := hSl fk hk
  have hlay := hts _ (hin _ (u_in_lay hk))
  unfold u_lay at hlay
  rw [if_pos hfin] at hlay
  have hst := (u_facts hfc hkC (u_lays hts hin hk) hi).1
  have hba := (hR.2 a _ ho).2 rfl
  rcases hl with ⟨hl, hCo⟩ | ⟨-, host, hl⟩
  · have hcf : mid.cls = cf := by
      obtain ⟨_, _, c', _, _, _, -, -, hf', -, -, -, hown2, -⟩ := Cond.laysFinal_spec hlay
      have e1 : c' = cf := by have := hi.symm.trans hf'; simp at this; exact this.1.symm
      rw [hC, hCo rfl] at hown2
      rw [← e1]; exact Option.some.inj (hown.symm.trans hown2)
    have h6 := u_fits hfc hkC hkind (Or.inr hlay) hi (by rw [hty fk hk, ht0]) hn hf
    refine W.putFinK C.1 C.2.1 hown (hts _ hl) (by rw [← hC]; exact hi) hst hcf (hname.trans hini) (by rw [q2]; exact h6) q1 q3 (by rw [hsl]; exact k2_hasslot (q4 fk hk)) rfl rfl d fun H' e1 e2 e3 => ?_
    rw [hsl] at e1 ⊢
    refine h D dA base p l e s mid args below meth c C H' _ ls (hR.put ho rfl ?_ e2 e3) (va_S_put hS e2 e3 hba) hL
    exact ⟨_, hc, t_OB.to (V := updV (vp_V fs) fk w) ⟨_, e1, q2, q3, t_set q4 hap hk w⟩ (fun j _ => vp_updV_set hlt w j)⟩
  · exact absurd hl (hnn host _ _ _)
/-! arrays -/
theorem gArr {D : va_G} {dA : Nat → ClassId} {U : State} (h : GT D dA U) (kd : Nat) (hk : kd < 6) : ArrOfT U (dA kd) (gty kd) ∧ va_RA U (dA kd) (gty kd) := by
  have h1 := h.1.2
  match kd, hk with
  | 0, _ => exact h1 0 _ rfl
  | 1, _ => exact h1 1 _ rfl
  | 2, _ => exact h1 2 _ rfl
  | 3, _ => exact h1 3 _ rfl
  | 4, _ => exact h1 4 _ rfl
  | 5, _ => exact h1 5 _ rfl
theorem gin {x : Int32} {N : Nat} (h : ¬ (x < 0 ∨ N ≤ x.toNatClampNeg)) : x.toNatClampNeg < N := Nat.not_le.mp fun q => h (Or.inr q)
theorem g_iald {f : Nat → Int32} (d : dc m pc .iaload 1) (ho : M a = some (aI N f)) (hin : ¬ (x < 0 ∨ N ≤ x.toNatClampNeg)) (h : WP m (pc + 1) L (.int (f x.toNatClampNeg) :: rest) M z k n Φ) : WP m pc L (.int x :: .ref a :: rest) M z k n Φ := by
  intro D dA base p l e s mid args below meth c C H locs ls hR hS hL
  have hT := C.2.2.2.2.2.2.2.2.2.1
  have hc := gAt.arr (by decide) (hR.2 a _ ho).1
  exact W.iald (v := .int (f x.toNatClampNeg)) C.1 C.2.1 hc ((gArr hT 0 (by decide)).1 N (fun j => .int (f j))) (fun q => by cases q) (by show ¬ (x < 0 ∨ (arrV _ _ _).slots.size ≤ _); rw [arrV_size]; exact hin) (by show (arrV _ _ _).slots[_]? = _; rw [arrV_read _ _ (gin hin)]) rfl rfl d (h D dA base p l e s mid args below meth c C H locs ls hR hS hL)
theorem g_cald {f : Nat → Int32} (d : dc m pc .caload 1) (ho : M a = some (aC N f)) (hin : ¬ (x < 0 ∨ N ≤ x.toNatClampNeg)) (h : WP m (pc + 1) L (.int (f x.toNatClampNeg) :: rest) M z k n Φ) : WP m pc L (.int x :: .ref a :: rest) M z k n Φ := by
  intro D dA base p l e s mid args below meth c C H locs ls hR hS hL
  have hT := C.2.2.2.2.2.2.2.2.2.1
  have hc := gAt.arr (by decide) (hR.2 a _ ho).1
  exact W.cald (v := .int (f x.toNatClampNeg)) C.1 C.2.1 hc ((gArr hT 1 (by decide)).1 N (fun j => .int (f j))) (fun q => by cases q) (by show ¬ (x < 0 ∨ (arrV _ _ _).slots.size ≤ _); rw [arrV_size]; exact hin) (by show (arrV _ _ _).slots[_]? = _; rw [arrV_read _ _ (gin hin)]) rfl rfl d (h D dA base p l e s mid args below meth c C H locs ls hR hS hL)
theorem g_zald {f : Nat → Int32} (d : dc m pc .baload 1) (ho : M a = some (aZ N f)) (hin : ¬ (x < 0 ∨ N ≤ x.toNatClampNeg)) (h : WP m (pc + 1) L (.int (f x.toNatClampNeg) :: rest) M z k n Φ) : WP m pc L (.int x :: .ref a :: rest) M z k n Φ := by
  intro D dA base p l e s mid args below meth c C H locs ls hR hS hL
  have hT := C.2.2.2.2.2.2.2.2.2.1
  have hc := gAt.arr (by decide) (hR.2 a _ ho).1
  exact W.zald (v := .int (f x.toNatClampNeg)) C.1 C.2.1 hc ((gArr hT 2 (by decide)).1 N (fun j => .int (f j))) (fun q => by cases q) (by show ¬ (x < 0 ∨ (arrV _ _ _).slots.size ≤ _); rw [arrV_size]; exact hin) (by show (arrV _ _ _).slots[_]? = _; rw [arrV_read _ _ (gin hin)]) rfl rfl d (h D dA base p l e s mid args below meth c C H locs ls hR hS hL)
theorem g_lald {f : Nat → Int64} (d : dc m pc .laload 1) (ho : M a = some (aJ N f)) (hin : ¬ (x < 0 ∨ N ≤ x.toNatClampNeg)) (h : WP m (pc + 1) L (.long (f x.toNatClampNeg) :: rest) M z k n Φ) : WP m pc L (.int x :: .ref a :: rest) M z k n Φ := by
  intro D dA base p l e s mid args below meth c C H locs ls hR hS hL
  have hT := C.2.2.2.2.2.2.2.2.2.1
  have hc := gAt.arr (by decide) (hR.2 a _ ho).1
  exact W.lald (v := .long (f x.toNatClampNeg)) C.1 C.2.1 hc ((gArr hT 3 (by decide)).1 N (fun j => .long (f j))) (fun q => by cases q) (by show ¬ (x < 0 ∨ (arrV _ _ _).slots.size ≤ _); rw [arrV_size]; exact hin) (by show (arrV _ _ _).slots[_]? = _; rw [arrV_read _ _ (gin hin)]) rfl rfl d (h D dA base p l e s mid args below meth c C H locs ls hR hS hL)
theorem g_aaldR {f : Nat → Option Nat} (d : dc m pc .aaload 1) (ho : M a = some (aR N f)) (hin : ¬ (x < 0 ∨ N ≤ x.toNatClampNeg)) (h : WP m (pc + 1) L (va_rf (f x.toNatClampNeg) :: rest) M z k n Φ) : WP m pc L (.int x :: .ref a :: rest) M z k n Φ := by
  intro D dA base p l e s mid args below meth c C H locs ls hR hS hL
  have hT := C.2.2.2.2.2.2.2.2.2.1
  have hc := gAt.arr (by decide) (hR.2 a _ ho).1
  exact W.aald (v := va_rf (f x.toNatClampNeg)) C.1 C.2.1 hc ((gArr hT 4 (by decide)).1 N (fun j => va_rf (f j))) rfl (fun q => by cases q) (by show ¬ (x < 0 ∨ (arrV _ _ _).slots.size ≤ _); rw [arrV_size]; exact hin) (by show (arrV _ _ _).slots[_]? = _; rw [arrV_read _ _ (gin hin)]) rfl rfl d (h D dA base p l e s mid args below meth c C H locs ls hR hS hL)
theorem g_aaldS {f : Nat → Option Nat} (d : dc m pc .aaload 1) (ho : M a = some (aS N f)) (hin : ¬ (x < 0 ∨ N ≤ x.toNatClampNeg)) (h : WP m (pc + 1) L (va_rf (f x.toNatClampNeg) :: rest) M z k n Φ) : WP m pc L (.int x :: .ref a :: rest) M z k n Φ := by
  intro D dA base p l e s mid args below meth c C H locs ls hR hS hL
  have hT := C.2.2.2.2.2.2.2.2.2.1
  have hc := gAt.arr (by decide) (hR.2 a _ ho).1
  exact W.aald (v := va_rf (f x.toNatClampNeg)) C.1 C.2.1 hc ((gArr hT 5 (by decide)).1 N (fun j => va_rf (f j))) rfl (fun q => by cases q) (by show ¬ (x < 0 ∨ (arrV _ _ _).slots.size ≤ _); rw [arrV_size]; exact hin) (by show (arrV _ _ _).slots[_]? = _; rw [arrV_read _ _ (gin hin)]) rfl rfl d (h D dA base p l e s mid args below meth c C H locs ls hR hS hL)
theorem g_iast {f : Nat → Int32} (d : dc m pc .iastore 1) (ho : M a = some (aI N f)) (hin : ¬ (x < 0 ∨ N ≤ x.toNatClampNeg)) (h : WP m (pc + 1) L rest (hpu M a (aI N (upd f x.toNatClampNeg y))) z k n Φ) : WP m pc L (.int y :: .int x :: .ref a :: rest) M z k n Φ := by
  intro D dA base p l e s mid args below meth c C H locs ls hR hS hL
  have hT := C.2.2.2.2.2.2.2.2.2.1
  have hc := gAt.arr (by decide) (hR.2 a _ ho).1
  refine W.iast C.1 C.2.1 hc ((gArr hT 0 (by decide)).1 N (fun j => .int (f j))) (fun q => by cases q) (by show ¬ (x < 0 ∨ (arrV _ _ _).slots.size ≤ _); rw [arrV_size]; exact hin) rfl rfl d fun H1 e1 e2 e3 => ?_
  refine h D dA base p l e s mid args below meth c C H1 _ ls (hR.put ho rfl (gAt.mk (by decide) ?_) e2 e3) (va_S_put hS e2 e3 ((hR.2 a _ ho).2 rfl)) hL
  rw [e1, vp_cell_i, vp_cell_i, arrV_store]
  congr 2
  funext q
  by_cases hq : q = x.toNatClampNeg
  · subst hq; simp [updV, upd]
  · simp [updV, upd, hq]
theorem g_zast {f : Nat → Int32} (d : dc m pc .bastore 1) (ho : M a = some (aZ N f)) (hin : ¬ (x < 0 ∨ N ≤ x.toNatClampNeg)) (hv : narrow .boolean (.int y) = .int y) (h : WP m (pc + 1) L rest (hpu M a (aZ N (upd f x.toNatClampNeg y))) z k n Φ) : WP m pc L (.int y :: .int x :: .ref a :: rest) M z k n Φ := by
  intro D dA base p l e s mid args below meth c C H locs ls hR hS hL
  have hT := C.2.2.2.2.2.2.2.2.2.1
  have hc := gAt.arr (by decide) (hR.2 a _ ho).1
  refine W.zast C.1 C.2.1 hc ((gArr hT 2 (by decide)).1 N (fun j => .int (f j))) (fun q => by cases q) (by show ¬ (x < 0 ∨ (arrV _ _ _).slots.size ≤ _); rw [arrV_size]; exact hin) rfl rfl d fun H1 e1 e2 e3 => ?_
  refine h D dA base p l e s mid args below meth c C H1 _ ls (hR.put ho rfl (gAt.mk (by decide) ?_) e2 e3) (va_S_put hS e2 e3 ((hR.2 a _ ho).2 rfl)) hL
  rw [e1, hv, vp_cell_i, vp_cell_i, arrV_store]
  congr 2
  funext q
  by_cases hq : q = x.toNatClampNeg
  · subst hq; simp [updV, upd]
  · simp [updV, upd, hq]
theorem g_cast {f : Nat → Int32} (d : dc m pc .castore 1) (ho : M a = some (aC N f)) (hin : ¬ (x < 0 ∨ N ≤ x.toNatClampNeg)) (hv : narrow .char (.int y) = .int y) (h : WP m (pc + 1) L rest (hpu M a (aC N (upd f x.toNatClampNeg y))) z k n Φ) : WP m pc L (.int y :: .int x :: .ref a :: rest) M z k n Φ := by
  intro D dA base p l e s mid args below meth c C H locs ls hR hS hL
  have hT := C.2.2.2.2.2.2.2.2.2.1
  have hc := gAt.arr (by decide) (hR.2 a _ ho).1
  refine W.cast C.1 C.2.1 hc ((gArr hT 1 (by decide)).1 N (fun j => .int (f j))) (fun q => by cases q) (by show ¬ (x < 0 ∨ (arrV _ _ _).slots.size ≤ _); rw [arrV_size]; exact hin) rfl rfl d fun H1 e1 e2 e3 => ?_
  refine h D dA base p l e s mid args below meth c C H1 _ ls (hR.put ho rfl (gAt.mk (by decide) ?_) e2 e3) (va_S_put hS e2 e3 ((hR.2 a _ ho).2 rfl)) hL
  rw [e1, hv, vp_cell_i, vp_cell_i, arrV_store]
  congr 2
  funext q
  by_cases hq : q = x.toNatClampNeg
  · subst hq; simp [updV, upd]
  · simp [updV, upd, hq]
theorem g_last {f : Nat → Int64} {yl : Int64} (d : dc m pc .lastore 1) (ho : M a = some (aJ N f)) (hin : ¬ (x < 0 ∨ N ≤ x.toNatClampNeg)) (h : WP m (pc + 1) L rest (hpu M a (aJ N (vp_updL f x.toNatClampNeg yl))) z k n Φ) : WP m pc L (.long yl :: .int x :: .ref a :: rest) M z k n Φ := by
  intro D dA base p l e s mid args below meth c C H locs ls hR hS hL
  have hT := C.2.2.2.2.2.2.2.2.2.1
  have hc := gAt.arr (by decide) (hR.2 a _ ho).1
  refine W.last C.1 C.2.1 hc ((gArr hT 3 (by decide)).1 N (fun j => .long (f j))) (fun q => by cases q) (by show ¬ (x < 0 ∨ (arrV _ _ _).slots.size ≤ _); rw [arrV_size]; exact hin) rfl rfl d fun H1 e1 e2 e3 => ?_
  refine h D dA base p l e s mid args below meth c C H1 _ ls (hR.put ho rfl (gAt.mk (by decide) ?_) e2 e3) (va_S_put hS e2 e3 ((hR.2 a _ ho).2 rfl)) hL
  rw [e1, vp_cell_l, vp_cell_l, arrV_store]
  congr 2
  funext q
  by_cases hq : q = x.toNatClampNeg
  · subst hq; simp [updV, vp_updL]
  · simp [updV, vp_updL, hq]
theorem g_aast0 {f : Nat → Option Nat} {kd b cj : Nat} {gs : List Value} {r : vw_C} (d : dc m pc .aastore 1) (hkd : kd < 6) (ho : M a = some (.inl (kd, N, .inr (.inr (.inr (.inr f)))))) (hty : gty kd = .object r.1) (hb : M b = some (.inr (cj, gs))) (hcj : vwCl[cj]? = some r) (hin : ¬ (x < 0 ∨ N ≤ x.toNatClampNeg)) (h : WP m (pc + 1) L rest (hpu M a (.inl (kd, N, .inr (.inr (.inr (.inr (va_up f x.toNatClampNeg (some b)))))))) z k n Φ) : WP m pc L (.ref b :: .int x :: .ref a :: rest) M z k n Φ := by
  intro D dA base p l e s mid args below meth c C H locs ls hR hS hL
  have hT := C.2.2.2.2.2.2.2.2.2.1
  have hk9 : kd ≠ 9 := by omega
  have hc := gAt.arr hk9 (hR.2 a _ ho).1
  have hA := gArr hT kd hkd
  rw [hty] at hA
  obtain ⟨r', hr', cellV, g1, g2, g3, -⟩ := (hR.2 b _ hb).1
  have hrr : r' = r := Option.some.inj (hr'.symm.trans hcj)
  subst hrr
  have hcls := (hT.1.1 cj r' hcj).2
  obtain ⟨kA, comp, k1, k2, k3, -⟩ := hA.2
  have hcomp : comp = D.1 cj := Option.some.inj (k3.symm.trans hcls.1)
  subst hcomp
  obtain ⟨kC, hkC, hkind⟩ := hcls.2
  have hro : gro (.inl (kd, N, .inr (.inr (.inr (.inr f))))) = false := by simp [gro, hk9]
  refine W.aast (cv := cellV) (k := kA) (kv := kC) (kcomp := kC) (comp := D.1 cj) (t := .object r'.1) C.1 C.2.1 hc (fun q h => by cases h) (fun q => by cases q) k1 k2 rfl hkC (by
      refine ⟨fun q => hin (Or.inl q), ?_⟩
      show _ < (arrV _ _ _).slots.size
      rw [arrV_size]; exact gin hin) g1 (by rw [g3]; exact fun q h => by cases h) (by rw [g2]; exact hkC) (by rw [g2]; exact va_assign hcls) rfl rfl d fun H1 e1 e2 e3 => ?_
  refine h D dA base p l e s mid args below meth c C H1 _ ls (hR.put ho hro (gAt.mk hk9 ?_) e2 e3) (va_S_put hS e2 e3 ((hR.2 a _ ho).2 hro)) hL
  rw [e1, vp_cell_q, vp_cell_q, arrV_store]
  congr 2
  funext q
  by_cases hq : q = x.toNatClampNeg
  · subst hq; simp [updV, va_up, va_rf]
  · simp [updV, va_up, hq]
theorem g_alenX {f : Nat → Int32} (d : dc m pc .arraylength 1) (ho : M a = some (aX N f)) (h : WP m (pc + 1) L (.int (Int32.ofNat N) :: rest) M z k n Φ) : WP m pc L (.ref a :: rest) M z k n Φ := by
  intro D dA base p l e s mid args below meth c C H locs ls hR hS hL
  have hT := C.2.2.2.2.2.2.2.2.2.1
  obtain ⟨scr, g, h0, h1, h2, h3, h4, h5, h6⟩ := (by simpa [gAt, aX] using (hR.2 a _ ho).1 : ∃ (scr : Cell) (g : Nat → Int32), f = g ∧ H[a]? = some scr ∧ scr.cls = dA 9 ∧ scr.vm ≠ .unknown ∧ (∀ k, scr.vm ≠ .statics k) ∧ scr.slots.size = N ∧ ∀ j : Nat, j < N → scr.slots[j]? = some (.int (g j)))
  have harr : s.isArrayOf scr .int := ⟨h4, by rw [h2]; exact (hT.2.1 0 (fun _ => .null)).2⟩
  exact W.alen (n := Int32.ofNat N) C.1 C.2.1 h1 harr (by rw [h5] <;> rfl) rfl rfl d (h D dA base p l e s mid args below meth c C H locs ls hR hS hL)
theorem g_ialdX {f : Nat → Int32} (d : dc m pc .iaload 1) (ho : M a = some (aX N f)) (hin : ¬ (x < 0 ∨ N ≤ x.toNatClampNeg)) (h : WP m (pc + 1) L (.int (f x.toNatClampNeg) :: rest) M z k n Φ) : WP m pc L (.int x :: .ref a :: rest) M z k n Φ := by
  intro D dA base p l e s mid args below meth c C H locs ls hR hS hL
  have hT := C.2.2.2.2.2.2.2.2.2.1
  obtain ⟨scr, g, h0, h1, h2, h3, h4, h5, h6⟩ := (by simpa [gAt, aX] using (hR.2 a _ ho).1 : ∃ (scr : Cell) (g : Nat → Int32), f = g ∧ H[a]? = some scr ∧ scr.cls = dA 9 ∧ scr.vm ≠ .unknown ∧ (∀ k, scr.vm ≠ .statics k) ∧ scr.slots.size = N ∧ ∀ j : Nat, j < N → scr.slots[j]? = some (.int (g j)))
  have harr : s.isArrayOf scr .int := ⟨h4, by rw [h2]; exact (hT.2.1 0 (fun _ => .null)).2⟩
  subst h0
  exact W.iald (v := .int (f x.toNatClampNeg)) C.1 C.2.1 h1 harr h3 (by rw [h5]; exact hin) (h6 _ (gin hin)) rfl rfl d (h D dA base p l e s mid args below meth c C H locs ls hR hS hL)
end HEAP
