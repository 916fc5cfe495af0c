section P15
theorem plX0 : Jvm.plainName RX0 = true := by decide
theorem plX1 : Jvm.plainName RX1 = true := by decide
theorem plX2 : Jvm.plainName RX2 = true := by decide
theorem plX3 : Jvm.plainName RX3 = true := by decide
theorem plX4 : Jvm.plainName RX4 = true := by decide
theorem plX5 : Jvm.plainName RX5 = true := by decide
theorem plX6 : Jvm.plainName RX6 = true := by decide
theorem plX7 : Jvm.plainName RX7 = true := by decide
theorem plX8 : Jvm.plainName RX8 = true := by decide
theorem plL : Jvm.plainName RL = true := by decide
theorem plJ_abs : plainFor yJ_abs = true := by decide +kernel
theorem plJ_max : plainFor yJ_max = true := by decide +kernel
theorem plJ_min : plainFor yJ_min = true := by decide +kernel
theorem plJ_floorMod : plainFor yJ_floorMod = true := by decide +kernel
theorem runs_ofF {m : GM} {as : List Value} {M : Hp} {z : Nat} {Φ : GR → Hp → Nat → Prop} (hpl : plainFor (gy m) = true) (hh : ghh m = []) (hlen : (gLs as).length ≤ gl m)
    (h : WP m 0 (gL0 as (gl m)) [] M z 0 0 Φ) : Runs m as M z Φ := by
  intro l hl D dA base
  have hcw : gcw m = Cond.code (gy m) (gc m) (gl m) (gr m) := by simp only [gcw, hh]
  refine MetFree.of_bodySF (code := gc m) (maxLocals := gl m) (ret := gr m) hpl ?_ ?_
  · intro args s mid h hn
    obtain ⟨meth, c, h1, h2, h3, h4, h5, h6, -, -⟩ := Cond.code_spec hn (atoms_spec (ws := gws m) h _ (by rw [gws, hcw]; exact List.mem_cons_self))
    exact ⟨meth, c, h1, h2, h3, h4, h5, h6⟩
  · intro p e s mid args below meth c s₁ B hml hv _
    have hh0 : s₁.heap = s.heap := by rw [B.state]; rfl
    have ht : ∀ x ∈ c.exceptionTable.toList, False := by
      obtain ⟨meth9, c9, h1, h2, -, -, -, -, h7, -⟩ := Cond.code_spec B.named (atoms_spec (ws := gws m) B.pre _ (by rw [gws, hcw]; exact List.mem_cons_self))
      cases Option.some.inj (h1.symm.trans B.method)
      cases Option.some.inj (h2.symm.trans (Stand.of_body B).code)
      intro x hx
      rw [Array.isEmpty_iff.mp h7] at hx
      cases hx
    obtain ⟨rfl, h1, h2, h3, h4⟩ := hv
    have hts := atoms_spec (ws := gws m) B.pre
    have C : GC m D dA base p l s mid as.toArray meth c := ⟨B.exec, B.bytes, hml, findClass_of_methodNamed B.named, fun w hw => hts w (List.mem_cons_of_mem _ hw), B.notSynchronized, hl, (name_of_methodNamed B.named B.method).1, B.returns, h1, h2, h3, by rw [hh]; exact ht⟩
    have h5 := h D dA base p l e s mid as.toArray below meth c C s.heap [] _ h4 va_S.rf (LRep.entry as hlen)
    obtain ⟨t, a1, o, b1, b2, b3⟩ := (by rw [lg_entry_eq]; exact h5 : W p l e (grm m) s mid as.toArray below meth c s.heap [] 0 0 (vx_MQ below (gQ Φ D dA base) (gX Φ D dA base) as.toArray s (gce m) (gsl m) (gA base)) (entryFrame mid as.toArray (gl m))) s₁ hh0 (Stand.of_body B)
    exact ⟨t, o, a1, b1, b2, b3⟩
theorem g_iincN_0 {m : GM} {pc z k n j q : Nat} {T : List (Option Value)} {rest : List Value} {M : Hp} {Φ : GR → Hp → Nat → Prop} {c : Int} (d : dc m pc (.iinc 0 c) 3) (hv : Int32.ofInt c = nI q) (h : WP m (pc + 3) (some (.int (nI (j + q))) :: T) rest M z k n Φ) : WP m pc (some (.int (nI j)) :: T) rest M z k n Φ := g_iinc_0 d hv (by rw [nI_add]; exact h)
theorem g_iincN_1 {m : GM} {pc z k n j q : Nat} {T : List (Option Value)} {rest : List Value} {M : Hp} {Φ : GR → Hp → Nat → Prop} {p0 : Option Value} {c : Int} (hp : gw1 p0 = true) (d : dc m pc (.iinc 1 c) 3) (hv : Int32.ofInt c = nI q) (h : WP m (pc + 3) (p0 :: some (.int (nI (j + q))) :: T) rest M z k n Φ) : WP m pc (p0 :: some (.int (nI j)) :: T) rest M z k n Φ := g_iinc_1 hp d hv (by rw [nI_add]; exact h)
theorem g_iincN_2 {m : GM} {pc z k n j q : Nat} {T : List (Option Value)} {rest : List Value} {M : Hp} {Φ : GR → Hp → Nat → Prop} {p0 p1 : Option Value} {c : Int} (hp : gw1 p1 = true) (d : dc m pc (.iinc 2 c) 3) (hv : Int32.ofInt c = nI q) (h : WP m (pc + 3) (p0 :: p1 :: some (.int (nI (j + q))) :: T) rest M z k n Φ) : WP m pc (p0 :: p1 :: some (.int (nI j)) :: T) rest M z k n Φ := g_iinc_2 hp d hv (by rw [nI_add]; exact h)
theorem g_iincN_3 {m : GM} {pc z k n j q : Nat} {T : List (Option Value)} {rest : List Value} {M : Hp} {Φ : GR → Hp → Nat → Prop} {p0 p1 p2 : Option Value} {c : Int} (hp : gw1 p2 = true) (d : dc m pc (.iinc 3 c) 3) (hv : Int32.ofInt c = nI q) (h : WP m (pc + 3) (p0 :: p1 :: p2 :: some (.int (nI (j + q))) :: T) rest M z k n Φ) : WP m pc (p0 :: p1 :: p2 :: some (.int (nI j)) :: T) rest M z k n Φ := g_iinc_3 hp d hv (by rw [nI_add]; exact h)
theorem g_iincN_4 {m : GM} {pc z k n j q : Nat} {T : List (Option Value)} {rest : List Value} {M : Hp} {Φ : GR → Hp → Nat → Prop} {p0 p1 p2 p3 : Option Value} {c : Int} (hp : gw1 p3 = true) (d : dc m pc (.iinc 4 c) 3) (hv : Int32.ofInt c = nI q) (h : WP m (pc + 3) (p0 :: p1 :: p2 :: p3 :: some (.int (nI (j + q))) :: T) rest M z k n Φ) : WP m pc (p0 :: p1 :: p2 :: p3 :: some (.int (nI j)) :: T) rest M z k n Φ := g_iinc_4 hp d hv (by rw [nI_add]; exact h)
theorem g_iincN_5 {m : GM} {pc z k n j q : Nat} {T : List (Option Value)} {rest : List Value} {M : Hp} {Φ : GR → Hp → Nat → Prop} {p0 p1 p2 p3 p4 : Option Value} {c : Int} (hp : gw1 p4 = true) (d : dc m pc (.iinc 5 c) 3) (hv : Int32.ofInt c = nI q) (h : WP m (pc + 3) (p0 :: p1 :: p2 :: p3 :: p4 :: some (.int (nI (j + q))) :: T) rest M z k n Φ) : WP m pc (p0 :: p1 :: p2 :: p3 :: p4 :: some (.int (nI j)) :: T) rest M z k n Φ := g_iinc_5 hp d hv (by rw [nI_add]; exact h)
theorem g_iincN_6 {m : GM} {pc z k n j q : Nat} {T : List (Option Value)} {rest : List Value} {M : Hp} {Φ : GR → Hp → Nat → Prop} {p0 p1 p2 p3 p4 p5 : Option Value} {c : Int} (hp : gw1 p5 = true) (d : dc m pc (.iinc 6 c) 3) (hv : Int32.ofInt c = nI q) (h : WP m (pc + 3) (p0 :: p1 :: p2 :: p3 :: p4 :: p5 :: some (.int (nI (j + q))) :: T) rest M z k n Φ) : WP m pc (p0 :: p1 :: p2 :: p3 :: p4 :: p5 :: some (.int (nI j)) :: T) rest M z k n Φ := g_iinc_6 hp d hv (by rw [nI_add]; exact h)
theorem g_iincN_7 {m : GM} {pc z k n j q : Nat} {T : List (Option Value)} {rest : List Value} {M : Hp} {Φ : GR → Hp → Nat → Prop} {p0 p1 p2 p3 p4 p5 p6 : Option Value} {c : Int} (hp : gw1 p6 = true) (d : dc m pc (.iinc 7 c) 3) (hv : Int32.ofInt c = nI q) (h : WP m (pc + 3) (p0 :: p1 :: p2 :: p3 :: p4 :: p5 :: p6 :: some (.int (nI (j + q))) :: T) rest M z k n Φ) : WP m pc (p0 :: p1 :: p2 :: p3 :: p4 :: p5 :: p6 :: some (.int (nI j)) :: T) rest M z k n Φ := g_iinc_7 hp d hv (by rw [nI_add]; exact h)
theorem g_iincN_8 {m : GM} {pc z k n j q : Nat} {T : List (Option Value)} {rest : List Value} {M : Hp} {Φ : GR → Hp → Nat → Prop} {p0 p1 p2 p3 p4 p5 p6 p7 : Option Value} {c : Int} (hp : gw1 p7 = true) (d : dc m pc (.iinc 8 c) 3) (hv : Int32.ofInt c = nI q) (h : WP m (pc + 3) (p0 :: p1 :: p2 :: p3 :: p4 :: p5 :: p6 :: p7 :: some (.int (nI (j + q))) :: T) rest M z k n Φ) : WP m pc (p0 :: p1 :: p2 :: p3 :: p4 :: p5 :: p6 :: p7 :: some (.int (nI j)) :: T) rest M z k n Φ := g_iinc_8 hp d hv (by rw [nI_add]; exact h)
theorem g_iincN_9 {m : GM} {pc z k n j q : Nat} {T : List (Option Value)} {rest : List Value} {M : Hp} {Φ : GR → Hp → Nat → Prop} {p0 p1 p2 p3 p4 p5 p6 p7 p8 : Option Value} {c : Int} (hp : gw1 p8 = true) (d : dc m pc (.iinc 9 c) 3) (hv : Int32.ofInt c = nI q) (h : WP m (pc + 3) (p0 :: p1 :: p2 :: p3 :: p4 :: p5 :: p6 :: p7 :: p8 :: some (.int (nI (j + q))) :: T) rest M z k n Φ) : WP m pc (p0 :: p1 :: p2 :: p3 :: p4 :: p5 :: p6 :: p7 :: p8 :: some (.int (nI j)) :: T) rest M z k n Φ := g_iinc_9 hp d hv (by rw [nI_add]; exact h)
/-- a truth value as an int -/
def bI (b : Bool) : Int32 := if b then nI 1 else nI 0
theorem bI_t : bI true = nI 1 := rfl
theorem bI_f : bI false = nI 0 := rfl
theorem bI_narrow (b : Bool) : narrow .boolean (.int (bI b)) = .int (bI b) := by cases b <;> rfl
theorem bI_0 (b : Bool) : bI b = 0 ↔ b = false := by cases b <;> decide
theorem gDb {v : Int32} {b : Bool} {M : Hp} {z : Nat} (h : v = bI b) : gD (some (.int (bI b))) M z (.inl (some (.int v))) M z := gDi h
theorem gBt {b : Bool} (h : b = true) : nI 1 = bI b := by rw [h]; rfl
theorem gBf {b : Bool} (h : b = false) : nI 0 = bI b := by rw [h]; rfl
theorem g_if_eqB {m : GM} {pc z k n tgt : Nat} {L : List (Option Value)} {rest : List Value} {M : Hp} {Φ : GR → Hp → Nat → Prop} {off : Int} {b : Bool} (d : dc m pc (.ifCond .eq off) 3) (ht : (pc : Int) + off = (tgt : Int)) (h1 : b = false → WP m tgt L rest M z k n Φ) (h2 : b = true → WP m (pc + 3) L rest M z k n Φ) : WP m pc L (.int (bI b) :: rest) M z k n Φ :=
  g_if_eq d ht (fun h => h1 ((bI_0 b).mp h)) (fun h => h2 (by cases b <;> simp_all [bI_0]))
theorem g_if_neB {m : GM} {pc z k n tgt : Nat} {L : List (Option Value)} {rest : List Value} {M : Hp} {Φ : GR → Hp → Nat → Prop} {off : Int} {b : Bool} (d : dc m pc (.ifCond .ne off) 3) (ht : (pc : Int) + off = (tgt : Int)) (h1 : b = true → WP m tgt L rest M z k n Φ) (h2 : b = false → WP m (pc + 3) L rest M z k n Φ) : WP m pc L (.int (bI b) :: rest) M z k n Φ :=
  g_if_ne d ht (fun h => h1 (by cases b <;> simp_all [bI_0])) (fun h => h2 ((bI_0 b).mp h))
/-- counting, summing -/
def cnt (P : Nat → Bool) : Nat → Nat
  | 0 => 0
  | n + 1 => cnt P n + (if P n then 1 else 0)
theorem cnt_t {P : Nat → Bool} {n : Nat} (h : P n = true) : cnt P (n + 1) = cnt P n + 1 := by simp [cnt, h]
theorem cnt_f {P : Nat → Bool} {n : Nat} (h : P n = false) : cnt P (n + 1) = cnt P n + 0 := by simp [cnt, h]
theorem cnt_le (P : Nat → Bool) : ∀ n, cnt P n ≤ n
  | 0 => Nat.le_refl _
  | n + 1 => by have := cnt_le P n; simp only [cnt]; split <;> omega
theorem cnt_congr {P Q : Nat → Bool} : ∀ {n : Nat}, (∀ i, i < n → P i = Q i) → cnt P n = cnt Q n
  | 0, _ => rfl
  | n + 1, h => by simp only [cnt, cnt_congr (n := n) (fun i hi => h i (by omega)), h n (by omega)]
def sumI (g : Nat → Int32) : Nat → Int32
  | 0 => nI 0
  | n + 1 => sumI g n + g n
theorem sumI_v {g : Nat → Int32} {n : Nat} {v : Int32} (h : g n = v) : sumI g (n + 1) = sumI g n + v := by rw [← h]; rfl
theorem sumI_congr {f g : Nat → Int32} : ∀ {n : Nat}, (∀ i, i < n → f i = g i) → sumI f n = sumI g n
  | 0, _ => rfl
  | n + 1, h => by simp only [sumI, sumI_congr (n := n) (fun i hi => h i (by omega)), h n (by omega)]
def CanvasAt (M : Hp) (c : Nat) (p q h : Nat → Int32) : Prop := M c = some (.inr (1, [.ref (c + 1), .ref (c + 2), .ref (c + 3)])) ∧ M (c + 1) = some (aI 144 p) ∧ M (c + 2) = some (aI 144 q) ∧ M (c + 3) = some (aI 144 h)
/-- the loop that a cell's number tells -/
def lpv (x : Int32) : Int32 := if x < 0 then -1 else x
def missB (p q : Nat → Int32) (j : Nat) : Bool := decide (p j ≠ -1) && decide (lpv (q j) = -1)
/-- the cell beside a cell -/
def besd (j hd : Nat) : Option Nat := if hd = 0 then (if j % 12 < 11 then some (j + 1) else none) else if hd = 1 then (if j / 12 < 11 then some (j + 12) else none) else if hd = 2 then (if 0 < j % 12 then some (j - 1) else none) else (if 0 < j / 12 then some (j - 12) else none)
def oI : Option Nat → Int32
  | none => -1
  | some k => nI k
theorem besd_lt {j hd k : Nat} (hj : j < 144) (h : besd j hd = some k) : k < 144 := by
  unfold besd at h
  split at h
  · split at h
    · cases h; omega
    · cases h
  · split at h
    · split at h
      · cases h; omega
      · cases h
    · split at h
      · split at h
        · cases h; omega
        · cases h
      · split at h
        · cases h; omega
        · cases h
variable {M : Hp} {z c j : Nat} {p q h : Nat → Int32} {x y : Int32}
theorem c_max {i : Nat} (hi : i < 2 ^ 31) (hj : j < 2 ^ 31) : Runs mJ_max [.int (nI i), .int (nI j)] M z (gD (some (.int (nI (max i j)))) M z) := by
  refine runs_ofF plJ_max rfl (Nat.le_of_ble_eq_true rfl) ?_
  show WP mJ_max 0 [some (.int (nI i)), some (.int (nI j))] [] M z 0 0 _
  refine g_iload_0 dJ_max_0 ?_
  refine g_iload_1 dJ_max_1 ?_
  refine g_icmp_ltN (tgt := 9) dJ_max_2 (by decide) (by omega) (by omega) (fun h2 => ?_) (fun h2 => ?_)
  · refine g_iload_1 dJ_max_9 ?_
    exact g_ireturn rfl rfl dJ_max_10 (Nat.le_of_ble_eq_true rfl) (Nat.le_of_ble_eq_true rfl) (gDi (by congr 1; omega))
  · refine g_iload_0 dJ_max_5 ?_
    refine g_goto (tgt := 10) dJ_max_6 (by decide) ?_
    exact g_ireturn rfl rfl dJ_max_10 (Nat.le_of_ble_eq_true rfl) (Nat.le_of_ble_eq_true rfl) (gDi (by congr 1; omega))
theorem c_min {i : Nat} (hi : i < 2 ^ 31) (hj : j < 2 ^ 31) : Runs mJ_min [.int (nI i), .int (nI j)] M z (gD (some (.int (nI (min i j)))) M z) := by
  refine runs_ofF plJ_min rfl (Nat.le_of_ble_eq_true rfl) ?_
  show WP mJ_min 0 [some (.int (nI i)), some (.int (nI j))] [] M z 0 0 _
  refine g_iload_0 dJ_min_0 ?_
  refine g_iload_1 dJ_min_1 ?_
  refine g_icmp_gtN (tgt := 9) dJ_min_2 (by decide) (by omega) (by omega) (fun h2 => ?_) (fun h2 => ?_)
  · refine g_iload_1 dJ_min_9 ?_
    exact g_ireturn rfl rfl dJ_min_10 (Nat.le_of_ble_eq_true rfl) (Nat.le_of_ble_eq_true rfl) (gDi (by congr 1; omega))
  · refine g_iload_0 dJ_min_5 ?_
    refine g_goto (tgt := 10) dJ_min_6 (by decide) ?_
    exact g_ireturn rfl rfl dJ_min_10 (Nat.le_of_ble_eq_true rfl) (Nat.le_of_ble_eq_true rfl) (gDi (by congr 1; omega))
theorem c_abs  : Runs mJ_abs [.int x] M z (gD (some (.int (if 0 ≤ x then x else 0 - x))) M z) := by
  refine runs_ofF plJ_abs rfl (Nat.le_of_ble_eq_true rfl) ?_
  show WP mJ_abs 0 [some (.int x)] [] M z 0 0 _
  refine g_iload_0 dJ_abs_0 ?_
  refine g_if_ge (tgt := 9) dJ_abs_1 (by decide)  (fun h1 => ?_) (fun h1 => ?_)
  · refine g_iload_0 dJ_abs_9 ?_
    exact g_ireturn rfl rfl dJ_abs_10 (Nat.le_of_ble_eq_true rfl) (Nat.le_of_ble_eq_true rfl) (gDi (by simp [h1]))
  · refine g_iload_0 dJ_abs_4 ?_
    refine g_ineg dJ_abs_5 ?_
    refine g_goto (tgt := 10) dJ_abs_6 (by decide) ?_
    exact g_ireturn rfl rfl dJ_abs_10 (Nat.le_of_ble_eq_true rfl) (Nat.le_of_ble_eq_true rfl) (gDi (by simp [h1]))
theorem c_yarnForLoop  : Runs mX7_yarnForLoop [.int x] M z (gD (some (.int (nI 2 * x + nI 4))) M z) := by
  refine runs_of plX7 rfl (Nat.le_of_ble_eq_true rfl) ?_
  show WP mX7_yarnForLoop 0 [some (.int x)] [] M z 0 0 _
  refine g_iconst (v := nI 2) dX7_yarnForLoop_0 rfl ?_
  refine g_iload_0 dX7_yarnForLoop_1 ?_
  refine g_imul dX7_yarnForLoop_2 ?_
  refine g_iconst (v := nI 4) dX7_yarnForLoop_3 rfl ?_
  refine g_iadd dX7_yarnForLoop_4 ?_
  exact g_ireturn rfl rfl dX7_yarnForLoop_5 (Nat.le_of_ble_eq_true rfl) (Nat.le_of_ble_eq_true rfl) (gDi rfl)
theorem c_beside0 (hj : j < 144) : Runs mX7_beside [.int (nI j), .int (nI 0)] M z (gD (some (.int (oI (besd j 0)))) M z) := by
  refine runs_of plX7 rfl (Nat.le_of_ble_eq_true rfl) ?_
  show WP mX7_beside 0 [some (.int (nI j)), some (.int (nI 0)), none, none] [] M z 0 0 _
  refine g_iload_0 dX7_beside_0 ?_
  refine g_bipush (v := nI 12) dX7_beside_1 rfl ?_
  refine g_iremN dX7_beside_3 (by omega) (by omega) (by omega) ?_
  refine g_istore_2 rfl dX7_beside_4 ?_
  refine g_iload_0 dX7_beside_5 ?_
  refine g_bipush (v := nI 12) dX7_beside_6 rfl ?_
  refine g_idivN dX7_beside_8 (by omega) (by omega) (by omega) ?_
  refine g_istore_3 rfl dX7_beside_9 ?_
  refine g_iload_1 dX7_beside_10 ?_
  refine g_tabIn (off := 25) (tgt := 36) dX7_beside_11 (by decide) (by decide) (by decide) (by decide) ?_
  refine g_iload_2 dX7_beside_36 ?_
  refine g_bipush (v := nI 11) dX7_beside_37 rfl ?_
  refine g_icmp_geN (tgt := 48) dX7_beside_39 (by decide) (by omega) (by omega) (fun h39 => ?_) (fun h39 => ?_)
  · refine g_iconst (v := -1) dX7_beside_48 rfl ?_
    exact g_ireturn rfl rfl dX7_beside_49 (Nat.le_of_ble_eq_true rfl) (Nat.le_of_ble_eq_true rfl) (gDi (by simp [besd, oI, show ¬ j % 12 < 11 by omega]))
  · refine g_iload_0 dX7_beside_42 ?_
    refine g_iconst (v := nI 1) dX7_beside_43 rfl ?_
    refine g_iaddN dX7_beside_44 ?_
    refine g_goto (tgt := 49) dX7_beside_45 (by decide) ?_
    exact g_ireturn rfl rfl dX7_beside_49 (Nat.le_of_ble_eq_true rfl) (Nat.le_of_ble_eq_true rfl) (gDi (by simp [besd, oI, show j % 12 < 11 by omega]))
theorem c_beside1 (hj : j < 144) : Runs mX7_beside [.int (nI j), .int (nI 1)] M z (gD (some (.int (oI (besd j 1)))) M z) := by
  refine runs_of plX7 rfl (Nat.le_of_ble_eq_true rfl) ?_
  show WP mX7_beside 0 [some (.int (nI j)), some (.int (nI 1)), none, none] [] M z 0 0 _
  refine g_iload_0 dX7_beside_0 ?_
  refine g_bipush (v := nI 12) dX7_beside_1 rfl ?_
  refine g_iremN dX7_beside_3 (by omega) (by omega) (by omega) ?_
  refine g_istore_2 rfl dX7_beside_4 ?_
  refine g_iload_0 dX7_beside_5 ?_
  refine g_bipush (v := nI 12) dX7_beside_6 rfl ?_
  refine g_idivN dX7_beside_8 (by omega) (by omega) (by omega) ?_
  refine g_istore_3 rfl dX7_beside_9 ?_
  refine g_iload_1 dX7_beside_10 ?_
  refine g_tabIn (off := 39) (tgt := 50) dX7_beside_11 (by decide) (by decide) (by decide) (by decide) ?_
  refine g_iload_3 dX7_beside_50 ?_
  refine g_bipush (v := nI 11) dX7_beside_51 rfl ?_
  refine g_icmp_geN (tgt := 63) dX7_beside_53 (by decide) (by omega) (by omega) (fun h53 => ?_) (fun h53 => ?_)
  · refine g_iconst (v := -1) dX7_beside_63 rfl ?_
    exact g_ireturn rfl rfl dX7_beside_64 (Nat.le_of_ble_eq_true rfl) (Nat.le_of_ble_eq_true rfl) (gDi (by simp [besd, oI, show ¬ j / 12 < 11 by omega]))
  · refine g_iload_0 dX7_beside_56 ?_
    refine g_bipush (v := nI 12) dX7_beside_57 rfl ?_
    refine g_iaddN dX7_beside_59 ?_
    refine g_goto (tgt := 64) dX7_beside_60 (by decide) ?_
    exact g_ireturn rfl rfl dX7_beside_64 (Nat.le_of_ble_eq_true rfl) (Nat.le_of_ble_eq_true rfl) (gDi (by simp [besd, oI, show j / 12 < 11 by omega]))
theorem c_beside2 (hj : j < 144) : Runs mX7_beside [.int (nI j), .int (nI 2)] M z (gD (some (.int (oI (besd j 2)))) M z) := by
  refine runs_of plX7 rfl (Nat.le_of_ble_eq_true rfl) ?_
  show WP mX7_beside 0 [some (.int (nI j)), some (.int (nI 2)), none, none] [] M z 0 0 _
  refine g_iload_0 dX7_beside_0 ?_
  refine g_bipush (v := nI 12) dX7_beside_1 rfl ?_
  refine g_iremN dX7_beside_3 (by omega) (by omega) (by omega) ?_
  refine g_istore_2 rfl dX7_beside_4 ?_
  refine g_iload_0 dX7_beside_5 ?_
  refine g_bipush (v := nI 12) dX7_beside_6 rfl ?_
  refine g_idivN dX7_beside_8 (by omega) (by omega) (by omega) ?_
  refine g_istore_3 rfl dX7_beside_9 ?_
  refine g_iload_1 dX7_beside_10 ?_
  refine g_tabIn (off := 54) (tgt := 65) dX7_beside_11 (by decide) (by decide) (by decide) (by decide) ?_
  refine g_iload_2 dX7_beside_65 ?_
  refine g_if_leN (tgt := 75) dX7_beside_66 (by decide) (by omega) (fun h66 => ?_) (fun h66 => ?_)
  · refine g_iconst (v := -1) dX7_beside_75 rfl ?_
    exact g_ireturn rfl rfl dX7_beside_76 (Nat.le_of_ble_eq_true rfl) (Nat.le_of_ble_eq_true rfl) (gDi (by simp [besd, oI, show ¬ 0 < j % 12 by omega]))
  · refine g_iload_0 dX7_beside_69 ?_
    refine g_iconst (v := nI 1) dX7_beside_70 rfl ?_
    refine g_isubN dX7_beside_71 (by omega) ?_
    refine g_goto (tgt := 76) dX7_beside_72 (by decide) ?_
    exact g_ireturn rfl rfl dX7_beside_76 (Nat.le_of_ble_eq_true rfl) (Nat.le_of_ble_eq_true rfl) (gDi (by simp [besd, oI, show 0 < j % 12 by omega]))
theorem c_beside3 (hj : j < 144) : Runs mX7_beside [.int (nI j), .int (nI 3)] M z (gD (some (.int (oI (besd j 3)))) M z) := by
  refine runs_of plX7 rfl (Nat.le_of_ble_eq_true rfl) ?_
  show WP mX7_beside 0 [some (.int (nI j)), some (.int (nI 3)), none, none] [] M z 0 0 _
  refine g_iload_0 dX7_beside_0 ?_
  refine g_bipush (v := nI 12) dX7_beside_1 rfl ?_
  refine g_iremN dX7_beside_3 (by omega) (by omega) (by omega) ?_
  refine g_istore_2 rfl dX7_beside_4 ?_
  refine g_iload_0 dX7_beside_5 ?_
  refine g_bipush (v := nI 12) dX7_beside_6 rfl ?_
  refine g_idivN dX7_beside_8 (by omega) (by omega) (by omega) ?_
  refine g_istore_3 rfl dX7_beside_9 ?_
  refine g_iload_1 dX7_beside_10 ?_
  refine g_tabOut (tgt := 77) dX7_beside_11 (Or.inr (by decide)) (by decide) ?_
  refine g_iload_3 dX7_beside_77 ?_
  refine g_if_leN (tgt := 88) dX7_beside_78 (by decide) (by omega) (fun h78 => ?_) (fun h78 => ?_)
  · refine g_iconst (v := -1) dX7_beside_88 rfl ?_
    exact g_ireturn rfl rfl dX7_beside_89 (Nat.le_of_ble_eq_true rfl) (Nat.le_of_ble_eq_true rfl) (gDi (by simp [besd, oI, show ¬ 0 < j / 12 by omega]))
  · refine g_iload_0 dX7_beside_81 ?_
    refine g_bipush (v := nI 12) dX7_beside_82 rfl ?_
    refine g_isubN dX7_beside_84 (by omega) ?_
    refine g_goto (tgt := 89) dX7_beside_85 (by decide) ?_
    exact g_ireturn rfl rfl dX7_beside_89 (Nat.le_of_ble_eq_true rfl) (Nat.le_of_ble_eq_true rfl) (gDi (by simp [besd, oI, show 0 < j / 12 by omega]))
theorem c_beside {hd : Nat} (hj : j < 144) (hh : hd < 4) : Runs mX7_beside [.int (nI j), .int (nI hd)] M z (gD (some (.int (oI (besd j hd)))) M z) := by
  match hd, hh with
  | 0, _ => exact c_beside0 hj
  | 1, _ => exact c_beside1 hj
  | 2, _ => exact c_beside2 hj
  | 3, _ => exact c_beside3 hj
theorem c_planAt (hc : CanvasAt M c p q h) (hj : j < 144) : Runs mX1_planAt [.ref c, .int (nI j)] M z (gD (some (.int (p j))) M z) := by
  have hc0 := hc
  obtain ⟨h0, h1, h2, h3⟩ := hc
  refine runs_of plX1 rfl (Nat.le_of_ble_eq_true rfl) ?_
  show WP mX1_planAt 0 [some (.ref c), some (.int (nI j))] [] M z 0 0 _
  refine g_iload_1 dX1_planAt_0 ?_
  refine g_if_ltN (tgt := 20) dX1_planAt_1 (by decide) (by omega) ?_
  refine g_iload_1 dX1_planAt_4 ?_
  refine g_sipush (v := nI 144) dX1_planAt_5 rfl ?_
  refine g_icmp_geN (tgt := 20) dX1_planAt_8 (by decide) (by omega) (by omega) (fun h8 => absurd h8 (by omega)) (fun _ => ?_)
  refine g_aload_0 dX1_planAt_11 ?_
  refine g_get dX1_planAt_12 (fX1_9 rfl) (by assumption) rfl ?_
  refine g_iload_1 dX1_planAt_15 ?_
  refine g_ialdN dX1_planAt_16 (by assumption) (by omega) (by decide) ?_
  refine g_goto (tgt := 21) dX1_planAt_17 (by decide) ?_
  exact g_ireturn rfl rfl dX1_planAt_21 (Nat.le_of_ble_eq_true rfl) (Nat.le_of_ble_eq_true rfl) (gDi rfl)
theorem c_heightAt (hc : CanvasAt M c p q h) (hj : j < 144) : Runs mX1_heightAt [.ref c, .int (nI j)] M z (gD (some (.int (h j))) M z) := by
  have hc0 := hc
  obtain ⟨h0, h1, h2, h3⟩ := hc
  refine runs_of plX1 rfl (Nat.le_of_ble_eq_true rfl) ?_
  show WP mX1_heightAt 0 [some (.ref c), some (.int (nI j))] [] M z 0 0 _
  refine g_iload_1 dX1_heightAt_0 ?_
  refine g_if_ltN (tgt := 20) dX1_heightAt_1 (by decide) (by omega) ?_
  refine g_iload_1 dX1_heightAt_4 ?_
  refine g_sipush (v := nI 144) dX1_heightAt_5 rfl ?_
  refine g_icmp_geN (tgt := 20) dX1_heightAt_8 (by decide) (by omega) (by omega) (fun h8 => absurd h8 (by omega)) (fun _ => ?_)
  refine g_aload_0 dX1_heightAt_11 ?_
  refine g_get dX1_heightAt_12 (fX1_18 rfl) (by assumption) rfl ?_
  refine g_iload_1 dX1_heightAt_15 ?_
  refine g_ialdN dX1_heightAt_16 (by assumption) (by omega) (by decide) ?_
  refine g_goto (tgt := 21) dX1_heightAt_17 (by decide) ?_
  exact g_ireturn rfl rfl dX1_heightAt_21 (Nat.le_of_ble_eq_true rfl) (Nat.le_of_ble_eq_true rfl) (gDi rfl)
theorem c_loopAt (hc : CanvasAt M c p q h) (hj : j < 144) : Runs mX1_loopAt [.ref c, .int (nI j)] M z (gD (some (.int (lpv (q j)))) M z) := by
  have hc0 := hc
  obtain ⟨h0, h1, h2, h3⟩ := hc
  refine runs_of plX1 rfl (Nat.le_of_ble_eq_true rfl) ?_
  show WP mX1_loopAt 0 [some (.ref c), some (.int (nI j))] [] M z 0 0 _
  refine g_iload_1 dX1_loopAt_0 ?_
  refine g_if_ltN (tgt := 29) dX1_loopAt_1 (by decide) (by omega) ?_
  refine g_iload_1 dX1_loopAt_4 ?_
  refine g_sipush (v := nI 144) dX1_loopAt_5 rfl ?_
  refine g_icmp_geN (tgt := 29) dX1_loopAt_8 (by decide) (by omega) (by omega) (fun h8 => absurd h8 (by omega)) (fun _ => ?_)
  refine g_aload_0 dX1_loopAt_11 ?_
  refine g_get dX1_loopAt_12 (fX1_15 rfl) (by assumption) rfl ?_
  refine g_iload_1 dX1_loopAt_15 ?_
  refine g_ialdN dX1_loopAt_16 (by assumption) (by omega) (by decide) ?_
  refine g_if_lt (tgt := 29) dX1_loopAt_17 (by decide)  (fun h17 => ?_) (fun h17 => ?_)
  · refine g_iconst (v := -1) dX1_loopAt_29 rfl ?_
    exact g_ireturn rfl rfl dX1_loopAt_30 (Nat.le_of_ble_eq_true rfl) (Nat.le_of_ble_eq_true rfl) (gDi (by simp [lpv, h17]))
  · refine g_aload_0 dX1_loopAt_20 ?_
    refine g_get dX1_loopAt_21 (fX1_15 rfl) (by assumption) rfl ?_
    refine g_iload_1 dX1_loopAt_24 ?_
    refine g_ialdN dX1_loopAt_25 (by assumption) (by omega) (by decide) ?_
    refine g_goto (tgt := 30) dX1_loopAt_26 (by decide) ?_
    exact g_ireturn rfl rfl dX1_loopAt_30 (Nat.le_of_ble_eq_true rfl) (Nat.le_of_ble_eq_true rfl) (gDi (by simp [lpv, h17]))
theorem c_skippedAt (hc : CanvasAt M c p q h) (hj : j < 144) : Runs mX1_skippedAt [.ref c, .int (nI j)] M z (gD (some (.int (bI (decide (q j = -2))))) M z) := by
  have hc0 := hc
  obtain ⟨h0, h1, h2, h3⟩ := hc
  refine runs_of plX1 rfl (Nat.le_of_ble_eq_true rfl) ?_
  show WP mX1_skippedAt 0 [some (.ref c), some (.int (nI j))] [] M z 0 0 _
  refine g_iload_1 dX1_skippedAt_0 ?_
  refine g_if_ltN (tgt := 26) dX1_skippedAt_1 (by decide) (by omega) ?_
  refine g_iload_1 dX1_skippedAt_4 ?_
  refine g_sipush (v := nI 144) dX1_skippedAt_5 rfl ?_
  refine g_icmp_geN (tgt := 26) dX1_skippedAt_8 (by decide) (by omega) (by omega) (fun h8 => absurd h8 (by omega)) (fun _ => ?_)
  refine g_aload_0 dX1_skippedAt_11 ?_
  refine g_get dX1_skippedAt_12 (fX1_15 rfl) (by assumption) rfl ?_
  refine g_iload_1 dX1_skippedAt_15 ?_
  refine g_ialdN dX1_skippedAt_16 (by assumption) (by omega) (by decide) ?_
  refine g_bipush (v := -2) dX1_skippedAt_17 rfl ?_
  refine g_icmp_ne (tgt := 26) dX1_skippedAt_19 (by decide)  (fun h19 => ?_) (fun h19 => ?_)
  · refine g_iconst (v := nI 0) dX1_skippedAt_26 rfl ?_
    exact g_ireturn rfl rfl dX1_skippedAt_27 (Nat.le_of_ble_eq_true rfl) (Nat.le_of_ble_eq_true rfl) (gDb (by simp [bI, h19]))
  · refine g_iconst (v := nI 1) dX1_skippedAt_22 rfl ?_
    refine g_goto (tgt := 27) dX1_skippedAt_23 (by decide) ?_
    exact g_ireturn rfl rfl dX1_skippedAt_27 (Nat.le_of_ble_eq_true rfl) (Nat.le_of_ble_eq_true rfl) (gDb (by simp [bI, h19]))
theorem c_missingAt (hc : CanvasAt M c p q h) (hj : j < 144) : Runs mX1_missingAt [.ref c, .int (nI j)] M z (gD (some (.int (bI (missB p q j)))) M z) := by
  have hc0 := hc
  obtain ⟨h0, h1, h2, h3⟩ := hc
  refine runs_of plX1 rfl (Nat.le_of_ble_eq_true rfl) ?_
  show WP mX1_missingAt 0 [some (.ref c), some (.int (nI j))] [] M z 0 0 _
  refine g_aload_0 dX1_missingAt_0 ?_
  refine g_iload_1 dX1_missingAt_1 ?_
  refine g_v1_1 dX1_missingAt_2 (vX1_27 rfl) rfl (by assumption) (Nat.le_of_ble_eq_true rfl) ⟨rfl, rfl⟩ (Nat.le_of_ble_eq_true rfl) (Nat.le_of_ble_eq_true rfl) (c_planAt hc0 hj) ?_
  refine g_iconst (v := -1) dX1_missingAt_5 rfl ?_
  refine g_icmp_eq (tgt := 22) dX1_missingAt_6 (by decide)  (fun h6 => ?_) (fun h6 => ?_)
  · refine g_iconst (v := nI 0) dX1_missingAt_22 rfl ?_
    exact g_ireturn rfl rfl dX1_missingAt_23 (Nat.le_of_ble_eq_true rfl) (Nat.le_of_ble_eq_true rfl) (gDb (by simp [bI, missB, *]))
  · refine g_aload_0 dX1_missingAt_9 ?_
    refine g_iload_1 dX1_missingAt_10 ?_
    refine g_v1_1 dX1_missingAt_11 (vX1_31 rfl) rfl (by assumption) (Nat.le_of_ble_eq_true rfl) ⟨rfl, rfl⟩ (Nat.le_of_ble_eq_true rfl) (Nat.le_of_ble_eq_true rfl) (c_loopAt hc0 hj) ?_
    refine g_iconst (v := -1) dX1_missingAt_14 rfl ?_
    refine g_icmp_ne (tgt := 22) dX1_missingAt_15 (by decide)  (fun h15 => ?_) (fun h15 => ?_)
    · refine g_iconst (v := nI 0) dX1_missingAt_22 rfl ?_
      exact g_ireturn rfl rfl dX1_missingAt_23 (Nat.le_of_ble_eq_true rfl) (Nat.le_of_ble_eq_true rfl) (gDb (by simp [bI, missB, *]))
    · refine g_iconst (v := nI 1) dX1_missingAt_18 rfl ?_
      refine g_goto (tgt := 23) dX1_missingAt_19 (by decide) ?_
      exact g_ireturn rfl rfl dX1_missingAt_23 (Nat.le_of_ble_eq_true rfl) (Nat.le_of_ble_eq_true rfl) (gDb (by simp [bI, missB, *]))
theorem c_setPlanAt (hc : CanvasAt M c p q h) (hj : j < 144) : Runs mX1_setPlanAt [.ref c, .int (nI j), .int x] M z (gD none (hpu M (c + 1) (aI 144 (upd p j x))) z) := by
  have hc0 := hc
  obtain ⟨h0, h1, h2, h3⟩ := hc
  refine runs_of plX1 rfl (Nat.le_of_ble_eq_true rfl) ?_
  show WP mX1_setPlanAt 0 [some (.ref c), some (.int (nI j)), some (.int x)] [] M z 0 0 _
  refine g_iload_1 dX1_setPlanAt_0 ?_
  refine g_if_ltN (tgt := 18) dX1_setPlanAt_1 (by decide) (by omega) ?_
  refine g_iload_1 dX1_setPlanAt_4 ?_
  refine g_sipush (v := nI 144) dX1_setPlanAt_5 rfl ?_
  refine g_icmp_geN (tgt := 18) dX1_setPlanAt_8 (by decide) (by omega) (by omega) (fun h8 => absurd h8 (by omega)) (fun _ => ?_)
  refine g_aload_0 dX1_setPlanAt_11 ?_
  refine g_get dX1_setPlanAt_12 (fX1_9 rfl) (by assumption) rfl ?_
  refine g_iload_1 dX1_setPlanAt_15 ?_
  refine g_iload_2 dX1_setPlanAt_16 ?_
  refine g_iastN dX1_setPlanAt_17 (by assumption) (by omega) (by decide) ?_
  exact g_return rfl dX1_setPlanAt_18 (Nat.le_of_ble_eq_true rfl) (Nat.le_of_ble_eq_true rfl) (gDv rfl)
theorem c_putLoop (hc : CanvasAt M c p q h) (hj : j < 144) : Runs mX1_putLoop [.ref c, .int (nI j), .int x, .int y] M z (gD none (hpu (hpu M (c + 2) (aI 144 (upd q j x))) (c + 3) (aI 144 (upd h j y))) z) := by
  have hc0 := hc
  obtain ⟨h0, h1, h2, h3⟩ := hc
  refine runs_of plX1 rfl (Nat.le_of_ble_eq_true rfl) ?_
  show WP mX1_putLoop 0 [some (.ref c), some (.int (nI j)), some (.int x), some (.int y)] [] M z 0 0 _
  refine g_iload_1 dX1_putLoop_0 ?_
  refine g_if_ltN (tgt := 25) dX1_putLoop_1 (by decide) (by omega) ?_
  refine g_iload_1 dX1_putLoop_4 ?_
  refine g_sipush (v := nI 144) dX1_putLoop_5 rfl ?_
  refine g_icmp_geN (tgt := 25) dX1_putLoop_8 (by decide) (by omega) (by omega) (fun h8 => absurd h8 (by omega)) (fun _ => ?_)
  refine g_aload_0 dX1_putLoop_11 ?_
  refine g_get dX1_putLoop_12 (fX1_15 rfl) (by assumption) rfl ?_
  refine g_iload_1 dX1_putLoop_15 ?_
  refine g_iload_2 dX1_putLoop_16 ?_
  refine g_iastN dX1_putLoop_17 (by assumption) (by omega) (by decide) ?_
  refine g_aload_0 dX1_putLoop_18 ?_
  refine g_get dX1_putLoop_19 (fX1_18 rfl) (show hpu M (c + 2) _ c = _ by rw [hpu_ne _ _ (by omega)]; exact h0) rfl ?_
  refine g_iload_1 dX1_putLoop_22 ?_
  refine g_iload_3 dX1_putLoop_23 ?_
  refine g_iastN dX1_putLoop_24 (show hpu M (c + 2) _ (c + 3) = _ by rw [hpu_ne _ _ (by omega)]; exact h3) (by omega) (by decide) ?_
  exact g_return rfl dX1_putLoop_25 (Nat.le_of_ble_eq_true rfl) (Nat.le_of_ble_eq_true rfl) (gDv rfl)
theorem c_putSkipped (hc : CanvasAt M c p q h) (hj : j < 144) : Runs mX1_putSkipped [.ref c, .int (nI j)] M z (gD none (hpu (hpu M (c + 2) (aI 144 (upd q j (-2)))) (c + 3) (aI 144 (upd h j (nI 0)))) z) := by
  have hc0 := hc
  obtain ⟨h0, h1, h2, h3⟩ := hc
  refine runs_of plX1 rfl (Nat.le_of_ble_eq_true rfl) ?_
  show WP mX1_putSkipped 0 [some (.ref c), some (.int (nI j))] [] M z 0 0 _
  refine g_aload_0 dX1_putSkipped_0 ?_
  refine g_iload_1 dX1_putSkipped_1 ?_
  refine g_bipush (v := -2) dX1_putSkipped_2 rfl ?_
  refine g_iconst (v := nI 0) dX1_putSkipped_4 rfl ?_
  refine g_v3_0 dX1_putSkipped_5 (vX1_47 rfl) rfl (by assumption) (Nat.le_of_ble_eq_true rfl) ⟨rfl, rfl⟩ (Nat.le_of_ble_eq_true rfl) (Nat.le_of_ble_eq_true rfl) (c_putLoop hc0 hj) ?_
  exact g_return rfl dX1_putSkipped_8 (Nat.le_of_ble_eq_true rfl) (Nat.le_of_ble_eq_true rfl) (gDv rfl)
theorem c_clearCell (hc : CanvasAt M c p q h) (hj : j < 144) : Runs mX1_clearCell [.ref c, .int (nI j)] M z (gD none (hpu (hpu M (c + 2) (aI 144 (upd q j (-1)))) (c + 3) (aI 144 (upd h j (nI 0)))) z) := by
  have hc0 := hc
  obtain ⟨h0, h1, h2, h3⟩ := hc
  refine runs_of plX1 rfl (Nat.le_of_ble_eq_true rfl) ?_
  show WP mX1_clearCell 0 [some (.ref c), some (.int (nI j))] [] M z 0 0 _
  refine g_aload_0 dX1_clearCell_0 ?_
  refine g_iload_1 dX1_clearCell_1 ?_
  refine g_iconst (v := -1) dX1_clearCell_2 rfl ?_
  refine g_iconst (v := nI 0) dX1_clearCell_3 rfl ?_
  refine g_v3_0 dX1_clearCell_4 (vX1_47 rfl) rfl (by assumption) (Nat.le_of_ble_eq_true rfl) ⟨rfl, rfl⟩ (Nat.le_of_ble_eq_true rfl) (Nat.le_of_ble_eq_true rfl) (c_putLoop hc0 hj) ?_
  exact g_return rfl dX1_clearCell_7 (Nat.le_of_ble_eq_true rfl) (Nat.le_of_ble_eq_true rfl) (gDv rfl)
theorem c_countLoops_loop  (hc : CanvasAt M c p q h) : ∀ d i, i + d = 144 → WP mX1_countLoops 4 [some (.ref c), some (.int (nI (cnt (fun i => decide (0 ≤ q i)) i))), some (.int (nI i))] [] M z 0 0 (gD (some (.int (nI (cnt (fun i => decide (0 ≤ q i)) 144)))) M z) := by
  have hc0 := hc
  obtain ⟨h0, h1, h2, h3⟩ := hc
  intro d
  induction d with
  | zero =>
    intro i hi
    obtain rfl : i = 144 := by omega
    refine g_iload_2 dX1_countLoops_4 ?_
    refine g_sipush (v := nI 144) dX1_countLoops_5 rfl ?_
    refine g_icmp_geN (tgt := 34) dX1_countLoops_8 (by decide) (by omega) (by omega) (fun _ => ?_) (fun h8 => absurd h8 (by omega))
    refine g_iload_1 dX1_countLoops_34 ?_
    exact g_ireturn rfl rfl dX1_countLoops_35 (Nat.le_of_ble_eq_true rfl) (Nat.le_of_ble_eq_true rfl) (gDi rfl)
  | succ d ih =>
    intro i hi
    refine g_iload_2 dX1_countLoops_4 ?_
    refine g_sipush (v := nI 144) dX1_countLoops_5 rfl ?_
    refine g_icmp_geN (tgt := 34) dX1_countLoops_8 (by decide) (by omega) (by omega) (fun h8 => absurd h8 (by omega)) (fun _ => ?_)
    refine g_iload_1 dX1_countLoops_11 ?_
    refine g_aload_0 dX1_countLoops_12 ?_
    refine g_get dX1_countLoops_13 (fX1_15 rfl) (by assumption) rfl ?_
    refine g_iload_2 dX1_countLoops_16 ?_
    refine g_ialdN dX1_countLoops_17 (by assumption) (by omega) (by decide) ?_
    refine g_if_lt (tgt := 25) dX1_countLoops_18 (by decide)  (fun h18 => ?_) (fun h18 => ?_)
    · refine g_iconst (v := nI 0) dX1_countLoops_25 rfl ?_
      refine g_iaddN dX1_countLoops_26 ?_
      refine g_istore_1 rfl dX1_countLoops_27 ?_
      refine g_iincN_2 (q := 1) rfl dX1_countLoops_28 rfl ?_
      refine g_goto (tgt := 4) dX1_countLoops_31 (by decide) ?_
      have e := ih (i + 1) (by omega)
      first
        | rw [cnt_t (by simpa using h18)] at e; exact e
        | rw [cnt_f (by simpa using h18)] at e; exact e
    · refine g_iconst (v := nI 1) dX1_countLoops_21 rfl ?_
      refine g_goto (tgt := 26) dX1_countLoops_22 (by decide) ?_
      refine g_iaddN dX1_countLoops_26 ?_
      refine g_istore_1 rfl dX1_countLoops_27 ?_
      refine g_iincN_2 (q := 1) rfl dX1_countLoops_28 rfl ?_
      refine g_goto (tgt := 4) dX1_countLoops_31 (by decide) ?_
      have e := ih (i + 1) (by omega)
      first
        | rw [cnt_t (by simpa using h18)] at e; exact e
        | rw [cnt_f (by simpa using h18)] at e; exact e
theorem c_countLoops  (hc : CanvasAt M c p q h) : Runs mX1_countLoops [.ref c] M z (gD (some (.int (nI (cnt (fun i => decide (0 ≤ q i)) 144)))) M z) := by
  refine runs_of plX1 rfl (Nat.le_of_ble_eq_true rfl) ?_
  show WP mX1_countLoops 0 [some (.ref c), none, none] [] M z 0 0 _
  refine g_iconst (v := nI 0) dX1_countLoops_0 rfl ?_
  refine g_istore_1 rfl dX1_countLoops_1 ?_
  refine g_iconst (v := nI 0) dX1_countLoops_2 rfl ?_
  refine g_istore_2 rfl dX1_countLoops_3 ?_
  exact c_countLoops_loop hc 144 0 rfl
theorem c_countRight_loop  (hc : CanvasAt M c p q h) : ∀ d i, i + d = 144 → WP mX1_countRight 4 [some (.ref c), some (.int (nI (cnt (fun i => decide (0 ≤ q i) && decide (q i = p i)) i))), some (.int (nI i))] [] M z 0 0 (gD (some (.int (nI (cnt (fun i => decide (0 ≤ q i) && decide (q i = p i)) 144)))) M z) := by
  have hc0 := hc
  obtain ⟨h0, h1, h2, h3⟩ := hc
  intro d
  induction d with
  | zero =>
    intro i hi
    obtain rfl : i = 144 := by omega
    refine g_iload_2 dX1_countRight_4 ?_
    refine g_sipush (v := nI 144) dX1_countRight_5 rfl ?_
    refine g_icmp_geN (tgt := 49) dX1_countRight_8 (by decide) (by omega) (by omega) (fun _ => ?_) (fun h8 => absurd h8 (by omega))
    refine g_iload_1 dX1_countRight_49 ?_
    exact g_ireturn rfl rfl dX1_countRight_50 (Nat.le_of_ble_eq_true rfl) (Nat.le_of_ble_eq_true rfl) (gDi rfl)
  | succ d ih =>
    intro i hi
    refine g_iload_2 dX1_countRight_4 ?_
    refine g_sipush (v := nI 144) dX1_countRight_5 rfl ?_
    refine g_icmp_geN (tgt := 49) dX1_countRight_8 (by decide) (by omega) (by omega) (fun h8 => absurd h8 (by omega)) (fun _ => ?_)
    refine g_iload_1 dX1_countRight_11 ?_
    refine g_aload_0 dX1_countRight_12 ?_
    refine g_get dX1_countRight_13 (fX1_15 rfl) (by assumption) rfl ?_
    refine g_iload_2 dX1_countRight_16 ?_
    refine g_ialdN dX1_countRight_17 (by assumption) (by omega) (by decide) ?_
    refine g_if_lt (tgt := 40) dX1_countRight_18 (by decide)  (fun h18 => ?_) (fun h18 => ?_)
    · refine g_iconst (v := nI 0) dX1_countRight_40 rfl ?_
      refine g_iaddN dX1_countRight_41 ?_
      refine g_istore_1 rfl dX1_countRight_42 ?_
      refine g_iincN_2 (q := 1) rfl dX1_countRight_43 rfl ?_
      refine g_goto (tgt := 4) dX1_countRight_46 (by decide) ?_
      have e := ih (i + 1) (by omega)
      first
        | rw [cnt_t (by simp; exact ⟨by simpa using h18, h33⟩)] at e; exact e
        | rw [cnt_f (by simp; intro; exact h33)] at e; exact e
        | rw [cnt_f (by simp; intro h; exact absurd h (by simpa using h18))] at e; exact e
    · refine g_aload_0 dX1_countRight_21 ?_
      refine g_get dX1_countRight_22 (fX1_15 rfl) (by assumption) rfl ?_
      refine g_iload_2 dX1_countRight_25 ?_
      refine g_ialdN dX1_countRight_26 (by assumption) (by omega) (by decide) ?_
      refine g_aload_0 dX1_countRight_27 ?_
      refine g_get dX1_countRight_28 (fX1_9 rfl) (by assumption) rfl ?_
      refine g_iload_2 dX1_countRight_31 ?_
      refine g_ialdN dX1_countRight_32 (by assumption) (by omega) (by decide) ?_
      refine g_icmp_ne (tgt := 40) dX1_countRight_33 (by decide)  (fun h33 => ?_) (fun h33 => ?_)
      · refine g_iconst (v := nI 0) dX1_countRight_40 rfl ?_
        refine g_iaddN dX1_countRight_41 ?_
        refine g_istore_1 rfl dX1_countRight_42 ?_
        refine g_iincN_2 (q := 1) rfl dX1_countRight_43 rfl ?_
        refine g_goto (tgt := 4) dX1_countRight_46 (by decide) ?_
        have e := ih (i + 1) (by omega)
        first
          | rw [cnt_t (by simp; exact ⟨by simpa using h18, h33⟩)] at e; exact e
          | rw [cnt_f (by simp; intro; exact h33)] at e; exact e
          | rw [cnt_f (by simp; intro h; exact absurd h (by simpa using h18))] at e; exact e
      · refine g_iconst (v := nI 1) dX1_countRight_36 rfl ?_
        refine g_goto (tgt := 41) dX1_countRight_37 (by decide) ?_
        refine g_iaddN dX1_countRight_41 ?_
        refine g_istore_1 rfl dX1_countRight_42 ?_
        refine g_iincN_2 (q := 1) rfl dX1_countRight_43 rfl ?_
        refine g_goto (tgt := 4) dX1_countRight_46 (by decide) ?_
        have e := ih (i + 1) (by omega)
        first
          | rw [cnt_t (by simp; exact ⟨by simpa using h18, h33⟩)] at e; exact e
          | rw [cnt_f (by simp; intro; exact h33)] at e; exact e
          | rw [cnt_f (by simp; intro h; exact absurd h (by simpa using h18))] at e; exact e
theorem c_countRight  (hc : CanvasAt M c p q h) : Runs mX1_countRight [.ref c] M z (gD (some (.int (nI (cnt (fun i => decide (0 ≤ q i) && decide (q i = p i)) 144)))) M z) := by
  refine runs_of plX1 rfl (Nat.le_of_ble_eq_true rfl) ?_
  show WP mX1_countRight 0 [some (.ref c), none, none] [] M z 0 0 _
  refine g_iconst (v := nI 0) dX1_countRight_0 rfl ?_
  refine g_istore_1 rfl dX1_countRight_1 ?_
  refine g_iconst (v := nI 0) dX1_countRight_2 rfl ?_
  refine g_istore_2 rfl dX1_countRight_3 ?_
  exact c_countRight_loop hc 144 0 rfl
theorem c_countMissing_loop  (hc : CanvasAt M c p q h) : ∀ d i, i + d = 144 → WP mX1_countMissing 4 [some (.ref c), some (.int (nI (cnt (missB p q) i))), some (.int (nI i))] [] M z 0 0 (gD (some (.int (nI (cnt (missB p q) 144)))) M z) := by
  have hc0 := hc
  obtain ⟨h0, h1, h2, h3⟩ := hc
  intro d
  induction d with
  | zero =>
    intro i hi
    obtain rfl : i = 144 := by omega
    refine g_iload_2 dX1_countMissing_4 ?_
    refine g_sipush (v := nI 144) dX1_countMissing_5 rfl ?_
    refine g_icmp_geN (tgt := 33) dX1_countMissing_8 (by decide) (by omega) (by omega) (fun _ => ?_) (fun h8 => absurd h8 (by omega))
    refine g_iload_1 dX1_countMissing_33 ?_
    exact g_ireturn rfl rfl dX1_countMissing_34 (Nat.le_of_ble_eq_true rfl) (Nat.le_of_ble_eq_true rfl) (gDi rfl)
  | succ d ih =>
    intro i hi
    refine g_iload_2 dX1_countMissing_4 ?_
    refine g_sipush (v := nI 144) dX1_countMissing_5 rfl ?_
    refine g_icmp_geN (tgt := 33) dX1_countMissing_8 (by decide) (by omega) (by omega) (fun h8 => absurd h8 (by omega)) (fun _ => ?_)
    refine g_iload_1 dX1_countMissing_11 ?_
    refine g_aload_0 dX1_countMissing_12 ?_
    refine g_iload_2 dX1_countMissing_13 ?_
    refine g_v1_1 dX1_countMissing_14 (vX1_51 rfl) rfl (by assumption) (Nat.le_of_ble_eq_true rfl) ⟨rfl, rfl⟩ (Nat.le_of_ble_eq_true rfl) (Nat.le_of_ble_eq_true rfl) (c_missingAt hc0 (by omega)) ?_
    refine g_if_eqB (tgt := 24) dX1_countMissing_17 (by decide)  (fun h17 => ?_) (fun h17 => ?_)
    · refine g_iconst (v := nI 0) dX1_countMissing_24 rfl ?_
      refine g_iaddN dX1_countMissing_25 ?_
      refine g_istore_1 rfl dX1_countMissing_26 ?_
      refine g_iincN_2 (q := 1) rfl dX1_countMissing_27 rfl ?_
      refine g_goto (tgt := 4) dX1_countMissing_30 (by decide) ?_
      have e := ih (i + 1) (by omega)
      first
        | rw [cnt_t h17] at e; exact e
        | rw [cnt_f h17] at e; exact e
    · refine g_iconst (v := nI 1) dX1_countMissing_20 rfl ?_
      refine g_goto (tgt := 25) dX1_countMissing_21 (by decide) ?_
      refine g_iaddN dX1_countMissing_25 ?_
      refine g_istore_1 rfl dX1_countMissing_26 ?_
      refine g_iincN_2 (q := 1) rfl dX1_countMissing_27 rfl ?_
      refine g_goto (tgt := 4) dX1_countMissing_30 (by decide) ?_
      have e := ih (i + 1) (by omega)
      first
        | rw [cnt_t h17] at e; exact e
        | rw [cnt_f h17] at e; exact e
theorem c_countMissing  (hc : CanvasAt M c p q h) : Runs mX1_countMissing [.ref c] M z (gD (some (.int (nI (cnt (missB p q) 144)))) M z) := by
  refine runs_of plX1 rfl (Nat.le_of_ble_eq_true rfl) ?_
  show WP mX1_countMissing 0 [some (.ref c), none, none] [] M z 0 0 _
  refine g_iconst (v := nI 0) dX1_countMissing_0 rfl ?_
  refine g_istore_1 rfl dX1_countMissing_1 ?_
  refine g_iconst (v := nI 0) dX1_countMissing_2 rfl ?_
  refine g_istore_2 rfl dX1_countMissing_3 ?_
  exact c_countMissing_loop hc 144 0 rfl
theorem c_countMissingOf_loop  (hc : CanvasAt M c p q h) : ∀ d i, i + d = 144 → WP mX1_countMissingOf 4 [some (.ref c), some (.int x), some (.int (nI (cnt (fun i => decide (p i = x) && missB p q i) i))), some (.int (nI i))] [] M z 0 0 (gD (some (.int (nI (cnt (fun i => decide (p i = x) && missB p q i) 144)))) M z) := by
  have hc0 := hc
  obtain ⟨h0, h1, h2, h3⟩ := hc
  intro d
  induction d with
  | zero =>
    intro i hi
    obtain rfl : i = 144 := by omega
    refine g_iload_3 dX1_countMissingOf_4 ?_
    refine g_sipush (v := nI 144) dX1_countMissingOf_5 rfl ?_
    refine g_icmp_geN (tgt := 43) dX1_countMissingOf_8 (by decide) (by omega) (by omega) (fun _ => ?_) (fun h8 => absurd h8 (by omega))
    refine g_iload_2 dX1_countMissingOf_43 ?_
    exact g_ireturn rfl rfl dX1_countMissingOf_44 (Nat.le_of_ble_eq_true rfl) (Nat.le_of_ble_eq_true rfl) (gDi rfl)
  | succ d ih =>
    intro i hi
    refine g_iload_3 dX1_countMissingOf_4 ?_
    refine g_sipush (v := nI 144) dX1_countMissingOf_5 rfl ?_
    refine g_icmp_geN (tgt := 43) dX1_countMissingOf_8 (by decide) (by omega) (by omega) (fun h8 => absurd h8 (by omega)) (fun _ => ?_)
    refine g_iload_2 dX1_countMissingOf_11 ?_
    refine g_aload_0 dX1_countMissingOf_12 ?_
    refine g_get dX1_countMissingOf_13 (fX1_9 rfl) (by assumption) rfl ?_
    refine g_iload_3 dX1_countMissingOf_16 ?_
    refine g_ialdN dX1_countMissingOf_17 (by assumption) (by omega) (by decide) ?_
    refine g_iload_1 dX1_countMissingOf_18 ?_
    refine g_icmp_ne (tgt := 34) dX1_countMissingOf_19 (by decide)  (fun h19 => ?_) (fun h19 => ?_)
    · refine g_iconst (v := nI 0) dX1_countMissingOf_34 rfl ?_
      refine g_iaddN dX1_countMissingOf_35 ?_
      refine g_istore_2 rfl dX1_countMissingOf_36 ?_
      refine g_iincN_3 (q := 1) rfl dX1_countMissingOf_37 rfl ?_
      refine g_goto (tgt := 4) dX1_countMissingOf_40 (by decide) ?_
      have e := ih (i + 1) (by omega)
      first
        | rw [cnt_t (by simp_all)] at e; exact e
        | rw [cnt_f (by simp_all)] at e; exact e
    · refine g_aload_0 dX1_countMissingOf_22 ?_
      refine g_iload_3 dX1_countMissingOf_23 ?_
      refine g_v1_1 dX1_countMissingOf_24 (vX1_51 rfl) rfl (by assumption) (Nat.le_of_ble_eq_true rfl) ⟨rfl, rfl⟩ (Nat.le_of_ble_eq_true rfl) (Nat.le_of_ble_eq_true rfl) (c_missingAt hc0 (by omega)) ?_
      refine g_if_eqB (tgt := 34) dX1_countMissingOf_27 (by decide)  (fun h27 => ?_) (fun h27 => ?_)
      · refine g_iconst (v := nI 0) dX1_countMissingOf_34 rfl ?_
        refine g_iaddN dX1_countMissingOf_35 ?_
        refine g_istore_2 rfl dX1_countMissingOf_36 ?_
        refine g_iincN_3 (q := 1) rfl dX1_countMissingOf_37 rfl ?_
        refine g_goto (tgt := 4) dX1_countMissingOf_40 (by decide) ?_
        have e := ih (i + 1) (by omega)
        first
          | rw [cnt_t (by simp_all)] at e; exact e
          | rw [cnt_f (by simp_all)] at e; exact e
      · refine g_iconst (v := nI 1) dX1_countMissingOf_30 rfl ?_
        refine g_goto (tgt := 35) dX1_countMissingOf_31 (by decide) ?_
        refine g_iaddN dX1_countMissingOf_35 ?_
        refine g_istore_2 rfl dX1_countMissingOf_36 ?_
        refine g_iincN_3 (q := 1) rfl dX1_countMissingOf_37 rfl ?_
        refine g_goto (tgt := 4) dX1_countMissingOf_40 (by decide) ?_
        have e := ih (i + 1) (by omega)
        first
          | rw [cnt_t (by simp_all)] at e; exact e
          | rw [cnt_f (by simp_all)] at e; exact e
theorem c_countMissingOf  (hc : CanvasAt M c p q h) : Runs mX1_countMissingOf [.ref c, .int x] M z (gD (some (.int (nI (cnt (fun i => decide (p i = x) && missB p q i) 144)))) M z) := by
  refine runs_of plX1 rfl (Nat.le_of_ble_eq_true rfl) ?_
  show WP mX1_countMissingOf 0 [some (.ref c), some (.int x), none, none] [] M z 0 0 _
  refine g_iconst (v := nI 0) dX1_countMissingOf_0 rfl ?_
  refine g_istore_2 rfl dX1_countMissingOf_1 ?_
  refine g_iconst (v := nI 0) dX1_countMissingOf_2 rfl ?_
  refine g_istore_3 rfl dX1_countMissingOf_3 ?_
  exact c_countMissingOf_loop hc 144 0 rfl
theorem c_countSkipped_loop  (hc : CanvasAt M c p q h) : ∀ d i, i + d = 144 → WP mX1_countSkipped 4 [some (.ref c), some (.int (nI (cnt (fun i => decide (q i = -2)) i))), some (.int (nI i))] [] M z 0 0 (gD (some (.int (nI (cnt (fun i => decide (q i = -2)) 144)))) M z) := by
  have hc0 := hc
  obtain ⟨h0, h1, h2, h3⟩ := hc
  intro d
  induction d with
  | zero =>
    intro i hi
    obtain rfl : i = 144 := by omega
    refine g_iload_2 dX1_countSkipped_4 ?_
    refine g_sipush (v := nI 144) dX1_countSkipped_5 rfl ?_
    refine g_icmp_geN (tgt := 36) dX1_countSkipped_8 (by decide) (by omega) (by omega) (fun _ => ?_) (fun h8 => absurd h8 (by omega))
    refine g_iload_1 dX1_countSkipped_36 ?_
    exact g_ireturn rfl rfl dX1_countSkipped_37 (Nat.le_of_ble_eq_true rfl) (Nat.le_of_ble_eq_true rfl) (gDi rfl)
  | succ d ih =>
    intro i hi
    refine g_iload_2 dX1_countSkipped_4 ?_
    refine g_sipush (v := nI 144) dX1_countSkipped_5 rfl ?_
    refine g_icmp_geN (tgt := 36) dX1_countSkipped_8 (by decide) (by omega) (by omega) (fun h8 => absurd h8 (by omega)) (fun _ => ?_)
    refine g_iload_1 dX1_countSkipped_11 ?_
    refine g_aload_0 dX1_countSkipped_12 ?_
    refine g_get dX1_countSkipped_13 (fX1_15 rfl) (by assumption) rfl ?_
    refine g_iload_2 dX1_countSkipped_16 ?_
    refine g_ialdN dX1_countSkipped_17 (by assumption) (by omega) (by decide) ?_
    refine g_bipush (v := -2) dX1_countSkipped_18 rfl ?_
    refine g_icmp_ne (tgt := 27) dX1_countSkipped_20 (by decide)  (fun h20 => ?_) (fun h20 => ?_)
    · refine g_iconst (v := nI 0) dX1_countSkipped_27 rfl ?_
      refine g_iaddN dX1_countSkipped_28 ?_
      refine g_istore_1 rfl dX1_countSkipped_29 ?_
      refine g_iincN_2 (q := 1) rfl dX1_countSkipped_30 rfl ?_
      refine g_goto (tgt := 4) dX1_countSkipped_33 (by decide) ?_
      have e := ih (i + 1) (by omega)
      first
        | rw [cnt_t (by simp [h20])] at e; exact e
        | rw [cnt_f (by simp [h20])] at e; exact e
    · refine g_iconst (v := nI 1) dX1_countSkipped_23 rfl ?_
      refine g_goto (tgt := 28) dX1_countSkipped_24 (by decide) ?_
      refine g_iaddN dX1_countSkipped_28 ?_
      refine g_istore_1 rfl dX1_countSkipped_29 ?_
      refine g_iincN_2 (q := 1) rfl dX1_countSkipped_30 rfl ?_
      refine g_goto (tgt := 4) dX1_countSkipped_33 (by decide) ?_
      have e := ih (i + 1) (by omega)
      first
        | rw [cnt_t (by simp [h20])] at e; exact e
        | rw [cnt_f (by simp [h20])] at e; exact e
theorem c_countSkipped  (hc : CanvasAt M c p q h) : Runs mX1_countSkipped [.ref c] M z (gD (some (.int (nI (cnt (fun i => decide (q i = -2)) 144)))) M z) := by
  refine runs_of plX1 rfl (Nat.le_of_ble_eq_true rfl) ?_
  show WP mX1_countSkipped 0 [some (.ref c), none, none] [] M z 0 0 _
  refine g_iconst (v := nI 0) dX1_countSkipped_0 rfl ?_
  refine g_istore_1 rfl dX1_countSkipped_1 ?_
  refine g_iconst (v := nI 0) dX1_countSkipped_2 rfl ?_
  refine g_istore_2 rfl dX1_countSkipped_3 ?_
  exact c_countSkipped_loop hc 144 0 rfl
theorem c_sumHeights_loop  (hc : CanvasAt M c p q h) : ∀ d i, i + d = 144 → WP mX1_sumHeights 4 [some (.ref c), some (.int (sumI h i)), some (.int (nI i))] [] M z 0 0 (gD (some (.int (sumI h 144))) M z) := by
  have hc0 := hc
  obtain ⟨h0, h1, h2, h3⟩ := hc
  intro d
  induction d with
  | zero =>
    intro i hi
    obtain rfl : i = 144 := by omega
    refine g_iload_2 dX1_sumHeights_4 ?_
    refine g_sipush (v := nI 144) dX1_sumHeights_5 rfl ?_
    refine g_icmp_geN (tgt := 26) dX1_sumHeights_8 (by decide) (by omega) (by omega) (fun _ => ?_) (fun h8 => absurd h8 (by omega))
    refine g_iload_1 dX1_sumHeights_26 ?_
    exact g_ireturn rfl rfl dX1_sumHeights_27 (Nat.le_of_ble_eq_true rfl) (Nat.le_of_ble_eq_true rfl) (gDi rfl)
  | succ d ih =>
    intro i hi
    refine g_iload_2 dX1_sumHeights_4 ?_
    refine g_sipush (v := nI 144) dX1_sumHeights_5 rfl ?_
    refine g_icmp_geN (tgt := 26) dX1_sumHeights_8 (by decide) (by omega) (by omega) (fun h8 => absurd h8 (by omega)) (fun _ => ?_)
    refine g_iload_1 dX1_sumHeights_11 ?_
    refine g_aload_0 dX1_sumHeights_12 ?_
    refine g_get dX1_sumHeights_13 (fX1_18 rfl) (by assumption) rfl ?_
    refine g_iload_2 dX1_sumHeights_16 ?_
    refine g_ialdN dX1_sumHeights_17 (by assumption) (by omega) (by decide) ?_
    refine g_iadd dX1_sumHeights_18 ?_
    refine g_istore_1 rfl dX1_sumHeights_19 ?_
    refine g_iincN_2 (q := 1) rfl dX1_sumHeights_20 rfl ?_
    refine g_goto (tgt := 4) dX1_sumHeights_23 (by decide) ?_
    exact ih (i + 1) (by omega)
theorem c_sumHeights  (hc : CanvasAt M c p q h) : Runs mX1_sumHeights [.ref c] M z (gD (some (.int (sumI h 144))) M z) := by
  refine runs_of plX1 rfl (Nat.le_of_ble_eq_true rfl) ?_
  show WP mX1_sumHeights 0 [some (.ref c), none, none] [] M z 0 0 _
  refine g_iconst (v := nI 0) dX1_sumHeights_0 rfl ?_
  refine g_istore_1 rfl dX1_sumHeights_1 ?_
  refine g_iconst (v := nI 0) dX1_sumHeights_2 rfl ?_
  refine g_istore_2 rfl dX1_sumHeights_3 ?_
  exact c_sumHeights_loop hc 144 0 rfl
theorem c_yarnInLoops_loop  (hc : CanvasAt M c p q h) : ∀ d i, i + d = 144 → WP mX1_yarnInLoops 4 [some (.ref c), some (.int x), some (.int (sumI (fun i => if q i = x then nI 2 * h i + nI 4 else nI 0) i)), some (.int (nI i))] [] M z 0 0 (gD (some (.int (sumI (fun i => if q i = x then nI 2 * h i + nI 4 else nI 0) 144))) M z) := by
  have hc0 := hc
  obtain ⟨h0, h1, h2, h3⟩ := hc
  intro d
  induction d with
  | zero =>
    intro i hi
    obtain rfl : i = 144 := by omega
    refine g_iload_3 dX1_yarnInLoops_4 ?_
    refine g_sipush (v := nI 144) dX1_yarnInLoops_5 rfl ?_
    refine g_icmp_geN (tgt := 43) dX1_yarnInLoops_8 (by decide) (by omega) (by omega) (fun _ => ?_) (fun h8 => absurd h8 (by omega))
    refine g_iload_2 dX1_yarnInLoops_43 ?_
    exact g_ireturn rfl rfl dX1_yarnInLoops_44 (Nat.le_of_ble_eq_true rfl) (Nat.le_of_ble_eq_true rfl) (gDi rfl)
  | succ d ih =>
    intro i hi
    refine g_iload_3 dX1_yarnInLoops_4 ?_
    refine g_sipush (v := nI 144) dX1_yarnInLoops_5 rfl ?_
    refine g_icmp_geN (tgt := 43) dX1_yarnInLoops_8 (by decide) (by omega) (by omega) (fun h8 => absurd h8 (by omega)) (fun _ => ?_)
    refine g_iload_2 dX1_yarnInLoops_11 ?_
    refine g_aload_0 dX1_yarnInLoops_12 ?_
    refine g_get dX1_yarnInLoops_13 (fX1_15 rfl) (by assumption) rfl ?_
    refine g_iload_3 dX1_yarnInLoops_16 ?_
    refine g_ialdN dX1_yarnInLoops_17 (by assumption) (by omega) (by decide) ?_
    refine g_iload_1 dX1_yarnInLoops_18 ?_
    refine g_icmp_ne (tgt := 34) dX1_yarnInLoops_19 (by decide)  (fun h19 => ?_) (fun h19 => ?_)
    · refine g_iconst (v := nI 0) dX1_yarnInLoops_34 rfl ?_
      refine g_iadd dX1_yarnInLoops_35 ?_
      refine g_istore_2 rfl dX1_yarnInLoops_36 ?_
      refine g_iincN_3 (q := 1) rfl dX1_yarnInLoops_37 rfl ?_
      refine g_goto (tgt := 4) dX1_yarnInLoops_40 (by decide) ?_
      have e := ih (i + 1) (by omega)
      first
        | rw [sumI_v (g := (fun i => if q i = x then nI 2 * h i + nI 4 else nI 0)) (n := i) (if_pos h19)] at e; exact e
        | rw [sumI_v (g := (fun i => if q i = x then nI 2 * h i + nI 4 else nI 0)) (n := i) (if_neg h19)] at e; exact e
    · refine g_aload_0 dX1_yarnInLoops_22 ?_
      refine g_get dX1_yarnInLoops_23 (fX1_18 rfl) (by assumption) rfl ?_
      refine g_iload_3 dX1_yarnInLoops_26 ?_
      refine g_ialdN dX1_yarnInLoops_27 (by assumption) (by omega) (by decide) ?_
      refine g_s1_1 dX1_yarnInLoops_28 (sX1_55 rfl) rfl (Nat.le_of_ble_eq_true rfl) ⟨rfl, rfl⟩ (Nat.le_of_ble_eq_true rfl) (Nat.le_of_ble_eq_true rfl) (c_yarnForLoop) ?_
      refine g_goto (tgt := 35) dX1_yarnInLoops_31 (by decide) ?_
      refine g_iadd dX1_yarnInLoops_35 ?_
      refine g_istore_2 rfl dX1_yarnInLoops_36 ?_
      refine g_iincN_3 (q := 1) rfl dX1_yarnInLoops_37 rfl ?_
      refine g_goto (tgt := 4) dX1_yarnInLoops_40 (by decide) ?_
      have e := ih (i + 1) (by omega)
      first
        | rw [sumI_v (g := (fun i => if q i = x then nI 2 * h i + nI 4 else nI 0)) (n := i) (if_pos h19)] at e; exact e
        | rw [sumI_v (g := (fun i => if q i = x then nI 2 * h i + nI 4 else nI 0)) (n := i) (if_neg h19)] at e; exact e
theorem c_yarnInLoops  (hc : CanvasAt M c p q h) : Runs mX1_yarnInLoops [.ref c, .int x] M z (gD (some (.int (sumI (fun i => if q i = x then nI 2 * h i + nI 4 else nI 0) 144))) M z) := by
  refine runs_of plX1 rfl (Nat.le_of_ble_eq_true rfl) ?_
  show WP mX1_yarnInLoops 0 [some (.ref c), some (.int x), none, none] [] M z 0 0 _
  refine g_iconst (v := nI 0) dX1_yarnInLoops_0 rfl ?_
  refine g_istore_2 rfl dX1_yarnInLoops_1 ?_
  refine g_iconst (v := nI 0) dX1_yarnInLoops_2 rfl ?_
  refine g_istore_3 rfl dX1_yarnInLoops_3 ?_
  exact c_yarnInLoops_loop hc 144 0 rfl
theorem upd_cpy (f g : Nat → Int32) (n : Nat) (i : Nat) (hi : i < n) : va_cpy f g 0 0 n i = f i := by simp [va_cpy, hi]
end P15
