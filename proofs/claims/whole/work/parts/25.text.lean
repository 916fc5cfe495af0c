section P25
variable {M M0 : Hp} {z sc len i c n : Nat} {g : Nat → Nat} {ins : Bool} {x : Int32} {Φ : GR → Hp → Nat → Prop}
def stO (c : Nat) (ins : Bool) : Nat := if c = 115 ∨ c = 106 then 2 else if c = 108 ∨ c = 114 ∨ c = 120 ∨ c = 101 then 1 else if c = 99 then 5 else if c = 104 then 6 else if c = 109 then 7 else if 50 ≤ c ∧ c ≤ 57 ∧ ins = false then 8 else 9
def enO (c lo hi : Nat) : Nat := if lo ≤ c ∧ c ≤ hi then 1 else 9
def stp (aw c : Nat) (ins : Bool) : Nat := match aw with
  | 0 => stO c ins
  | 1 => if c = 41 ∧ ins = true then 1 else stO c ins
  | 2 => if c = 48 then 3 else if c = 49 then 4 else 9
  | 3 => enO c 49 57
  | 4 => enO c 48 50
  | 5 => enO c 48 52
  | 6 => enO c 49 57
  | 7 => enO c 48 51
  | 8 => if c = 40 then 0 else 9
  | _ => 9
def insA (c : Nat) (ins : Bool) : Bool := if c = 40 then true else if c = 41 then false else ins
/-- the first error from a place on -/
def pf (g : Nat → Nat) (len : Nat) : Nat → Nat → Nat → Bool → Int32
  | 0, _, aw, ins => if aw = 1 ∧ ins = false then -1 else nI len
  | d + 1, i, aw, ins => if stp aw (g i) ins = 9 then nI i else pf g len d (i + 1) (stp aw (g i) ins) (insA (g i) ins)
theorem stO_lt (c : Nat) (ins : Bool) : stO c ins < 10 := by
  unfold stO
  (repeat' split) <;> decide
theorem enO_lt (c lo hi : Nat) : enO c lo hi < 10 := by
  unfold enO
  split <;> decide
theorem stp_lt (aw c : Nat) (ins : Bool) : stp aw c ins < 10 := by
  unfold stp
  split <;> first | exact stO_lt _ _ | exact enO_lt _ _ _ | decide | ((repeat' split) <;> first | exact stO_lt _ _ | decide)
theorem c_start_in (k : Nat) (hk : k < 22) : WP mX5_startOfOrder 0 [some (.int (nI (99 + k))), some (.int (bI ins))] [] M z 0 0 (gD (some (.int (nI (stO (99 + k) ins)))) M z) := by
  match k, hk with
  | 0, _ =>
    refine g_iload_0 dX5_startOfOrder_0 ?_
    refine g_tabIn (x := nI 99) (off := 107) (tgt := 108) dX5_startOfOrder_1 (by decide) (by decide) rfl (by decide) ?_
    refine g_iconst (v := nI 5) dX5_startOfOrder_108 rfl ?_
    exact g_ireturn rfl rfl dX5_startOfOrder_109 (Nat.le_of_ble_eq_true rfl) (Nat.le_of_ble_eq_true rfl) (gDi (congrArg nI (by simp [stO])))
  | 1, _ =>
    refine g_iload_0 dX5_startOfOrder_0 ?_
    refine g_tabIn (x := nI 100) (off := 115) (tgt := 116) dX5_startOfOrder_1 (by decide) (by decide) rfl (by decide) ?_
    refine g_iload_0 dX5_startOfOrder_116 ?_
    refine g_bipush (v := nI 50) dX5_startOfOrder_117 rfl ?_
    refine g_icmp_ltN (tgt := 137) dX5_startOfOrder_119 (by decide) (by omega) (by omega) (fun h119 => absurd h119 (by omega)) (fun _ => ?_)
    refine g_iload_0 dX5_startOfOrder_122 ?_
    refine g_bipush (v := nI 57) dX5_startOfOrder_123 rfl ?_
    refine g_icmp_gtN (tgt := 137) dX5_startOfOrder_125 (by decide) (by omega) (by omega) (fun _ => ?_) (fun h125 => absurd h125 (by omega))
    refine g_bipush (v := nI 9) dX5_startOfOrder_137 rfl ?_
    exact g_ireturn rfl rfl dX5_startOfOrder_139 (Nat.le_of_ble_eq_true rfl) (Nat.le_of_ble_eq_true rfl) (gDi (congrArg nI (by simp [stO])))
  | 2, _ =>
    refine g_iload_0 dX5_startOfOrder_0 ?_
    refine g_tabIn (x := nI 101) (off := 105) (tgt := 106) dX5_startOfOrder_1 (by decide) (by decide) rfl (by decide) ?_
    refine g_iconst (v := nI 1) dX5_startOfOrder_106 rfl ?_
    exact g_ireturn rfl rfl dX5_startOfOrder_107 (Nat.le_of_ble_eq_true rfl) (Nat.le_of_ble_eq_true rfl) (gDi (congrArg nI (by simp [stO])))
  | 3, _ =>
    refine g_iload_0 dX5_startOfOrder_0 ?_
    refine g_tabIn (x := nI 102) (off := 115) (tgt := 116) dX5_startOfOrder_1 (by decide) (by decide) rfl (by decide) ?_
    refine g_iload_0 dX5_startOfOrder_116 ?_
    refine g_bipush (v := nI 50) dX5_startOfOrder_117 rfl ?_
    refine g_icmp_ltN (tgt := 137) dX5_startOfOrder_119 (by decide) (by omega) (by omega) (fun h119 => absurd h119 (by omega)) (fun _ => ?_)
    refine g_iload_0 dX5_startOfOrder_122 ?_
    refine g_bipush (v := nI 57) dX5_startOfOrder_123 rfl ?_
    refine g_icmp_gtN (tgt := 137) dX5_startOfOrder_125 (by decide) (by omega) (by omega) (fun _ => ?_) (fun h125 => absurd h125 (by omega))
    refine g_bipush (v := nI 9) dX5_startOfOrder_137 rfl ?_
    exact g_ireturn rfl rfl dX5_startOfOrder_139 (Nat.le_of_ble_eq_true rfl) (Nat.le_of_ble_eq_true rfl) (gDi (congrArg nI (by simp [stO])))
  | 4, _ =>
    refine g_iload_0 dX5_startOfOrder_0 ?_
    refine g_tabIn (x := nI 103) (off := 115) (tgt := 116) dX5_startOfOrder_1 (by decide) (by decide) rfl (by decide) ?_
    refine g_iload_0 dX5_startOfOrder_116 ?_
    refine g_bipush (v := nI 50) dX5_startOfOrder_117 rfl ?_
    refine g_icmp_ltN (tgt := 137) dX5_startOfOrder_119 (by decide) (by omega) (by omega) (fun h119 => absurd h119 (by omega)) (fun _ => ?_)
    refine g_iload_0 dX5_startOfOrder_122 ?_
    refine g_bipush (v := nI 57) dX5_startOfOrder_123 rfl ?_
    refine g_icmp_gtN (tgt := 137) dX5_startOfOrder_125 (by decide) (by omega) (by omega) (fun _ => ?_) (fun h125 => absurd h125 (by omega))
    refine g_bipush (v := nI 9) dX5_startOfOrder_137 rfl ?_
    exact g_ireturn rfl rfl dX5_startOfOrder_139 (Nat.le_of_ble_eq_true rfl) (Nat.le_of_ble_eq_true rfl) (gDi (congrArg nI (by simp [stO])))
  | 5, _ =>
    refine g_iload_0 dX5_startOfOrder_0 ?_
    refine g_tabIn (x := nI 104) (off := 109) (tgt := 110) dX5_startOfOrder_1 (by decide) (by decide) rfl (by decide) ?_
    refine g_bipush (v := nI 6) dX5_startOfOrder_110 rfl ?_
    exact g_ireturn rfl rfl dX5_startOfOrder_112 (Nat.le_of_ble_eq_true rfl) (Nat.le_of_ble_eq_true rfl) (gDi (congrArg nI (by simp [stO])))
  | 6, _ =>
    refine g_iload_0 dX5_startOfOrder_0 ?_
    refine g_tabIn (x := nI 105) (off := 115) (tgt := 116) dX5_startOfOrder_1 (by decide) (by decide) rfl (by decide) ?_
    refine g_iload_0 dX5_startOfOrder_116 ?_
    refine g_bipush (v := nI 50) dX5_startOfOrder_117 rfl ?_
    refine g_icmp_ltN (tgt := 137) dX5_startOfOrder_119 (by decide) (by omega) (by omega) (fun h119 => absurd h119 (by omega)) (fun _ => ?_)
    refine g_iload_0 dX5_startOfOrder_122 ?_
    refine g_bipush (v := nI 57) dX5_startOfOrder_123 rfl ?_
    refine g_icmp_gtN (tgt := 137) dX5_startOfOrder_125 (by decide) (by omega) (by omega) (fun _ => ?_) (fun h125 => absurd h125 (by omega))
    refine g_bipush (v := nI 9) dX5_startOfOrder_137 rfl ?_
    exact g_ireturn rfl rfl dX5_startOfOrder_139 (Nat.le_of_ble_eq_true rfl) (Nat.le_of_ble_eq_true rfl) (gDi (congrArg nI (by simp [stO])))
  | 7, _ =>
    refine g_iload_0 dX5_startOfOrder_0 ?_
    refine g_tabIn (x := nI 106) (off := 103) (tgt := 104) dX5_startOfOrder_1 (by decide) (by decide) rfl (by decide) ?_
    refine g_iconst (v := nI 2) dX5_startOfOrder_104 rfl ?_
    exact g_ireturn rfl rfl dX5_startOfOrder_105 (Nat.le_of_ble_eq_true rfl) (Nat.le_of_ble_eq_true rfl) (gDi (congrArg nI (by simp [stO])))
  | 8, _ =>
    refine g_iload_0 dX5_startOfOrder_0 ?_
    refine g_tabIn (x := nI 107) (off := 115) (tgt := 116) dX5_startOfOrder_1 (by decide) (by decide) rfl (by decide) ?_
    refine g_iload_0 dX5_startOfOrder_116 ?_
    refine g_bipush (v := nI 50) dX5_startOfOrder_117 rfl ?_
    refine g_icmp_ltN (tgt := 137) dX5_startOfOrder_119 (by decide) (by omega) (by omega) (fun h119 => absurd h119 (by omega)) (fun _ => ?_)
    refine g_iload_0 dX5_startOfOrder_122 ?_
    refine g_bipush (v := nI 57) dX5_startOfOrder_123 rfl ?_
    refine g_icmp_gtN (tgt := 137) dX5_startOfOrder_125 (by decide) (by omega) (by omega) (fun _ => ?_) (fun h125 => absurd h125 (by omega))
    refine g_bipush (v := nI 9) dX5_startOfOrder_137 rfl ?_
    exact g_ireturn rfl rfl dX5_startOfOrder_139 (Nat.le_of_ble_eq_true rfl) (Nat.le_of_ble_eq_true rfl) (gDi (congrArg nI (by simp [stO])))
  | 9, _ =>
    refine g_iload_0 dX5_startOfOrder_0 ?_
    refine g_tabIn (x := nI 108) (off := 105) (tgt := 106) dX5_startOfOrder_1 (by decide) (by decide) rfl (by decide) ?_
    refine g_iconst (v := nI 1) dX5_startOfOrder_106 rfl ?_
    exact g_ireturn rfl rfl dX5_startOfOrder_107 (Nat.le_of_ble_eq_true rfl) (Nat.le_of_ble_eq_true rfl) (gDi (congrArg nI (by simp [stO])))
  | 10, _ =>
    refine g_iload_0 dX5_startOfOrder_0 ?_
    refine g_tabIn (x := nI 109) (off := 112) (tgt := 113) dX5_startOfOrder_1 (by decide) (by decide) rfl (by decide) ?_
    refine g_bipush (v := nI 7) dX5_startOfOrder_113 rfl ?_
    exact g_ireturn rfl rfl dX5_startOfOrder_115 (Nat.le_of_ble_eq_true rfl) (Nat.le_of_ble_eq_true rfl) (gDi (congrArg nI (by simp [stO])))
  | 11, _ =>
    refine g_iload_0 dX5_startOfOrder_0 ?_
    refine g_tabIn (x := nI 110) (off := 115) (tgt := 116) dX5_startOfOrder_1 (by decide) (by decide) rfl (by decide) ?_
    refine g_iload_0 dX5_startOfOrder_116 ?_
    refine g_bipush (v := nI 50) dX5_startOfOrder_117 rfl ?_
    refine g_icmp_ltN (tgt := 137) dX5_startOfOrder_119 (by decide) (by omega) (by omega) (fun h119 => absurd h119 (by omega)) (fun _ => ?_)
    refine g_iload_0 dX5_startOfOrder_122 ?_
    refine g_bipush (v := nI 57) dX5_startOfOrder_123 rfl ?_
    refine g_icmp_gtN (tgt := 137) dX5_startOfOrder_125 (by decide) (by omega) (by omega) (fun _ => ?_) (fun h125 => absurd h125 (by omega))
    refine g_bipush (v := nI 9) dX5_startOfOrder_137 rfl ?_
    exact g_ireturn rfl rfl dX5_startOfOrder_139 (Nat.le_of_ble_eq_true rfl) (Nat.le_of_ble_eq_true rfl) (gDi (congrArg nI (by simp [stO])))
  | 12, _ =>
    refine g_iload_0 dX5_startOfOrder_0 ?_
    refine g_tabIn (x := nI 111) (off := 115) (tgt := 116) dX5_startOfOrder_1 (by decide) (by decide) rfl (by decide) ?_
    refine g_iload_0 dX5_startOfOrder_116 ?_
    refine g_bipush (v := nI 50) dX5_startOfOrder_117 rfl ?_
    refine g_icmp_ltN (tgt := 137) dX5_startOfOrder_119 (by decide) (by omega) (by omega) (fun h119 => absurd h119 (by omega)) (fun _ => ?_)
    refine g_iload_0 dX5_startOfOrder_122 ?_
    refine g_bipush (v := nI 57) dX5_startOfOrder_123 rfl ?_
    refine g_icmp_gtN (tgt := 137) dX5_startOfOrder_125 (by decide) (by omega) (by omega) (fun _ => ?_) (fun h125 => absurd h125 (by omega))
    refine g_bipush (v := nI 9) dX5_startOfOrder_137 rfl ?_
    exact g_ireturn rfl rfl dX5_startOfOrder_139 (Nat.le_of_ble_eq_true rfl) (Nat.le_of_ble_eq_true rfl) (gDi (congrArg nI (by simp [stO])))
  | 13, _ =>
    refine g_iload_0 dX5_startOfOrder_0 ?_
    refine g_tabIn (x := nI 112) (off := 115) (tgt := 116) dX5_startOfOrder_1 (by decide) (by decide) rfl (by decide) ?_
    refine g_iload_0 dX5_startOfOrder_116 ?_
    refine g_bipush (v := nI 50) dX5_startOfOrder_117 rfl ?_
    refine g_icmp_ltN (tgt := 137) dX5_startOfOrder_119 (by decide) (by omega) (by omega) (fun h119 => absurd h119 (by omega)) (fun _ => ?_)
    refine g_iload_0 dX5_startOfOrder_122 ?_
    refine g_bipush (v := nI 57) dX5_startOfOrder_123 rfl ?_
    refine g_icmp_gtN (tgt := 137) dX5_startOfOrder_125 (by decide) (by omega) (by omega) (fun _ => ?_) (fun h125 => absurd h125 (by omega))
    refine g_bipush (v := nI 9) dX5_startOfOrder_137 rfl ?_
    exact g_ireturn rfl rfl dX5_startOfOrder_139 (Nat.le_of_ble_eq_true rfl) (Nat.le_of_ble_eq_true rfl) (gDi (congrArg nI (by simp [stO])))
  | 14, _ =>
    refine g_iload_0 dX5_startOfOrder_0 ?_
    refine g_tabIn (x := nI 113) (off := 115) (tgt := 116) dX5_startOfOrder_1 (by decide) (by decide) rfl (by decide) ?_
    refine g_iload_0 dX5_startOfOrder_116 ?_
    refine g_bipush (v := nI 50) dX5_startOfOrder_117 rfl ?_
    refine g_icmp_ltN (tgt := 137) dX5_startOfOrder_119 (by decide) (by omega) (by omega) (fun h119 => absurd h119 (by omega)) (fun _ => ?_)
    refine g_iload_0 dX5_startOfOrder_122 ?_
    refine g_bipush (v := nI 57) dX5_startOfOrder_123 rfl ?_
    refine g_icmp_gtN (tgt := 137) dX5_startOfOrder_125 (by decide) (by omega) (by omega) (fun _ => ?_) (fun h125 => absurd h125 (by omega))
    refine g_bipush (v := nI 9) dX5_startOfOrder_137 rfl ?_
    exact g_ireturn rfl rfl dX5_startOfOrder_139 (Nat.le_of_ble_eq_true rfl) (Nat.le_of_ble_eq_true rfl) (gDi (congrArg nI (by simp [stO])))
  | 15, _ =>
    refine g_iload_0 dX5_startOfOrder_0 ?_
    refine g_tabIn (x := nI 114) (off := 105) (tgt := 106) dX5_startOfOrder_1 (by decide) (by decide) rfl (by decide) ?_
    refine g_iconst (v := nI 1) dX5_startOfOrder_106 rfl ?_
    exact g_ireturn rfl rfl dX5_startOfOrder_107 (Nat.le_of_ble_eq_true rfl) (Nat.le_of_ble_eq_true rfl) (gDi (congrArg nI (by simp [stO])))
  | 16, _ =>
    refine g_iload_0 dX5_startOfOrder_0 ?_
    refine g_tabIn (x := nI 115) (off := 103) (tgt := 104) dX5_startOfOrder_1 (by decide) (by decide) rfl (by decide) ?_
    refine g_iconst (v := nI 2) dX5_startOfOrder_104 rfl ?_
    exact g_ireturn rfl rfl dX5_startOfOrder_105 (Nat.le_of_ble_eq_true rfl) (Nat.le_of_ble_eq_true rfl) (gDi (congrArg nI (by simp [stO])))
  | 17, _ =>
    refine g_iload_0 dX5_startOfOrder_0 ?_
    refine g_tabIn (x := nI 116) (off := 115) (tgt := 116) dX5_startOfOrder_1 (by decide) (by decide) rfl (by decide) ?_
    refine g_iload_0 dX5_startOfOrder_116 ?_
    refine g_bipush (v := nI 50) dX5_startOfOrder_117 rfl ?_
    refine g_icmp_ltN (tgt := 137) dX5_startOfOrder_119 (by decide) (by omega) (by omega) (fun h119 => absurd h119 (by omega)) (fun _ => ?_)
    refine g_iload_0 dX5_startOfOrder_122 ?_
    refine g_bipush (v := nI 57) dX5_startOfOrder_123 rfl ?_
    refine g_icmp_gtN (tgt := 137) dX5_startOfOrder_125 (by decide) (by omega) (by omega) (fun _ => ?_) (fun h125 => absurd h125 (by omega))
    refine g_bipush (v := nI 9) dX5_startOfOrder_137 rfl ?_
    exact g_ireturn rfl rfl dX5_startOfOrder_139 (Nat.le_of_ble_eq_true rfl) (Nat.le_of_ble_eq_true rfl) (gDi (congrArg nI (by simp [stO])))
  | 18, _ =>
    refine g_iload_0 dX5_startOfOrder_0 ?_
    refine g_tabIn (x := nI 117) (off := 115) (tgt := 116) dX5_startOfOrder_1 (by decide) (by decide) rfl (by decide) ?_
    refine g_iload_0 dX5_startOfOrder_116 ?_
    refine g_bipush (v := nI 50) dX5_startOfOrder_117 rfl ?_
    refine g_icmp_ltN (tgt := 137) dX5_startOfOrder_119 (by decide) (by omega) (by omega) (fun h119 => absurd h119 (by omega)) (fun _ => ?_)
    refine g_iload_0 dX5_startOfOrder_122 ?_
    refine g_bipush (v := nI 57) dX5_startOfOrder_123 rfl ?_
    refine g_icmp_gtN (tgt := 137) dX5_startOfOrder_125 (by decide) (by omega) (by omega) (fun _ => ?_) (fun h125 => absurd h125 (by omega))
    refine g_bipush (v := nI 9) dX5_startOfOrder_137 rfl ?_
    exact g_ireturn rfl rfl dX5_startOfOrder_139 (Nat.le_of_ble_eq_true rfl) (Nat.le_of_ble_eq_true rfl) (gDi (congrArg nI (by simp [stO])))
  | 19, _ =>
    refine g_iload_0 dX5_startOfOrder_0 ?_
    refine g_tabIn (x := nI 118) (off := 115) (tgt := 116) dX5_startOfOrder_1 (by decide) (by decide) rfl (by decide) ?_
    refine g_iload_0 dX5_startOfOrder_116 ?_
    refine g_bipush (v := nI 50) dX5_startOfOrder_117 rfl ?_
    refine g_icmp_ltN (tgt := 137) dX5_startOfOrder_119 (by decide) (by omega) (by omega) (fun h119 => absurd h119 (by omega)) (fun _ => ?_)
    refine g_iload_0 dX5_startOfOrder_122 ?_
    refine g_bipush (v := nI 57) dX5_startOfOrder_123 rfl ?_
    refine g_icmp_gtN (tgt := 137) dX5_startOfOrder_125 (by decide) (by omega) (by omega) (fun _ => ?_) (fun h125 => absurd h125 (by omega))
    refine g_bipush (v := nI 9) dX5_startOfOrder_137 rfl ?_
    exact g_ireturn rfl rfl dX5_startOfOrder_139 (Nat.le_of_ble_eq_true rfl) (Nat.le_of_ble_eq_true rfl) (gDi (congrArg nI (by simp [stO])))
  | 20, _ =>
    refine g_iload_0 dX5_startOfOrder_0 ?_
    refine g_tabIn (x := nI 119) (off := 115) (tgt := 116) dX5_startOfOrder_1 (by decide) (by decide) rfl (by decide) ?_
    refine g_iload_0 dX5_startOfOrder_116 ?_
    refine g_bipush (v := nI 50) dX5_startOfOrder_117 rfl ?_
    refine g_icmp_ltN (tgt := 137) dX5_startOfOrder_119 (by decide) (by omega) (by omega) (fun h119 => absurd h119 (by omega)) (fun _ => ?_)
    refine g_iload_0 dX5_startOfOrder_122 ?_
    refine g_bipush (v := nI 57) dX5_startOfOrder_123 rfl ?_
    refine g_icmp_gtN (tgt := 137) dX5_startOfOrder_125 (by decide) (by omega) (by omega) (fun _ => ?_) (fun h125 => absurd h125 (by omega))
    refine g_bipush (v := nI 9) dX5_startOfOrder_137 rfl ?_
    exact g_ireturn rfl rfl dX5_startOfOrder_139 (Nat.le_of_ble_eq_true rfl) (Nat.le_of_ble_eq_true rfl) (gDi (congrArg nI (by simp [stO])))
  | 21, _ =>
    refine g_iload_0 dX5_startOfOrder_0 ?_
    refine g_tabIn (x := nI 120) (off := 105) (tgt := 106) dX5_startOfOrder_1 (by decide) (by decide) rfl (by decide) ?_
    refine g_iconst (v := nI 1) dX5_startOfOrder_106 rfl ?_
    exact g_ireturn rfl rfl dX5_startOfOrder_107 (Nat.le_of_ble_eq_true rfl) (Nat.le_of_ble_eq_true rfl) (gDi (congrArg nI (by simp [stO])))
  | k + 22, h => exact absurd h (by omega)
theorem c_start_out (hc : c < 256) (h : c < 99 ∨ 120 < c) : WP mX5_startOfOrder 0 [some (.int (nI c)), some (.int (bI ins))] [] M z 0 0 (gD (some (.int (nI (stO c ins)))) M z) := by
  refine g_iload_0 dX5_startOfOrder_0 ?_
  refine g_tabOut (tgt := 116) dX5_startOfOrder_1 (by rw [nI_toInt (by omega)]; omega) (by decide) ?_
  refine g_iload_0 dX5_startOfOrder_116 ?_
  refine g_bipush (v := nI 50) dX5_startOfOrder_117 rfl ?_
  refine g_icmp_ltN (tgt := 137) dX5_startOfOrder_119 (by decide) (by omega) (by omega) (fun h119 => ?_) (fun h119 => ?_)
  · refine g_bipush (v := nI 9) dX5_startOfOrder_137 rfl ?_
    exact g_ireturn rfl rfl dX5_startOfOrder_139 (Nat.le_of_ble_eq_true rfl) (Nat.le_of_ble_eq_true rfl) (gDi (congrArg nI (by first | (simp [stO]; done) | (unfold stO; rw [if_neg (by omega), if_neg (by omega), if_neg (by omega), if_neg (by omega), if_neg (by omega)]; first | (rw [if_neg (by omega)]; done) | (rw [if_pos ⟨by omega, by omega, by assumption⟩]; done) | (rw [if_neg (by simp_all)]; done)))))
  · refine g_iload_0 dX5_startOfOrder_122 ?_
    refine g_bipush (v := nI 57) dX5_startOfOrder_123 rfl ?_
    refine g_icmp_gtN (tgt := 137) dX5_startOfOrder_125 (by decide) (by omega) (by omega) (fun h125 => ?_) (fun h125 => ?_)
    · refine g_bipush (v := nI 9) dX5_startOfOrder_137 rfl ?_
      exact g_ireturn rfl rfl dX5_startOfOrder_139 (Nat.le_of_ble_eq_true rfl) (Nat.le_of_ble_eq_true rfl) (gDi (congrArg nI (by first | (simp [stO]; done) | (unfold stO; rw [if_neg (by omega), if_neg (by omega), if_neg (by omega), if_neg (by omega), if_neg (by omega)]; first | (rw [if_neg (by omega)]; done) | (rw [if_pos ⟨by omega, by omega, by assumption⟩]; done) | (rw [if_neg (by simp_all)]; done)))))
    · refine g_iload_1 dX5_startOfOrder_128 ?_
      refine g_if_neB (tgt := 137) dX5_startOfOrder_129 (by decide)  (fun h129 => ?_) (fun h129 => ?_)
      · refine g_bipush (v := nI 9) dX5_startOfOrder_137 rfl ?_
        exact g_ireturn rfl rfl dX5_startOfOrder_139 (Nat.le_of_ble_eq_true rfl) (Nat.le_of_ble_eq_true rfl) (gDi (congrArg nI (by first | (simp [stO]; done) | (unfold stO; rw [if_neg (by omega), if_neg (by omega), if_neg (by omega), if_neg (by omega), if_neg (by omega)]; first | (rw [if_neg (by omega)]; done) | (rw [if_pos ⟨by omega, by omega, by assumption⟩]; done) | (rw [if_neg (by simp_all)]; done)))))
      · refine g_bipush (v := nI 8) dX5_startOfOrder_132 rfl ?_
        refine g_goto (tgt := 139) dX5_startOfOrder_134 (by decide) ?_
        exact g_ireturn rfl rfl dX5_startOfOrder_139 (Nat.le_of_ble_eq_true rfl) (Nat.le_of_ble_eq_true rfl) (gDi (congrArg nI (by first | (simp [stO]; done) | (unfold stO; rw [if_neg (by omega), if_neg (by omega), if_neg (by omega), if_neg (by omega), if_neg (by omega)]; first | (rw [if_neg (by omega)]; done) | (rw [if_pos ⟨by omega, by omega, by assumption⟩]; done) | (rw [if_neg (by simp_all)]; done)))))
theorem c_startOfOrder (hc : c < 256) : Runs mX5_startOfOrder [.int (nI c), .int (bI ins)] M z (gD (some (.int (nI (stO c ins)))) M z) := by
  refine runs_of plX5 rfl (Nat.le_of_ble_eq_true rfl) ?_
  show WP mX5_startOfOrder 0 [some (.int (nI c)), some (.int (bI ins))] [] M z 0 0 _
  by_cases h : c < 99 ∨ 120 < c
  · exact c_start_out hc h
  · have e := c_start_in (M := M) (z := z) (ins := ins) (c - 99) (by omega)
    rw [show 99 + (c - 99) = c by omega] at e
    exact e
theorem c_endOfOrder {lo hi : Nat} (hc : c < 256) (h1 : lo < 256) (h2 : hi < 256) : Runs mX5_endOfOrder [.int (nI c), .int (nI lo), .int (nI hi)] M z (gD (some (.int (nI (enO c lo hi)))) M z) := by
  refine runs_of plX5 rfl (Nat.le_of_ble_eq_true rfl) ?_
  show WP mX5_endOfOrder 0 [some (.int (nI c)), some (.int (nI lo)), some (.int (nI hi))] [] M z 0 0 _
  refine g_iload_0 dX5_endOfOrder_0 ?_
  refine g_iload_1 dX5_endOfOrder_1 ?_
  refine g_icmp_ltN (tgt := 14) dX5_endOfOrder_2 (by decide) (by omega) (by omega) (fun h2 => ?_) (fun h2 => ?_)
  · refine g_bipush (v := nI 9) dX5_endOfOrder_14 rfl ?_
    exact g_ireturn rfl rfl dX5_endOfOrder_16 (Nat.le_of_ble_eq_true rfl) (Nat.le_of_ble_eq_true rfl) (gDi (congrArg nI (by unfold enO; first | (rw [if_pos ⟨by omega, by omega⟩]; done) | (rw [if_neg (by omega)]; done))))
  · refine g_iload_0 dX5_endOfOrder_5 ?_
    refine g_iload_2 dX5_endOfOrder_6 ?_
    refine g_icmp_gtN (tgt := 14) dX5_endOfOrder_7 (by decide) (by omega) (by omega) (fun h7 => ?_) (fun h7 => ?_)
    · refine g_bipush (v := nI 9) dX5_endOfOrder_14 rfl ?_
      exact g_ireturn rfl rfl dX5_endOfOrder_16 (Nat.le_of_ble_eq_true rfl) (Nat.le_of_ble_eq_true rfl) (gDi (congrArg nI (by unfold enO; first | (rw [if_pos ⟨by omega, by omega⟩]; done) | (rw [if_neg (by omega)]; done))))
    · refine g_iconst (v := nI 1) dX5_endOfOrder_10 rfl ?_
      refine g_goto (tgt := 16) dX5_endOfOrder_11 (by decide) ?_
      exact g_ireturn rfl rfl dX5_endOfOrder_16 (Nat.le_of_ble_eq_true rfl) (Nat.le_of_ble_eq_true rfl) (gDi (congrArg nI (by unfold enO; first | (rw [if_pos ⟨by omega, by omega⟩]; done) | (rw [if_neg (by omega)]; done))))
theorem c_awaited0 (hc : c < 256) : Runs mX5_awaitedAfter [.int (nI 0), .int (nI c), .int (bI ins)] M z (gD (some (.int (nI (stp 0 c ins)))) M z) := by
  refine runs_of plX5 rfl (Nat.le_of_ble_eq_true rfl) ?_
  show WP mX5_awaitedAfter 0 [some (.int (nI 0)), some (.int (nI c)), some (.int (bI ins))] [] M z 0 0 _
  refine g_iload_0 dX5_awaitedAfter_0 ?_
  refine g_tabIn (x := nI 0) (off := 51) (tgt := 52) dX5_awaitedAfter_1 (by decide) (by decide) rfl (by decide) ?_
  refine g_iload_1 dX5_awaitedAfter_52 ?_
  refine g_iload_2 dX5_awaitedAfter_53 ?_
  refine g_s2_1 dX5_awaitedAfter_54 (sX5_33 rfl) rfl (Nat.le_of_ble_eq_true rfl) ⟨rfl, rfl⟩ (Nat.le_of_ble_eq_true rfl) (Nat.le_of_ble_eq_true rfl) (c_startOfOrder hc) ?_
  exact g_ireturn rfl rfl dX5_awaitedAfter_57 (Nat.le_of_ble_eq_true rfl) (Nat.le_of_ble_eq_true rfl) (gDi (congrArg nI (by first | rfl | (simp only [stp]; done) | (simp only [stp]; first | (rw [if_pos (by omega)]; done) | (rw [if_neg (by omega)]; done) | (rw [if_neg (by omega), if_pos (by omega)]; done) | (rw [if_neg (by omega), if_neg (by omega)]; done) | (rw [if_pos ⟨by omega, by assumption⟩]; done) | (rw [if_neg (by simp_all)]; done)))))
theorem c_awaited1 (hc : c < 256) : Runs mX5_awaitedAfter [.int (nI 1), .int (nI c), .int (bI ins)] M z (gD (some (.int (nI (stp 1 c ins)))) M z) := by
  refine runs_of plX5 rfl (Nat.le_of_ble_eq_true rfl) ?_
  show WP mX5_awaitedAfter 0 [some (.int (nI 1)), some (.int (nI c)), some (.int (bI ins))] [] M z 0 0 _
  refine g_iload_0 dX5_awaitedAfter_0 ?_
  refine g_tabIn (x := nI 1) (off := 57) (tgt := 58) dX5_awaitedAfter_1 (by decide) (by decide) rfl (by decide) ?_
  refine g_iload_1 dX5_awaitedAfter_58 ?_
  refine g_bipush (v := nI 41) dX5_awaitedAfter_59 rfl ?_
  refine g_icmp_neN (tgt := 72) dX5_awaitedAfter_61 (by decide) (by omega) (by omega) (fun h61 => ?_) (fun h61 => ?_)
  · refine g_iload_1 dX5_awaitedAfter_72 ?_
    refine g_iload_2 dX5_awaitedAfter_73 ?_
    refine g_s2_1 dX5_awaitedAfter_74 (sX5_33 rfl) rfl (Nat.le_of_ble_eq_true rfl) ⟨rfl, rfl⟩ (Nat.le_of_ble_eq_true rfl) (Nat.le_of_ble_eq_true rfl) (c_startOfOrder hc) ?_
    exact g_ireturn rfl rfl dX5_awaitedAfter_77 (Nat.le_of_ble_eq_true rfl) (Nat.le_of_ble_eq_true rfl) (gDi (congrArg nI (by first | rfl | (simp only [stp]; done) | (simp only [stp]; first | (rw [if_pos (by omega)]; done) | (rw [if_neg (by omega)]; done) | (rw [if_neg (by omega), if_pos (by omega)]; done) | (rw [if_neg (by omega), if_neg (by omega)]; done) | (rw [if_pos ⟨by omega, by assumption⟩]; done) | (rw [if_neg (by simp_all)]; done)))))
  · refine g_iload_2 dX5_awaitedAfter_64 ?_
    refine g_if_eqB (tgt := 72) dX5_awaitedAfter_65 (by decide)  (fun h65 => ?_) (fun h65 => ?_)
    · refine g_iload_1 dX5_awaitedAfter_72 ?_
      refine g_iload_2 dX5_awaitedAfter_73 ?_
      refine g_s2_1 dX5_awaitedAfter_74 (sX5_33 rfl) rfl (Nat.le_of_ble_eq_true rfl) ⟨rfl, rfl⟩ (Nat.le_of_ble_eq_true rfl) (Nat.le_of_ble_eq_true rfl) (c_startOfOrder hc) ?_
      exact g_ireturn rfl rfl dX5_awaitedAfter_77 (Nat.le_of_ble_eq_true rfl) (Nat.le_of_ble_eq_true rfl) (gDi (congrArg nI (by first | rfl | (simp only [stp]; done) | (simp only [stp]; first | (rw [if_pos (by omega)]; done) | (rw [if_neg (by omega)]; done) | (rw [if_neg (by omega), if_pos (by omega)]; done) | (rw [if_neg (by omega), if_neg (by omega)]; done) | (rw [if_pos ⟨by omega, by assumption⟩]; done) | (rw [if_neg (by simp_all)]; done)))))
    · refine g_iconst (v := nI 1) dX5_awaitedAfter_68 rfl ?_
      refine g_goto (tgt := 77) dX5_awaitedAfter_69 (by decide) ?_
      exact g_ireturn rfl rfl dX5_awaitedAfter_77 (Nat.le_of_ble_eq_true rfl) (Nat.le_of_ble_eq_true rfl) (gDi (congrArg nI (by first | rfl | (simp only [stp]; done) | (simp only [stp]; first | (rw [if_pos (by omega)]; done) | (rw [if_neg (by omega)]; done) | (rw [if_neg (by omega), if_pos (by omega)]; done) | (rw [if_neg (by omega), if_neg (by omega)]; done) | (rw [if_pos ⟨by omega, by assumption⟩]; done) | (rw [if_neg (by simp_all)]; done)))))
theorem c_awaited2 (hc : c < 256) : Runs mX5_awaitedAfter [.int (nI 2), .int (nI c), .int (bI ins)] M z (gD (some (.int (nI (stp 2 c ins)))) M z) := by
  refine runs_of plX5 rfl (Nat.le_of_ble_eq_true rfl) ?_
  show WP mX5_awaitedAfter 0 [some (.int (nI 2)), some (.int (nI c)), some (.int (bI ins))] [] M z 0 0 _
  refine g_iload_0 dX5_awaitedAfter_0 ?_
  refine g_tabIn (x := nI 2) (off := 77) (tgt := 78) dX5_awaitedAfter_1 (by decide) (by decide) rfl (by decide) ?_
  refine g_iload_1 dX5_awaitedAfter_78 ?_
  refine g_bipush (v := nI 48) dX5_awaitedAfter_79 rfl ?_
  refine g_icmp_neN (tgt := 88) dX5_awaitedAfter_81 (by decide) (by omega) (by omega) (fun h81 => ?_) (fun h81 => ?_)
  · refine g_iload_1 dX5_awaitedAfter_88 ?_
    refine g_bipush (v := nI 49) dX5_awaitedAfter_89 rfl ?_
    refine g_icmp_neN (tgt := 98) dX5_awaitedAfter_91 (by decide) (by omega) (by omega) (fun h91 => ?_) (fun h91 => ?_)
    · refine g_bipush (v := nI 9) dX5_awaitedAfter_98 rfl ?_
      exact g_ireturn rfl rfl dX5_awaitedAfter_100 (Nat.le_of_ble_eq_true rfl) (Nat.le_of_ble_eq_true rfl) (gDi (congrArg nI (by first | rfl | (simp only [stp]; done) | (simp only [stp]; first | (rw [if_pos (by omega)]; done) | (rw [if_neg (by omega)]; done) | (rw [if_neg (by omega), if_pos (by omega)]; done) | (rw [if_neg (by omega), if_neg (by omega)]; done) | (rw [if_pos ⟨by omega, by assumption⟩]; done) | (rw [if_neg (by simp_all)]; done)))))
    · refine g_iconst (v := nI 4) dX5_awaitedAfter_94 rfl ?_
      refine g_goto (tgt := 100) dX5_awaitedAfter_95 (by decide) ?_
      exact g_ireturn rfl rfl dX5_awaitedAfter_100 (Nat.le_of_ble_eq_true rfl) (Nat.le_of_ble_eq_true rfl) (gDi (congrArg nI (by first | rfl | (simp only [stp]; done) | (simp only [stp]; first | (rw [if_pos (by omega)]; done) | (rw [if_neg (by omega)]; done) | (rw [if_neg (by omega), if_pos (by omega)]; done) | (rw [if_neg (by omega), if_neg (by omega)]; done) | (rw [if_pos ⟨by omega, by assumption⟩]; done) | (rw [if_neg (by simp_all)]; done)))))
  · refine g_iconst (v := nI 3) dX5_awaitedAfter_84 rfl ?_
    refine g_goto (tgt := 100) dX5_awaitedAfter_85 (by decide) ?_
    exact g_ireturn rfl rfl dX5_awaitedAfter_100 (Nat.le_of_ble_eq_true rfl) (Nat.le_of_ble_eq_true rfl) (gDi (congrArg nI (by first | rfl | (simp only [stp]; done) | (simp only [stp]; first | (rw [if_pos (by omega)]; done) | (rw [if_neg (by omega)]; done) | (rw [if_neg (by omega), if_pos (by omega)]; done) | (rw [if_neg (by omega), if_neg (by omega)]; done) | (rw [if_pos ⟨by omega, by assumption⟩]; done) | (rw [if_neg (by simp_all)]; done)))))
theorem c_awaited3 (hc : c < 256) : Runs mX5_awaitedAfter [.int (nI 3), .int (nI c), .int (bI ins)] M z (gD (some (.int (nI (stp 3 c ins)))) M z) := by
  refine runs_of plX5 rfl (Nat.le_of_ble_eq_true rfl) ?_
  show WP mX5_awaitedAfter 0 [some (.int (nI 3)), some (.int (nI c)), some (.int (bI ins))] [] M z 0 0 _
  refine g_iload_0 dX5_awaitedAfter_0 ?_
  refine g_tabIn (x := nI 3) (off := 100) (tgt := 101) dX5_awaitedAfter_1 (by decide) (by decide) rfl (by decide) ?_
  refine g_iload_1 dX5_awaitedAfter_101 ?_
  refine g_bipush (v := nI 49) dX5_awaitedAfter_102 rfl ?_
  refine g_bipush (v := nI 57) dX5_awaitedAfter_104 rfl ?_
  refine g_s3_1 dX5_awaitedAfter_106 (sX5_37 rfl) rfl (Nat.le_of_ble_eq_true rfl) ⟨rfl, rfl⟩ (Nat.le_of_ble_eq_true rfl) (Nat.le_of_ble_eq_true rfl) (c_endOfOrder hc (by decide) (by decide)) ?_
  exact g_ireturn rfl rfl dX5_awaitedAfter_109 (Nat.le_of_ble_eq_true rfl) (Nat.le_of_ble_eq_true rfl) (gDi (congrArg nI (by first | rfl | (simp only [stp]; done) | (simp only [stp]; first | (rw [if_pos (by omega)]; done) | (rw [if_neg (by omega)]; done) | (rw [if_neg (by omega), if_pos (by omega)]; done) | (rw [if_neg (by omega), if_neg (by omega)]; done) | (rw [if_pos ⟨by omega, by assumption⟩]; done) | (rw [if_neg (by simp_all)]; done)))))
theorem c_awaited4 (hc : c < 256) : Runs mX5_awaitedAfter [.int (nI 4), .int (nI c), .int (bI ins)] M z (gD (some (.int (nI (stp 4 c ins)))) M z) := by
  refine runs_of plX5 rfl (Nat.le_of_ble_eq_true rfl) ?_
  show WP mX5_awaitedAfter 0 [some (.int (nI 4)), some (.int (nI c)), some (.int (bI ins))] [] M z 0 0 _
  refine g_iload_0 dX5_awaitedAfter_0 ?_
  refine g_tabIn (x := nI 4) (off := 109) (tgt := 110) dX5_awaitedAfter_1 (by decide) (by decide) rfl (by decide) ?_
  refine g_iload_1 dX5_awaitedAfter_110 ?_
  refine g_bipush (v := nI 48) dX5_awaitedAfter_111 rfl ?_
  refine g_bipush (v := nI 50) dX5_awaitedAfter_113 rfl ?_
  refine g_s3_1 dX5_awaitedAfter_115 (sX5_37 rfl) rfl (Nat.le_of_ble_eq_true rfl) ⟨rfl, rfl⟩ (Nat.le_of_ble_eq_true rfl) (Nat.le_of_ble_eq_true rfl) (c_endOfOrder hc (by decide) (by decide)) ?_
  exact g_ireturn rfl rfl dX5_awaitedAfter_118 (Nat.le_of_ble_eq_true rfl) (Nat.le_of_ble_eq_true rfl) (gDi (congrArg nI (by first | rfl | (simp only [stp]; done) | (simp only [stp]; first | (rw [if_pos (by omega)]; done) | (rw [if_neg (by omega)]; done) | (rw [if_neg (by omega), if_pos (by omega)]; done) | (rw [if_neg (by omega), if_neg (by omega)]; done) | (rw [if_pos ⟨by omega, by assumption⟩]; done) | (rw [if_neg (by simp_all)]; done)))))
theorem c_awaited5 (hc : c < 256) : Runs mX5_awaitedAfter [.int (nI 5), .int (nI c), .int (bI ins)] M z (gD (some (.int (nI (stp 5 c ins)))) M z) := by
  refine runs_of plX5 rfl (Nat.le_of_ble_eq_true rfl) ?_
  show WP mX5_awaitedAfter 0 [some (.int (nI 5)), some (.int (nI c)), some (.int (bI ins))] [] M z 0 0 _
  refine g_iload_0 dX5_awaitedAfter_0 ?_
  refine g_tabIn (x := nI 5) (off := 118) (tgt := 119) dX5_awaitedAfter_1 (by decide) (by decide) rfl (by decide) ?_
  refine g_iload_1 dX5_awaitedAfter_119 ?_
  refine g_bipush (v := nI 48) dX5_awaitedAfter_120 rfl ?_
  refine g_bipush (v := nI 52) dX5_awaitedAfter_122 rfl ?_
  refine g_s3_1 dX5_awaitedAfter_124 (sX5_37 rfl) rfl (Nat.le_of_ble_eq_true rfl) ⟨rfl, rfl⟩ (Nat.le_of_ble_eq_true rfl) (Nat.le_of_ble_eq_true rfl) (c_endOfOrder hc (by decide) (by decide)) ?_
  exact g_ireturn rfl rfl dX5_awaitedAfter_127 (Nat.le_of_ble_eq_true rfl) (Nat.le_of_ble_eq_true rfl) (gDi (congrArg nI (by first | rfl | (simp only [stp]; done) | (simp only [stp]; first | (rw [if_pos (by omega)]; done) | (rw [if_neg (by omega)]; done) | (rw [if_neg (by omega), if_pos (by omega)]; done) | (rw [if_neg (by omega), if_neg (by omega)]; done) | (rw [if_pos ⟨by omega, by assumption⟩]; done) | (rw [if_neg (by simp_all)]; done)))))
theorem c_awaited6 (hc : c < 256) : Runs mX5_awaitedAfter [.int (nI 6), .int (nI c), .int (bI ins)] M z (gD (some (.int (nI (stp 6 c ins)))) M z) := by
  refine runs_of plX5 rfl (Nat.le_of_ble_eq_true rfl) ?_
  show WP mX5_awaitedAfter 0 [some (.int (nI 6)), some (.int (nI c)), some (.int (bI ins))] [] M z 0 0 _
  refine g_iload_0 dX5_awaitedAfter_0 ?_
  refine g_tabIn (x := nI 6) (off := 127) (tgt := 128) dX5_awaitedAfter_1 (by decide) (by decide) rfl (by decide) ?_
  refine g_iload_1 dX5_awaitedAfter_128 ?_
  refine g_bipush (v := nI 49) dX5_awaitedAfter_129 rfl ?_
  refine g_bipush (v := nI 57) dX5_awaitedAfter_131 rfl ?_
  refine g_s3_1 dX5_awaitedAfter_133 (sX5_37 rfl) rfl (Nat.le_of_ble_eq_true rfl) ⟨rfl, rfl⟩ (Nat.le_of_ble_eq_true rfl) (Nat.le_of_ble_eq_true rfl) (c_endOfOrder hc (by decide) (by decide)) ?_
  exact g_ireturn rfl rfl dX5_awaitedAfter_136 (Nat.le_of_ble_eq_true rfl) (Nat.le_of_ble_eq_true rfl) (gDi (congrArg nI (by first | rfl | (simp only [stp]; done) | (simp only [stp]; first | (rw [if_pos (by omega)]; done) | (rw [if_neg (by omega)]; done) | (rw [if_neg (by omega), if_pos (by omega)]; done) | (rw [if_neg (by omega), if_neg (by omega)]; done) | (rw [if_pos ⟨by omega, by assumption⟩]; done) | (rw [if_neg (by simp_all)]; done)))))
theorem c_awaited7 (hc : c < 256) : Runs mX5_awaitedAfter [.int (nI 7), .int (nI c), .int (bI ins)] M z (gD (some (.int (nI (stp 7 c ins)))) M z) := by
  refine runs_of plX5 rfl (Nat.le_of_ble_eq_true rfl) ?_
  show WP mX5_awaitedAfter 0 [some (.int (nI 7)), some (.int (nI c)), some (.int (bI ins))] [] M z 0 0 _
  refine g_iload_0 dX5_awaitedAfter_0 ?_
  refine g_tabIn (x := nI 7) (off := 136) (tgt := 137) dX5_awaitedAfter_1 (by decide) (by decide) rfl (by decide) ?_
  refine g_iload_1 dX5_awaitedAfter_137 ?_
  refine g_bipush (v := nI 48) dX5_awaitedAfter_138 rfl ?_
  refine g_bipush (v := nI 51) dX5_awaitedAfter_140 rfl ?_
  refine g_s3_1 dX5_awaitedAfter_142 (sX5_37 rfl) rfl (Nat.le_of_ble_eq_true rfl) ⟨rfl, rfl⟩ (Nat.le_of_ble_eq_true rfl) (Nat.le_of_ble_eq_true rfl) (c_endOfOrder hc (by decide) (by decide)) ?_
  exact g_ireturn rfl rfl dX5_awaitedAfter_145 (Nat.le_of_ble_eq_true rfl) (Nat.le_of_ble_eq_true rfl) (gDi (congrArg nI (by first | rfl | (simp only [stp]; done) | (simp only [stp]; first | (rw [if_pos (by omega)]; done) | (rw [if_neg (by omega)]; done) | (rw [if_neg (by omega), if_pos (by omega)]; done) | (rw [if_neg (by omega), if_neg (by omega)]; done) | (rw [if_pos ⟨by omega, by assumption⟩]; done) | (rw [if_neg (by simp_all)]; done)))))
theorem c_awaited8 (hc : c < 256) : Runs mX5_awaitedAfter [.int (nI 8), .int (nI c), .int (bI ins)] M z (gD (some (.int (nI (stp 8 c ins)))) M z) := by
  refine runs_of plX5 rfl (Nat.le_of_ble_eq_true rfl) ?_
  show WP mX5_awaitedAfter 0 [some (.int (nI 8)), some (.int (nI c)), some (.int (bI ins))] [] M z 0 0 _
  refine g_iload_0 dX5_awaitedAfter_0 ?_
  refine g_tabIn (x := nI 8) (off := 145) (tgt := 146) dX5_awaitedAfter_1 (by decide) (by decide) rfl (by decide) ?_
  refine g_iload_1 dX5_awaitedAfter_146 ?_
  refine g_bipush (v := nI 40) dX5_awaitedAfter_147 rfl ?_
  refine g_icmp_neN (tgt := 156) dX5_awaitedAfter_149 (by decide) (by omega) (by omega) (fun h149 => ?_) (fun h149 => ?_)
  · refine g_bipush (v := nI 9) dX5_awaitedAfter_156 rfl ?_
    exact g_ireturn rfl rfl dX5_awaitedAfter_158 (Nat.le_of_ble_eq_true rfl) (Nat.le_of_ble_eq_true rfl) (gDi (congrArg nI (by first | rfl | (simp only [stp]; done) | (simp only [stp]; first | (rw [if_pos (by omega)]; done) | (rw [if_neg (by omega)]; done) | (rw [if_neg (by omega), if_pos (by omega)]; done) | (rw [if_neg (by omega), if_neg (by omega)]; done) | (rw [if_pos ⟨by omega, by assumption⟩]; done) | (rw [if_neg (by simp_all)]; done)))))
  · refine g_iconst (v := nI 0) dX5_awaitedAfter_152 rfl ?_
    refine g_goto (tgt := 158) dX5_awaitedAfter_153 (by decide) ?_
    exact g_ireturn rfl rfl dX5_awaitedAfter_158 (Nat.le_of_ble_eq_true rfl) (Nat.le_of_ble_eq_true rfl) (gDi (congrArg nI (by first | rfl | (simp only [stp]; done) | (simp only [stp]; first | (rw [if_pos (by omega)]; done) | (rw [if_neg (by omega)]; done) | (rw [if_neg (by omega), if_pos (by omega)]; done) | (rw [if_neg (by omega), if_neg (by omega)]; done) | (rw [if_pos ⟨by omega, by assumption⟩]; done) | (rw [if_neg (by simp_all)]; done)))))
theorem c_awaited9 (hc : c < 256) : Runs mX5_awaitedAfter [.int (nI 9), .int (nI c), .int (bI ins)] M z (gD (some (.int (nI (stp 9 c ins)))) M z) := by
  refine runs_of plX5 rfl (Nat.le_of_ble_eq_true rfl) ?_
  show WP mX5_awaitedAfter 0 [some (.int (nI 9)), some (.int (nI c)), some (.int (bI ins))] [] M z 0 0 _
  refine g_iload_0 dX5_awaitedAfter_0 ?_
  refine g_tabOut (x := nI 9) (tgt := 159) dX5_awaitedAfter_1 (by decide) (by decide) ?_
  refine g_bipush (v := nI 9) dX5_awaitedAfter_159 rfl ?_
  exact g_ireturn rfl rfl dX5_awaitedAfter_161 (Nat.le_of_ble_eq_true rfl) (Nat.le_of_ble_eq_true rfl) (gDi (congrArg nI (by first | rfl | (simp only [stp]; done) | (simp only [stp]; first | (rw [if_pos (by omega)]; done) | (rw [if_neg (by omega)]; done) | (rw [if_neg (by omega), if_pos (by omega)]; done) | (rw [if_neg (by omega), if_neg (by omega)]; done) | (rw [if_pos ⟨by omega, by assumption⟩]; done) | (rw [if_neg (by simp_all)]; done)))))
theorem c_awaited (hc : c < 256) : ∀ {aw : Nat}, aw < 10 → Runs mX5_awaitedAfter [.int (nI aw), .int (nI c), .int (bI ins)] M z (gD (some (.int (nI (stp aw c ins)))) M z)
  | 0, _ => c_awaited0 hc
  | 1, _ => c_awaited1 hc
  | 2, _ => c_awaited2 hc
  | 3, _ => c_awaited3 hc
  | 4, _ => c_awaited4 hc
  | 5, _ => c_awaited5 hc
  | 6, _ => c_awaited6 hc
  | 7, _ => c_awaited7 hc
  | 8, _ => c_awaited8 hc
  | 9, _ => c_awaited9 hc
theorem c_firstError_l (hc : ScriptAt M sc len g) (hg : CharsOK g) (hl : len ≤ 120) : ∀ d i aw ins (l4 : Option Value), i + d = len → aw < 10 → WP mX5_firstError 6 [some (.ref sc), some (.int (nI (aw))), some (.int (bI ins)), some (.int (nI (i))), l4] [] M z 0 0 (gD (some (.int (pf g len d i aw ins))) M z) := by
  obtain ⟨h0, h1⟩ := hc
  intro d
  induction d with
  | zero =>
    intro i aw ins l4 hi haw
    obtain rfl : i = len := by omega
    refine g_iload_3 dX5_firstError_6 ?_
    refine g_aload_0 dX5_firstError_7 ?_
    refine g_get dX5_firstError_8 (fX5_15 rfl) h0 rfl ?_
    refine g_icmp_geN (tgt := 71) dX5_firstError_11 (by decide) (by omega) (by omega) (fun _ => ?_) (fun h11 => absurd h11 (by omega))
    refine g_iload_1 dX5_firstError_71 ?_
    refine g_iconst (v := nI 1) dX5_firstError_72 rfl ?_
    refine g_icmp_neN (tgt := 84) dX5_firstError_73 (by decide) (by omega) (by omega) (fun h73 => ?_) (fun h73 => ?_)
    · refine g_aload_0 dX5_firstError_84 ?_
      refine g_get dX5_firstError_85 (fX5_15 rfl) h0 rfl ?_
      exact g_ireturn rfl rfl dX5_firstError_88 (Nat.le_of_ble_eq_true rfl) (Nat.le_of_ble_eq_true rfl) (gDi (by simp only [pf]; first | (rw [if_pos ⟨by assumption, by assumption⟩]; done) | (rw [if_neg (by simp_all)]; done)))
    · refine g_iload_2 dX5_firstError_76 ?_
      refine g_if_neB (tgt := 84) dX5_firstError_77 (by decide)  (fun h77 => ?_) (fun h77 => ?_)
      · refine g_aload_0 dX5_firstError_84 ?_
        refine g_get dX5_firstError_85 (fX5_15 rfl) h0 rfl ?_
        exact g_ireturn rfl rfl dX5_firstError_88 (Nat.le_of_ble_eq_true rfl) (Nat.le_of_ble_eq_true rfl) (gDi (by simp only [pf]; first | (rw [if_pos ⟨by assumption, by assumption⟩]; done) | (rw [if_neg (by simp_all)]; done)))
      · refine g_iconst (v := -1) dX5_firstError_80 rfl ?_
        refine g_goto (tgt := 88) dX5_firstError_81 (by decide) ?_
        exact g_ireturn rfl rfl dX5_firstError_88 (Nat.le_of_ble_eq_true rfl) (Nat.le_of_ble_eq_true rfl) (gDi (by simp only [pf]; first | (rw [if_pos ⟨by assumption, by assumption⟩]; done) | (rw [if_neg (by simp_all)]; done)))
  | succ d ih =>
    intro i aw ins l4 hi haw
    have hgi := hg i
    have hlt := stp_lt aw (g i) ins
    refine g_iload_3 dX5_firstError_6 ?_
    refine g_aload_0 dX5_firstError_7 ?_
    refine g_get dX5_firstError_8 (fX5_15 rfl) h0 rfl ?_
    refine g_icmp_geN (tgt := 71) dX5_firstError_11 (by decide) (by omega) (by omega) (fun h11 => absurd h11 (by omega)) (fun _ => ?_)
    refine g_iload_3 dX5_firstError_14 ?_
    refine g_bipush (v := nI 120) dX5_firstError_15 rfl ?_
    refine g_icmp_geN (tgt := 71) dX5_firstError_17 (by decide) (by omega) (by omega) (fun h17 => absurd h17 (by omega)) (fun _ => ?_)
    refine g_aload_0 dX5_firstError_20 ?_
    refine g_get dX5_firstError_21 (fX5_9 rfl) h0 rfl ?_
    refine g_iload_3 dX5_firstError_24 ?_
    refine g_caldN dX5_firstError_25 h1 (by omega) (by decide) ?_
    refine g_istore_4 rfl dX5_firstError_26 ?_
    refine g_iload_1 dX5_firstError_28 ?_
    refine g_iload_4 dX5_firstError_29 ?_
    refine g_iload_2 dX5_firstError_31 ?_
    refine g_s3_1 dX5_firstError_32 (sX5_29 rfl) rfl (Nat.le_of_ble_eq_true rfl) ⟨rfl, rfl⟩ (Nat.le_of_ble_eq_true rfl) (Nat.le_of_ble_eq_true rfl) (c_awaited hgi haw) ?_
    refine g_istore_1 rfl dX5_firstError_35 ?_
    refine g_iload_1 dX5_firstError_36 ?_
    refine g_bipush (v := nI 9) dX5_firstError_37 rfl ?_
    refine g_icmp_neN (tgt := 44) dX5_firstError_39 (by decide) (by omega) (by omega) (fun h39 => ?_) (fun h39 => ?_)
    · refine g_iload_4 dX5_firstError_44 ?_
      refine g_bipush (v := nI 40) dX5_firstError_46 rfl ?_
      refine g_icmp_neN (tgt := 56) dX5_firstError_48 (by decide) (by omega) (by omega) (fun h48 => ?_) (fun h48 => ?_)
      · refine g_iload_4 dX5_firstError_56 ?_
        refine g_bipush (v := nI 41) dX5_firstError_58 rfl ?_
        refine g_icmp_neN (tgt := 65) dX5_firstError_60 (by decide) (by omega) (by omega) (fun h60 => ?_) (fun h60 => ?_)
        · refine g_iincN_3 (q := 1) rfl dX5_firstError_65 rfl ?_
          refine g_goto (tgt := 6) dX5_firstError_68 (by decide) ?_
          first
            | (have e := ih (i + 1) (stp aw (g i) ins) true (some (.int (nI (g i)))) (by omega) hlt; simp only [pf]; rw [if_neg h39, show insA (g i) ins = true from if_pos h48]; exact e)
            | (have e := ih (i + 1) (stp aw (g i) ins) false (some (.int (nI (g i)))) (by omega) hlt; simp only [pf]; rw [if_neg h39, show insA (g i) ins = false from by unfold insA; rw [if_neg h48, if_pos h60]]; exact e)
            | (have e := ih (i + 1) (stp aw (g i) ins) ins (some (.int (nI (g i)))) (by omega) hlt; simp only [pf]; rw [if_neg h39, show insA (g i) ins = ins from by unfold insA; rw [if_neg h48, if_neg h60]]; exact e)
        · refine g_iconst (v := nI 0) dX5_firstError_63 rfl ?_
          refine g_istore_2 rfl dX5_firstError_64 ?_
          refine g_iincN_3 (q := 1) rfl dX5_firstError_65 rfl ?_
          refine g_goto (tgt := 6) dX5_firstError_68 (by decide) ?_
          first
            | (have e := ih (i + 1) (stp aw (g i) ins) true (some (.int (nI (g i)))) (by omega) hlt; simp only [pf]; rw [if_neg h39, show insA (g i) ins = true from if_pos h48]; exact e)
            | (have e := ih (i + 1) (stp aw (g i) ins) false (some (.int (nI (g i)))) (by omega) hlt; simp only [pf]; rw [if_neg h39, show insA (g i) ins = false from by unfold insA; rw [if_neg h48, if_pos h60]]; exact e)
            | (have e := ih (i + 1) (stp aw (g i) ins) ins (some (.int (nI (g i)))) (by omega) hlt; simp only [pf]; rw [if_neg h39, show insA (g i) ins = ins from by unfold insA; rw [if_neg h48, if_neg h60]]; exact e)
      · refine g_iconst (v := nI 1) dX5_firstError_51 rfl ?_
        refine g_istore_2 rfl dX5_firstError_52 ?_
        refine g_goto (tgt := 65) dX5_firstError_53 (by decide) ?_
        refine g_iincN_3 (q := 1) rfl dX5_firstError_65 rfl ?_
        refine g_goto (tgt := 6) dX5_firstError_68 (by decide) ?_
        first
          | (have e := ih (i + 1) (stp aw (g i) ins) true (some (.int (nI (g i)))) (by omega) hlt; simp only [pf]; rw [if_neg h39, show insA (g i) ins = true from if_pos h48]; exact e)
          | (have e := ih (i + 1) (stp aw (g i) ins) false (some (.int (nI (g i)))) (by omega) hlt; simp only [pf]; rw [if_neg h39, show insA (g i) ins = false from by unfold insA; rw [if_neg h48, if_pos h60]]; exact e)
          | (have e := ih (i + 1) (stp aw (g i) ins) ins (some (.int (nI (g i)))) (by omega) hlt; simp only [pf]; rw [if_neg h39, show insA (g i) ins = ins from by unfold insA; rw [if_neg h48, if_neg h60]]; exact e)
    · refine g_iload_3 dX5_firstError_42 ?_
      exact g_ireturn rfl rfl dX5_firstError_43 (Nat.le_of_ble_eq_true rfl) (Nat.le_of_ble_eq_true rfl) (gDi (by simp only [pf]; rw [if_pos h39]))
theorem c_firstError (hc : ScriptAt M sc len g) (hg : CharsOK g) (hl : len ≤ 120) : Runs mX5_firstError [.ref sc] M z (gD (some (.int (pf g len len 0 0 false))) M z) := by
  refine runs_of plX5 rfl (Nat.le_of_ble_eq_true rfl) ?_
  show WP mX5_firstError 0 [some (.ref sc), none, none, none, none] [] M z 0 0 _
  refine g_iconst (v := nI 0) dX5_firstError_0 rfl ?_
  refine g_istore_1 rfl dX5_firstError_1 ?_
  refine g_iconst (v := nI 0) dX5_firstError_2 rfl ?_
  refine g_istore_2 rfl dX5_firstError_3 ?_
  refine g_iconst (v := nI 0) dX5_firstError_4 rfl ?_
  refine g_istore_3 rfl dX5_firstError_5 ?_
  exact c_firstError_l hc hg hl len 0 0 false none (by omega) (by decide)
def hasM (g : Nat → Nat) (len n : Nat) : Nat → Nat → Bool
  | 0, _ => false
  | d + 1, i => (decide (g i = 109) && decide (nI n ≤ nI (sgn len g (i + 1)) - nI 48)) || hasM g len n d (i + 1)
theorem c_hasMotif_l (hc : ScriptAt M sc len g) (hg : CharsOK g) (hl : len ≤ 120) : ∀ d i, i + d = len → WP mX5_hasMotifFrom 2 [some (.ref sc), some (.int (nI n)), some (.int (nI (i)))] [] M z 0 0 (gD (some (.int (bI (hasM g len n d i)))) M z) := by
  have hc0 := hc
  obtain ⟨h0, h1⟩ := hc
  intro d
  induction d with
  | zero =>
    intro i hi
    obtain rfl : i = len := by omega
    refine g_iload_2 dX5_hasMotifFrom_2 ?_
    refine g_aload_0 dX5_hasMotifFrom_3 ?_
    refine g_get dX5_hasMotifFrom_4 (fX5_15 rfl) h0 rfl ?_
    refine g_icmp_geN (tgt := 46) dX5_hasMotifFrom_7 (by decide) (by omega) (by omega) (fun _ => ?_) (fun h7 => absurd h7 (by omega))
    refine g_iconst (v := nI 0) dX5_hasMotifFrom_46 rfl ?_
    exact g_ireturn rfl rfl dX5_hasMotifFrom_47 (Nat.le_of_ble_eq_true rfl) (Nat.le_of_ble_eq_true rfl) (gDi rfl)
  | succ d ih =>
    intro i hi
    have hgi := hg i
    refine g_iload_2 dX5_hasMotifFrom_2 ?_
    refine g_aload_0 dX5_hasMotifFrom_3 ?_
    refine g_get dX5_hasMotifFrom_4 (fX5_15 rfl) h0 rfl ?_
    refine g_icmp_geN (tgt := 46) dX5_hasMotifFrom_7 (by decide) (by omega) (by omega) (fun h7 => absurd h7 (by omega)) (fun _ => ?_)
    refine g_iload_2 dX5_hasMotifFrom_10 ?_
    refine g_bipush (v := nI 120) dX5_hasMotifFrom_11 rfl ?_
    refine g_icmp_geN (tgt := 46) dX5_hasMotifFrom_13 (by decide) (by omega) (by omega) (fun h13 => absurd h13 (by omega)) (fun _ => ?_)
    refine g_aload_0 dX5_hasMotifFrom_16 ?_
    refine g_get dX5_hasMotifFrom_17 (fX5_9 rfl) h0 rfl ?_
    refine g_iload_2 dX5_hasMotifFrom_20 ?_
    refine g_caldN dX5_hasMotifFrom_21 h1 (by omega) (by decide) ?_
    refine g_bipush (v := nI 109) dX5_hasMotifFrom_22 rfl ?_
    refine g_icmp_neN (tgt := 40) dX5_hasMotifFrom_24 (by decide) (by omega) (by omega) (fun h24 => ?_) (fun h24 => ?_)
    · refine g_iincN_2 (q := 1) rfl dX5_hasMotifFrom_40 rfl ?_
      refine g_goto (tgt := 2) dX5_hasMotifFrom_43 (by decide) ?_
      have e := ih (i + 1) (by omega)
      have eh : hasM g len n (d + 1) i = hasM g len n d (i + 1) := by
        simp only [hasM]
        first
          | (rw [decide_eq_false h24]; simp; done)
          | (rw [decide_eq_false (Int32.not_le.mpr h35)]; simp; done)
      rw [eh]
      exact e
    · refine g_aload_0 dX5_hasMotifFrom_27 ?_
      refine g_iload_2 dX5_hasMotifFrom_28 ?_
      refine g_iconst (v := nI 1) dX5_hasMotifFrom_29 rfl ?_
      refine g_iaddN dX5_hasMotifFrom_30 ?_
      refine g_v1_1 dX5_hasMotifFrom_31 (vX5_41 rfl) rfl (by assumption) (Nat.le_of_ble_eq_true rfl) ⟨rfl, rfl⟩ (Nat.le_of_ble_eq_true rfl) (Nat.le_of_ble_eq_true rfl) (c_digitAt hc0 hg hl (by omega)) ?_
      refine g_iload_1 dX5_hasMotifFrom_34 ?_
      refine g_icmp_lt (tgt := 40) dX5_hasMotifFrom_35 (by decide)  (fun h35 => ?_) (fun h35 => ?_)
      · refine g_iincN_2 (q := 1) rfl dX5_hasMotifFrom_40 rfl ?_
        refine g_goto (tgt := 2) dX5_hasMotifFrom_43 (by decide) ?_
        have e := ih (i + 1) (by omega)
        have eh : hasM g len n (d + 1) i = hasM g len n d (i + 1) := by
          simp only [hasM]
          first
            | (rw [decide_eq_false h24]; simp; done)
            | (rw [decide_eq_false (Int32.not_le.mpr h35)]; simp; done)
        rw [eh]
        exact e
      · refine g_iconst (v := nI 1) dX5_hasMotifFrom_38 rfl ?_
        exact g_ireturn rfl rfl dX5_hasMotifFrom_39 (Nat.le_of_ble_eq_true rfl) (Nat.le_of_ble_eq_true rfl) (gDi (by simp only [hasM]; first | (rw [h24, decide_eq_true (Int32.not_lt.mp h35)]; rfl) | (rw [decide_eq_true h24, decide_eq_true (Int32.not_lt.mp h35)]; rfl)))
theorem c_hasMotif (hc : ScriptAt M sc len g) (hg : CharsOK g) (hl : len ≤ 120) : Runs mX5_hasMotifFrom [.ref sc, .int (nI n)] M z (gD (some (.int (bI (hasM g len n len 0)))) M z) := by
  have hc0 := hc
  obtain ⟨h0, h1⟩ := hc
  refine runs_of plX5 rfl (Nat.le_of_ble_eq_true rfl) ?_
  show WP mX5_hasMotifFrom 0 [some (.ref sc), some (.int (nI n)), none] [] M z 0 0 _
  refine g_iconst (v := nI 0) dX5_hasMotifFrom_0 rfl ?_
  refine g_istore_2 rfl dX5_hasMotifFrom_1 ?_
  exact c_hasMotif_l hc0 hg hl len 0 (by omega)
theorem c_add (hc : ScriptAt M sc len g) (hl : len < 120) (h256 : c < 256) : Runs mX5_add [.ref sc, .int (nI c)] M z (fun r M' z' => r = .inl none ∧ ScriptAt M' sc (len + 1) (fun i => if i = len then c else g i) ∧ Out M M' sc 2 ∧ z' = z) := by
  obtain ⟨h0, h1⟩ := hc
  refine runs_of plX5 rfl (Nat.le_of_ble_eq_true rfl) ?_
  show WP mX5_add 0 [some (.ref sc), some (.int (nI c))] [] M z 0 0 _
  refine g_aload_0 dX5_add_0 ?_
  refine g_get dX5_add_1 (fX5_15 rfl) h0 rfl ?_
  refine g_if_ltN (tgt := 36) dX5_add_4 (by decide) (by omega) ?_
  refine g_aload_0 dX5_add_7 ?_
  refine g_get dX5_add_8 (fX5_15 rfl) h0 rfl ?_
  refine g_bipush (v := nI 120) dX5_add_11 rfl ?_
  refine g_icmp_geN (tgt := 36) dX5_add_13 (by decide) (by omega) (by omega) (fun h13 => absurd h13 (by omega)) (fun _ => ?_)
  refine g_aload_0 dX5_add_16 ?_
  refine g_get dX5_add_17 (fX5_9 rfl) h0 rfl ?_
  refine g_aload_0 dX5_add_20 ?_
  refine g_get dX5_add_21 (fX5_15 rfl) h0 rfl ?_
  refine g_iload_1 dX5_add_24 ?_
  refine g_castN dX5_add_25 h1 (by omega) (by decide) (nar_char _ h256) ?_
  have h0 : hpu M (sc + 1) (aC 120 (upd (fun i => nI (g i)) len (nI c))) sc = _ := (hpu_ne _ _ (by omega)).trans h0
  refine g_aload_0 dX5_add_26 ?_
  refine g_dup dX5_add_27 rfl ?_
  refine g_get dX5_add_28 (fX5_15 rfl) h0 rfl ?_
  refine g_iconst (v := nI 1) dX5_add_31 rfl ?_
  refine g_iaddN dX5_add_32 ?_
  refine g_put dX5_add_33 (fX5_15 rfl) h0 rfl rfl (Nat.le_of_ble_eq_true rfl) rfl ?_
  exact g_return rfl dX5_add_36 (Nat.le_of_ble_eq_true rfl) (Nat.le_of_ble_eq_true rfl) ⟨rfl, ⟨hpu_same _ _ _, (hpu_ne _ _ (by omega)).trans ((hpu_same _ _ _).trans (congrArg (fun q => some (aC 120 q)) (by funext j; simp only [upd]; split <;> rfl)))⟩, (Out.put (by omega) (by omega)).tr (Out.put (by omega) (by omega)), rfl⟩
end P25
