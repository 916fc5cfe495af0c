section P36
variable {M M0 : Hp} {z b c j i n len p : Nat} {f g : Row} {x y w v : Int32} {I : Row} {A : Nat → Row} {gd bq : Bool} {Φ : GR → Hp → Nat → Prop}
theorem m_take_tt (hA : MAt M b I A) (hp : I 17 = nI p) (hg : I 18 = bI true) : Runs mX8_take [.ref b, .int (bI true)] M z (MMut none M b (upd (upd I 18 (bI true)) 17 (nI (p + 1))) A z) := by
  have hao := hA.1
  refine runs_of plX8 rfl (Nat.le_of_ble_eq_true rfl) ?_
  show WP mX8_take 0 [some (.ref b), some (.int (bI true))] [] M z 0 0 _
  refine g_aload_0 dX8_take_0 ?_
  refine g_aload_0 dX8_take_1 ?_
  refine g_get dX8_take_2 (fX8_156 rfl) hao rfl ?_
  rw [hg]
  refine g_if_eqB (tgt := 16) dX8_take_5 (by decide)  (fun h5 => absurd h5 (by decide)) (fun _ => ?_)
  refine g_iload_1 dX8_take_8 ?_
  refine g_if_eqB (tgt := 16) dX8_take_9 (by decide)  (fun h9 => absurd h9 (by decide)) (fun _ => ?_)
  refine g_iconst (v := nI 1) dX8_take_12 rfl ?_
  refine g_goto (tgt := 17) dX8_take_13 (by decide) ?_
  refine g_putI18 (gd := true) dX8_take_17 (fX8_156 rfl) hA (fun M1 hA1 n1 => ?_)
  have hao1 := hA1.1
  refine g_aload_0 dX8_take_20 ?_
  refine g_dup dX8_take_21 rfl ?_
  refine g_get dX8_take_22 (fX8_153 rfl) hao1 rfl ?_
  rw [show upd I 18 (bI true) 17 = I 17 from rfl, hp]
  refine g_aload_0 dX8_take_25 ?_
  refine g_get dX8_take_26 (fX8_156 rfl) hao1 rfl ?_
  rw [show upd I 18 (bI true) 18 = bI true from rfl]
  refine g_if_eqB (tgt := 36) dX8_take_29 (by decide)  (fun h29 => absurd h29 (by decide)) (fun _ => ?_)
  refine g_iconst (v := nI 1) dX8_take_32 rfl ?_
  refine g_goto (tgt := 37) dX8_take_33 (by decide) ?_
  refine g_iaddN dX8_take_37 ?_
  refine g_putI17 dX8_take_38 (fX8_153 rfl) hA1 (fun M2 hA2 n2 => ?_)
  have hao2 := hA2.1
  exact g_return rfl dX8_take_41 (Nat.le_of_ble_eq_true rfl) (Nat.le_of_ble_eq_true rfl) ⟨rfl, hA2, fun q hq => (n2 q (by omega)).trans (n1 q (by omega)), rfl⟩
theorem m_take_tf (hA : MAt M b I A) (hp : I 17 = nI p) (hg : I 18 = bI true) : Runs mX8_take [.ref b, .int (bI false)] M z (MMut none M b (upd (upd I 18 (bI false)) 17 (nI (p + 0))) A z) := by
  have hao := hA.1
  refine runs_of plX8 rfl (Nat.le_of_ble_eq_true rfl) ?_
  show WP mX8_take 0 [some (.ref b), some (.int (bI false))] [] M z 0 0 _
  refine g_aload_0 dX8_take_0 ?_
  refine g_aload_0 dX8_take_1 ?_
  refine g_get dX8_take_2 (fX8_156 rfl) hao rfl ?_
  rw [hg]
  refine g_if_eqB (tgt := 16) dX8_take_5 (by decide)  (fun h5 => absurd h5 (by decide)) (fun _ => ?_)
  refine g_iload_1 dX8_take_8 ?_
  refine g_if_eqB (tgt := 16) dX8_take_9 (by decide)  (fun _ => ?_) (fun h9 => absurd h9 (by decide))
  refine g_iconst (v := nI 0) dX8_take_16 rfl ?_
  refine g_putI18 (gd := false) dX8_take_17 (fX8_156 rfl) hA (fun M1 hA1 n1 => ?_)
  have hao1 := hA1.1
  refine g_aload_0 dX8_take_20 ?_
  refine g_dup dX8_take_21 rfl ?_
  refine g_get dX8_take_22 (fX8_153 rfl) hao1 rfl ?_
  rw [show upd I 18 (bI false) 17 = I 17 from rfl, hp]
  refine g_aload_0 dX8_take_25 ?_
  refine g_get dX8_take_26 (fX8_156 rfl) hao1 rfl ?_
  rw [show upd I 18 (bI false) 18 = bI false from rfl]
  refine g_if_eqB (tgt := 36) dX8_take_29 (by decide)  (fun _ => ?_) (fun h29 => absurd h29 (by decide))
  refine g_iconst (v := nI 0) dX8_take_36 rfl ?_
  refine g_iaddN dX8_take_37 ?_
  refine g_putI17 dX8_take_38 (fX8_153 rfl) hA1 (fun M2 hA2 n2 => ?_)
  have hao2 := hA2.1
  exact g_return rfl dX8_take_41 (Nat.le_of_ble_eq_true rfl) (Nat.le_of_ble_eq_true rfl) ⟨rfl, hA2, fun q hq => (n2 q (by omega)).trans (n1 q (by omega)), rfl⟩
theorem m_take_ft (hA : MAt M b I A) (hp : I 17 = nI p) (hg : I 18 = bI false) : Runs mX8_take [.ref b, .int (bI true)] M z (MMut none M b (upd (upd I 18 (bI false)) 17 (nI (p + 0))) A z) := by
  have hao := hA.1
  refine runs_of plX8 rfl (Nat.le_of_ble_eq_true rfl) ?_
  show WP mX8_take 0 [some (.ref b), some (.int (bI true))] [] M z 0 0 _
  refine g_aload_0 dX8_take_0 ?_
  refine g_aload_0 dX8_take_1 ?_
  refine g_get dX8_take_2 (fX8_156 rfl) hao rfl ?_
  rw [hg]
  refine g_if_eqB (tgt := 16) dX8_take_5 (by decide)  (fun _ => ?_) (fun h5 => absurd h5 (by decide))
  refine g_iconst (v := nI 0) dX8_take_16 rfl ?_
  refine g_putI18 (gd := false) dX8_take_17 (fX8_156 rfl) hA (fun M1 hA1 n1 => ?_)
  have hao1 := hA1.1
  refine g_aload_0 dX8_take_20 ?_
  refine g_dup dX8_take_21 rfl ?_
  refine g_get dX8_take_22 (fX8_153 rfl) hao1 rfl ?_
  rw [show upd I 18 (bI false) 17 = I 17 from rfl, hp]
  refine g_aload_0 dX8_take_25 ?_
  refine g_get dX8_take_26 (fX8_156 rfl) hao1 rfl ?_
  rw [show upd I 18 (bI false) 18 = bI false from rfl]
  refine g_if_eqB (tgt := 36) dX8_take_29 (by decide)  (fun _ => ?_) (fun h29 => absurd h29 (by decide))
  refine g_iconst (v := nI 0) dX8_take_36 rfl ?_
  refine g_iaddN dX8_take_37 ?_
  refine g_putI17 dX8_take_38 (fX8_153 rfl) hA1 (fun M2 hA2 n2 => ?_)
  have hao2 := hA2.1
  exact g_return rfl dX8_take_41 (Nat.le_of_ble_eq_true rfl) (Nat.le_of_ble_eq_true rfl) ⟨rfl, hA2, fun q hq => (n2 q (by omega)).trans (n1 q (by omega)), rfl⟩
theorem m_take_ff (hA : MAt M b I A) (hp : I 17 = nI p) (hg : I 18 = bI false) : Runs mX8_take [.ref b, .int (bI false)] M z (MMut none M b (upd (upd I 18 (bI false)) 17 (nI (p + 0))) A z) := by
  have hao := hA.1
  refine runs_of plX8 rfl (Nat.le_of_ble_eq_true rfl) ?_
  show WP mX8_take 0 [some (.ref b), some (.int (bI false))] [] M z 0 0 _
  refine g_aload_0 dX8_take_0 ?_
  refine g_aload_0 dX8_take_1 ?_
  refine g_get dX8_take_2 (fX8_156 rfl) hao rfl ?_
  rw [hg]
  refine g_if_eqB (tgt := 16) dX8_take_5 (by decide)  (fun _ => ?_) (fun h5 => absurd h5 (by decide))
  refine g_iconst (v := nI 0) dX8_take_16 rfl ?_
  refine g_putI18 (gd := false) dX8_take_17 (fX8_156 rfl) hA (fun M1 hA1 n1 => ?_)
  have hao1 := hA1.1
  refine g_aload_0 dX8_take_20 ?_
  refine g_dup dX8_take_21 rfl ?_
  refine g_get dX8_take_22 (fX8_153 rfl) hao1 rfl ?_
  rw [show upd I 18 (bI false) 17 = I 17 from rfl, hp]
  refine g_aload_0 dX8_take_25 ?_
  refine g_get dX8_take_26 (fX8_156 rfl) hao1 rfl ?_
  rw [show upd I 18 (bI false) 18 = bI false from rfl]
  refine g_if_eqB (tgt := 36) dX8_take_29 (by decide)  (fun _ => ?_) (fun h29 => absurd h29 (by decide))
  refine g_iconst (v := nI 0) dX8_take_36 rfl ?_
  refine g_iaddN dX8_take_37 ?_
  refine g_putI17 dX8_take_38 (fX8_153 rfl) hA1 (fun M2 hA2 n2 => ?_)
  have hao2 := hA2.1
  exact g_return rfl dX8_take_41 (Nat.le_of_ble_eq_true rfl) (Nat.le_of_ble_eq_true rfl) ⟨rfl, hA2, fun q hq => (n2 q (by omega)).trans (n1 q (by omega)), rfl⟩
def takP (p : Nat) (t : Bool) : Nat := p + (if t = true then 1 else 0)
theorem m_take (hA : MAt M b I A) (hp : I 17 = nI p) (hg : I 18 = bI gd) : Runs mX8_take [.ref b, .int (bI bq)] M z (MMut none M b (upd (upd I 18 (bI (gd && bq))) 17 (nI (takP p (gd && bq)))) A z) := by
  match gd, bq, hg with
  | true, true, hg => exact m_take_tt hA hp hg
  | true, false, hg => exact m_take_tf hA hp hg
  | false, true, hg => exact m_take_ft hA hp hg
  | false, false, hg => exact m_take_ff hA hp hg
/-- the character at the place; none -/
def herF (A : Nat → Row) (len p : Nat) : Int32 := if p < len then A 12 p else -1
def digB (A : Nat → Row) (len p lo hi : Nat) : Bool := decide (nI lo ≤ herF A len p - nI 48) && decide (herF A len p - nI 48 ≤ nI hi)
theorem nI_l' {n : Nat} (h : n < 2 ^ 31) : (nI n).toInt64 = lN n := nI_l h
theorem m_digit33 {lo hi : Nat} (hA : MAt M b I A) (hl : I 16 = nI len) (hp : I 17 = nI p) (hlen : len ≤ 120) (hp9 : p < 1000) (hg : I 18 = bI gd) : WP mX8_digit 33 [some (.ref b), some (.int (nI lo)), some (.int (nI hi)), some (.int (herF A len p - nI 48))] [.int (bI (gd && digB A len p lo hi)), .ref b] M z 0 0 (MMut (some (.int (if (gd && digB A len p lo hi) = true then herF A len p - nI 48 else nI 0))) M b (upd (upd I 18 (bI (gd && digB A len p lo hi))) 17 (nI (takP p (gd && digB A len p lo hi)))) A z) := by
  have hao := hA.1
  have eT : (gd && (gd && digB A len p lo hi)) = (gd && digB A len p lo hi) := by cases gd <;> rfl
  refine g_v1 dX8_digit_33 (vX8_164 rfl) rfl hao (Nat.le_of_ble_eq_true rfl) (Nat.le_of_ble_eq_true rfl) (Nat.le_of_ble_eq_true rfl) (m_take hA hp hg) (fun r M2 z2 hq => ?_) (fun E M2 z2 hq => by obtain ⟨hq, -⟩ := hq; cases hq)
  obtain ⟨hr, hA1, hO1, rfl⟩ := hq
  cases hr
  rw [eT] at hA1
  have hao1 := hA1.1
  refine g_aload_0 dX8_digit_36 ?_
  refine g_get dX8_digit_37 (fX8_156 rfl) hao1 rfl ?_
  rw [show (upd (upd I 18 (bI (gd && digB A len p lo hi))) 17 (nI (takP p (gd && digB A len p lo hi)))) 18 = bI (gd && digB A len p lo hi) from rfl]
  refine g_if_eqB (tgt := 47) dX8_digit_40 (by decide)  (fun h40 => ?_) (fun h40 => ?_)
  · refine g_iconst (v := nI 0) dX8_digit_47 rfl ?_
    exact g_ireturn rfl rfl dX8_digit_48 (Nat.le_of_ble_eq_true rfl) (Nat.le_of_ble_eq_true rfl) (by first | exact ⟨by rw [if_neg (by rw [h40]; decide)], hA1, hO1, rfl⟩ | exact ⟨by rw [if_pos h40], hA1, hO1, rfl⟩)
  · refine g_iload_3 dX8_digit_43 ?_
    refine g_goto (tgt := 48) dX8_digit_44 (by decide) ?_
    exact g_ireturn rfl rfl dX8_digit_48 (Nat.le_of_ble_eq_true rfl) (Nat.le_of_ble_eq_true rfl) (by first | exact ⟨by rw [if_neg (by rw [h40]; decide)], hA1, hO1, rfl⟩ | exact ⟨by rw [if_pos h40], hA1, hO1, rfl⟩)
theorem m_digit {lo hi : Nat} (hA : MAt M b I A) (hl : I 16 = nI len) (hp : I 17 = nI p) (hlen : len ≤ 120) (hp9 : p < 1000) (hg : I 18 = bI gd) (hlo : lo < 2 ^ 31) (hhi : hi < 2 ^ 31) : Runs mX8_digit [.ref b, .int (nI lo), .int (nI hi)] M z (MMut (some (.int (if (gd && digB A len p lo hi) = true then herF A len p - nI 48 else nI 0))) M b (upd (upd I 18 (bI (gd && digB A len p lo hi))) 17 (nI (takP p (gd && digB A len p lo hi)))) A z) := by
  have hao := hA.1
  refine runs_of plX8 rfl (Nat.le_of_ble_eq_true rfl) ?_
  show WP mX8_digit 0 [some (.ref b), some (.int (nI lo)), some (.int (nI hi)), none] [] M z 0 0 _
  refine g_aload_0 dX8_digit_0 ?_
  refine g_v0_1 dX8_digit_1 (vX8_160 rfl) rfl hao (Nat.le_of_ble_eq_true rfl) ⟨rfl, rfl⟩ (Nat.le_of_ble_eq_true rfl) (Nat.le_of_ble_eq_true rfl) (m_here hA hl hp hlen hp9) ?_
  rw [show (if p < len then A 12 p else -1) = herF A len p from rfl]
  refine g_bipush (v := nI 48) dX8_digit_4 rfl ?_
  refine g_isub dX8_digit_6 ?_
  refine g_istore_3 rfl dX8_digit_7 ?_
  refine g_aload_0 dX8_digit_8 ?_
  refine g_aload_0 dX8_digit_9 ?_
  refine g_get dX8_digit_10 (fX8_156 rfl) hao rfl ?_
  rw [hg]
  refine g_if_eqB (tgt := 32) dX8_digit_13 (by decide)  (fun h13 => ?_) (fun h13 => ?_)
  · refine g_iconst (v := nI 0) dX8_digit_32 rfl ?_
    have e := m_digit33 (lo := lo) (hi := hi) (z := z) hA hl hp hlen hp9 hg
    first
      | (rw [show (gd && digB A len p lo hi) = false from by rw [h13]; rfl] at e ⊢; exact e)
      | (rw [show (gd && digB A len p lo hi) = false from by rw [show digB A len p lo hi = false from h25]; simp] at e ⊢; exact e)
      | (rw [show (gd && digB A len p lo hi) = true from by rw [h13, show digB A len p lo hi = true from h25]; rfl] at e ⊢; exact e)
  · refine g_iload_3 dX8_digit_16 ?_
    refine g_i2l dX8_digit_17 ?_
    refine g_iload_1 dX8_digit_18 ?_
    refine g_i2l dX8_digit_19 ?_
    refine g_iload_2 dX8_digit_20 ?_
    refine g_i2l dX8_digit_21 ?_
    refine g_s3_1 dX8_digit_22 (sX8_53 rfl) rfl (Nat.le_of_ble_eq_true rfl) ⟨rfl, rfl⟩ (Nat.le_of_ble_eq_true rfl) (Nat.le_of_ble_eq_true rfl) (m_inI hlo hhi (nI_l' hlo) (nI_l' hhi)) ?_
    refine g_if_eqB (tgt := 32) dX8_digit_25 (by decide)  (fun h25 => ?_) (fun h25 => ?_)
    · refine g_iconst (v := nI 0) dX8_digit_32 rfl ?_
      have e := m_digit33 (lo := lo) (hi := hi) (z := z) hA hl hp hlen hp9 hg
      first
        | (rw [show (gd && digB A len p lo hi) = false from by rw [h13]; rfl] at e ⊢; exact e)
        | (rw [show (gd && digB A len p lo hi) = false from by rw [show digB A len p lo hi = false from h25]; simp] at e ⊢; exact e)
        | (rw [show (gd && digB A len p lo hi) = true from by rw [h13, show digB A len p lo hi = true from h25]; rfl] at e ⊢; exact e)
    · refine g_iconst (v := nI 1) dX8_digit_28 rfl ?_
      refine g_goto (tgt := 33) dX8_digit_29 (by decide) ?_
      have e := m_digit33 (lo := lo) (hi := hi) (z := z) hA hl hp hlen hp9 hg
      first
        | (rw [show (gd && digB A len p lo hi) = false from by rw [h13]; rfl] at e ⊢; exact e)
        | (rw [show (gd && digB A len p lo hi) = false from by rw [show digB A len p lo hi = false from h25]; simp] at e ⊢; exact e)
        | (rw [show (gd && digB A len p lo hi) = true from by rw [h13, show digB A len p lo hi = true from h25]; rfl] at e ⊢; exact e)
end P36
