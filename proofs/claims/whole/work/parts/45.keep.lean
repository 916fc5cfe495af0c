section P45
variable {f g : Row} {c d e i k n : Nat} {x : Int32} {Ln : Nat → Nat}
theorem draw_ne (hc : c < 5) (hn : n < 5) (hk : k < 432 ∨ 457 ≤ k) : f_draw f c x n k = f k := by
  unfold f_draw
  by_cases h0 : n = 0
  · simp only [h0, if_true]
    exact upd_ne (by omega)
  · simp only [h0, if_false]
    rw [upd_ne (by omega), upd_ne (by omega)]
theorem cut_ne (hI : Rng f) (ht : 0 < tno f) (hk : 463 ≤ k) : f_cut f k = f k := by
  have := hI.tlt
  unfold f_cut
  rw [upd_ne (by omega), upd_ne (by omega), draw_ne (by omega) (by decide) (by omega)]
theorem thread_ne (hI : Rng f) (hc : c < 5) (hk : 463 ≤ k) : f_thread f c k = f k := by
  unfold f_thread
  rw [upd_ne (by omega), upd_ne (by omega), draw_ne hc (by decide) (by omega)]
  split
  · next h => exact cut_ne hI h hk
  · rfl
theorem ease_ne (hI : Rng f) (ht : 0 < tno f) (hk : 463 ≤ k) : f_ease f k = f k := by
  have := hI.tlt
  unfold f_ease
  rw [upd_ne (by omega), draw_ne (by omega) (by decide) (by omega)]
theorem turn_ne (hk : 463 ≤ k) : f_turn f n k = f k := by
  unfold f_turn
  rw [upd_ne (by omega), upd_ne (by omega)]
theorem goOn_ne (hk : 463 ≤ k) : f_goOn f k = f k := by
  unfold f_goOn
  cases f_to f with
  | none => rfl
  | some j => exact upd_ne (by omega)
theorem jump1_ne (hI : Rng f) (hk : 463 ≤ k) : f_jump1 f k = f k := by
  have h := hI.goOn
  have hth := h.tlt
  unfold f_jump1
  split
  · rw [pull_ne (by omega) (by decide) (by omega)]
    exact goOn_ne hk
  · exact goOn_ne hk
theorem sew_ne (hk : 463 ≤ k) : ∀ w {f : Row}, Rng f → (f_sew w f).1 k = f k
  | 0, _, _ => rfl
  | w + 1, f, hI => by
    unfold f_sew
    split
    · next h0 =>
      have hp : f_punch f k = f k := punch_ne hI (noSt_t h0) (by omega)
      split
      · exact (sew_ne hk w ((hI.punch (noSt_t h0)).goOn)).trans ((goOn_ne hk).trans hp)
      · exact hp
    · rfl
theorem jump_ne (hk : 463 ≤ k) : ∀ w {f : Row}, Rng f → (f_jump w f).1 k = f k
  | 0, _, _ => rfl
  | w + 1, f, hI => by
    unfold f_jump
    split
    · exact (jump_ne hk w hI.jump1).trans (jump1_ne hI hk)
    · rfl
theorem sew_cnt : ∀ w {f : Row}, (f_sew w f).2 ≤ w
  | 0, _ => Nat.le_refl 0
  | w + 1, f => by
    unfold f_sew
    split
    · split
      · exact Nat.succ_le_succ (sew_cnt w)
      · exact Nat.succ_le_succ (Nat.zero_le w)
    · exact Nat.zero_le _
theorem jump_cnt : ∀ w {f : Row}, (f_jump w f).2 ≤ w
  | 0, _ => Nat.le_refl 0
  | w + 1, f => by
    unfold f_jump
    split
    · exact Nat.succ_le_succ (jump_cnt w)
    · exact Nat.zero_le _
theorem oDo_ok (hI : Rng f) (h99 : c = 99 → d < 5) (h104 : c = 104 → 1 ≤ d ∧ d < 10) : Rng (oDo Ln f c d e).1 ∧ (∀ k, 463 ≤ k → (oDo Ln f c d e).1 k = f k) ∧ (oDo Ln f c d e).2 ≤ 1 := by
  have hb : ∀ (P : Prop) [Decidable P], (if P then 1 else 0) ≤ 1 := fun P _ => by split <;> decide
  have hb' : ∀ (P : Prop) [Decidable P], (if P then 1 else 0) ≤ 1 := fun P _ => by split <;> decide
  unfold oDo
  by_cases c1 : c = 115
  · rw [if_pos c1]
    exact ⟨hI.sew _, fun k hk => sew_ne hk _ hI, hb _⟩
  rw [if_neg c1]
  by_cases c2 : c = 106
  · rw [if_pos c2]
    exact ⟨hI.jump _, fun k hk => jump_ne hk _ hI, hb _⟩
  rw [if_neg c2]
  by_cases c3 : c = 108
  · rw [if_pos c3]
    exact ⟨hI.turn 3, fun k hk => turn_ne hk, Nat.zero_le _⟩
  rw [if_neg c3]
  by_cases c4 : c = 114
  · rw [if_pos c4]
    exact ⟨hI.turn 1, fun k hk => turn_ne hk, Nat.zero_le _⟩
  rw [if_neg c4]
  by_cases c5 : c = 99
  · rw [if_pos c5]
    split
    · exact ⟨hI.thread (h99 c5), fun k hk => thread_ne hI (h99 c5) hk, Nat.zero_le _⟩
    · exact ⟨hI, fun k hk => rfl, Nat.le_refl 1⟩
  rw [if_neg c5]
  by_cases c6 : c = 104
  · rw [if_pos c6]
    exact ⟨hI.s460 (h104 c6).2 (h104 c6).1, fun k hk => upd_ne (by omega), Nat.zero_le _⟩
  rw [if_neg c6]
  by_cases c7 : c = 120
  · rw [if_pos c7]
    split
    · next h => exact ⟨hI.cut h, fun k hk => cut_ne hI h hk, Nat.zero_le _⟩
    · exact ⟨hI, fun k hk => rfl, Nat.le_refl 1⟩
  rw [if_neg c7]
  by_cases c8 : c = 101
  · rw [if_pos c8]
    split
    · next h => exact ⟨hI.ease h, fun k hk => ease_ne hI h hk, Nat.zero_le _⟩
    · exact ⟨hI, fun k hk => rfl, Nat.le_refl 1⟩
  rw [if_neg c8]
  by_cases c9 : c = 109
  · rw [if_pos c9]
    exact ⟨hI, fun k hk => rfl, hb _⟩
  · rw [if_neg c9]
    exact ⟨hI, fun k hk => rfl, Nat.zero_le _⟩
end P45
