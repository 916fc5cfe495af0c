section P41
variable {M M0 : Hp} {z b c j i n len p : Nat} {f g : Row} {x y w v G : Int32} {I : Row} {A : Nat → Row} {gd bq ok : Bool} {Φ : GR → Hp → Nat → Prop}
theorem rdG_le : ∀ d {p : Nat} {ok : Bool} {G : Int32}, p ≤ len → (rdG A len d p ok G).1 ≤ len
  | 0, _, _, _, h => h
  | d + 1, p, ok, G, h => by
    unfold rdG
    split
    · exact rdG_le d (rdP_le h)
    · exact h
theorem rdG_ge : ∀ d {p : Nat} {ok : Bool} {G : Int32}, (rdG A len d p ok G).2.1 = true → p ≤ (rdG A len d p ok G).1 ∧ ok = true
  | 0, _, _, _, h => ⟨Nat.le_refl _, h⟩
  | d + 1, p, ok, G, h => by
    unfold rdG at h ⊢
    split
    · next q =>
      rw [if_pos q] at h
      have e := rdG_ge d h
      have e2 := rdP_gt e.2
      exact ⟨by omega, q.1⟩
    · next q =>
      rw [if_neg q] at h
      exact ⟨Nat.le_refl _, h⟩
theorem rdG_end : ∀ d {p : Nat} {ok : Bool} {G : Int32}, p ≤ len → (ok = true → len + 2 ≤ p + d) → (rdG A len d p ok G).2.1 = true → (rdG A len d p ok G).1 < len
  | 0, p, ok, G, h1, h2, h => by
    have := h2 h
    omega
  | d + 1, p, ok, G, h1, h2, h => by
    unfold rdG at h ⊢
    split
    · next q =>
      rw [if_pos q] at h
      exact rdG_end d (rdP_le h1) (fun e => by have := rdP_gt e; have := h2 q.1; omega) h
    · next q =>
      rw [if_neg q] at h
      have e : herF A len p = nI 41 := Decidable.not_not.mp (fun w => q ⟨h, w⟩)
      exact herF_lt (A := A) (by rw [e]; decide)
theorem rdO_le (hp : p ≤ len) (hlen : len ≤ 120) : (rdO A len p G).1 ≤ len := by
  unfold rdO
  split
  · next h =>
    have hpl := dgt_lt h
    have h2 : (rdH A len p G).1 ≤ len := by
      unfold rdH
      split
      · next e =>
        have : p + 1 < len := herF_lt (A := A) (by rw [e]; decide)
        exact rdP_le (by omega)
      · exact hpl
    exact takP_le (fun e => rdG_end 122 h2 (fun _ => by omega) e) (rdG_le 122 h2)
  · exact rdP_le hp
theorem rdO_gt (h : (rdO A len p G).2.1 = true) : p < (rdO A len p G).1 := by
  unfold rdO at h ⊢
  split
  · next q =>
    rw [if_pos q] at h
    have e := rdG_ge 122 h
    have e2 : p < (rdH A len p G).1 := by
      have e3 := e.2
      unfold rdH at e3 ⊢
      split
      · next w =>
        rw [if_pos w] at e3
        have := rdP_gt e3
        omega
      · exact Nat.lt_succ_self p
    exact Nat.lt_of_lt_of_le (Nat.lt_of_lt_of_le e2 e.1) takP_ge
  · next q =>
    rw [if_neg q] at h
    exact rdP_gt h
/-- orders until the text ends -/
def rdL (A : Nat → Row) (len : Nat) : Nat → Nat → Bool → Int32 → Nat × Bool × Int32
  | 0, p, ok, G => (p, ok, G)
  | d + 1, p, ok, G => if ok = true ∧ p < len then rdL A len d (rdO A len p G).1 (rdO A len p G).2.1 (rdO A len p G).2.2 else (p, ok, G)
def rdA (A : Nat → Row) (len : Nat) : Nat × Bool × Int32 := rdL A len 122 (rdO A len 0 (-1)).1 (rdO A len 0 (-1)).2.1 (rdO A len 0 (-1)).2.2
end P41
