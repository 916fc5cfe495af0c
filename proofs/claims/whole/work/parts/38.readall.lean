section P38
variable {M M0 : Hp} {z b c j i n len p : Nat} {f g : Row} {x y w v G : Int32} {I : Row} {A : Nat → Row} {gd bq : Bool} {Φ : GR → Hp → Nat → Prop}
/-- a plain order is read: the place, whether good, the greatest motif -/
def rdP (A : Nat → Row) (len p : Nat) (G : Int32) : Nat × Bool × Int32 :=
  if herF A len p = nI 108 ∨ herF A len p = nI 114 ∨ herF A len p = nI 120 ∨ herF A len p = nI 101 then (p + 1, true, G)
  else if herF A len p = nI 115 ∨ herF A len p = nI 106 then (takP (takP (p + 1) (digB A len (p + 1) 0 1)) (sjU A len p), sjU A len p, G)
  else if herF A len p = nI 99 then (takP (p + 1) (digB A len (p + 1) 0 4), (digB A len (p + 1) 0 4), G)
  else if herF A len p = nI 104 then (takP (p + 1) (digB A len (p + 1) 1 9), (digB A len (p + 1) 1 9), G)
  else if herF A len p = nI 109 then (takP (p + 1) (digB A len (p + 1) 0 3), (digB A len (p + 1) 0 3), if G < (if (digB A len (p + 1) 0 3) = true then herF A len (p + 1) - nI 48 else nI 0) then (if (digB A len (p + 1) 0 3) = true then herF A len (p + 1) - nI 48 else nI 0) else G)
  else (p, false, G)
theorem m_readPlain (hA : MAt M b I A) (hl : I 16 = nI len) (hp : I 17 = nI p) (hlen : len ≤ 120) (hp9 : p < 900) (hg : I 18 = bI true) (hG : I 19 = G) : Runs mX8_readPlain [.ref b] M z (RdQ M b I A (rdP A len p G).1 (rdP A len p G).2.1 (rdP A len p G).2.2 z) := by
  unfold rdP
  by_cases h1 : herF A len p = nI 108 ∨ herF A len p = nI 114 ∨ herF A len p = nI 120 ∨ herF A len p = nI 101
  · rw [if_pos h1]
    rcases h1 with h | h | h | h
    · exact m_plain_l hA hl hp hlen hp9 hg hG h
    · exact m_plain_r hA hl hp hlen hp9 hg hG h
    · exact m_plain_x hA hl hp hlen hp9 hg hG h
    · exact m_plain_e hA hl hp hlen hp9 hg hG h
  · rw [if_neg h1]
    by_cases h2 : herF A len p = nI 115 ∨ herF A len p = nI 106
    · rw [if_pos h2]
      rcases h2 with h | h
      · exact m_plain_s hA hl hp hlen hp9 hg hG h
      · exact m_plain_j hA hl hp hlen hp9 hg hG h
    · rw [if_neg h2]
      by_cases h3 : herF A len p = nI 99
      · rw [if_pos h3]; exact m_plain_c hA hl hp hlen hp9 hg hG h3
      · rw [if_neg h3]
        by_cases h4 : herF A len p = nI 104
        · rw [if_pos h4]; exact m_plain_h hA hl hp hlen hp9 hg hG h4
        · rw [if_neg h4]
          by_cases h5 : herF A len p = nI 109
          · rw [if_pos h5]; exact m_plain_m hA hl hp hlen hp9 hg hG h5
          · rw [if_neg h5]
            exact m_plain_no hA hl hp hlen hp9 hg hG (fun h => h2 (Or.inl h)) (fun h => h2 (Or.inr h)) (fun h => h1 (Or.inl h)) (fun h => h1 (Or.inr (Or.inl h))) h3 h4 (fun h => h1 (Or.inr (Or.inr (Or.inl h)))) (fun h => h1 (Or.inr (Or.inr (Or.inr h)))) h5
/-- a good reading goes on inside the text -/
theorem herF_lt (h : herF A len p ≠ -1) : p < len := by
  unfold herF at h
  split at h
  · assumption
  · exact absurd rfl h
theorem digB_lt {lo hi : Nat} (hlo : lo < 100) (h : digB A len p lo hi = true) : p < len := by
  refine herF_lt (A := A) (fun q => ?_)
  unfold digB at h
  rw [q] at h
  simp only [Bool.and_eq_true, decide_eq_true_eq] at h
  have h1 := h.1
  rw [Int32.le_iff_toInt_le, nI_toInt (by omega), show ((-1 : Int32) - nI 48).toInt = -49 from by decide] at h1
  omega
theorem takP_le {q : Nat} {t : Bool} (h : t = true → q < len) (hq : q ≤ len) : takP q t ≤ len := by
  unfold takP
  split
  · next e => have := h e; omega
  · omega
theorem rdP_le (hp : p ≤ len) : (rdP A len p G).1 ≤ len := by
  unfold rdP
  by_cases h0 : p < len
  · have hp1 : p + 1 ≤ len := h0
    split
    · exact hp1
    · split
      · refine takP_le (fun e => ?_) (takP_le (fun e => digB_lt (by decide) e) hp1)
        unfold sjU at e
        simp only [Bool.and_eq_true] at e
        have e2 := e.2
        refine digB_lt ?_ e2
        (repeat' split) <;> decide
      · split
        · exact takP_le (fun e => digB_lt (by decide) e) hp1
        · split
          · exact takP_le (fun e => digB_lt (by decide) e) hp1
          · split
            · exact takP_le (fun e => digB_lt (by decide) e) hp1
            · exact hp
  · have e : herF A len p = -1 := if_neg h0
    have n : ∀ k, k < 2 ^ 31 → ¬ (-1 : Int32) = nI k := fun k hk q => nI_nm1 hk q.symm
    rw [e, if_neg (by rintro (h | h | h | h) <;> exact n _ (by decide) h), if_neg (by rintro (h | h) <;> exact n _ (by decide) h), if_neg (n _ (by decide)), if_neg (n _ (by decide)), if_neg (n _ (by decide))]
    exact hp
end P38
