section P41
variable {M M0 : Hp} {z b c j i n len p : Nat} {f g : Row} {x y w v G : Int32} {I : Row} {A : Nat → Row} {gd bq ok : Bool} {Φ : GR → Hp → Nat → Prop}
theorem rdG_le : ∀ d {p : Nat} {ok : Bool} {G : Int32}, p ≤ len → (rdG A len d p ok G).1 ≤ len
  | 0, _, _, _, h => h
  | d + 1, p, ok, G, h => by
    unfold rdG
    split
    · exact rdG_le d (rdP_le h)
    · exact h
theorem rdG_ge : ∀ d {p : Nat} {ok : Bool} {G : Int32}, (rdG A len d p ok G).2.1 = true → p ≤ (rdG A len d p ok G).1 ∧ ok = true
  | 0, _, _, _, h => ⟨Nat.le_refl _, h⟩
  | d + 1, p, ok, G, h => by
    unfold rdG at h ⊢
    split
    · next q =>
      rw [if_pos q] at h
      have e := rdG_ge d h
      have e2 := rdP_gt e.2
      exact ⟨by omega, q.1⟩
    · next q =>
      rw [if_neg q] at h
      exact ⟨Nat.le_refl _, h⟩
theorem rdG_end : ∀ d {p : Nat} {ok : Bool} {G : Int32}, p ≤ len → (ok = true → len + 2 ≤ p + d) → (rdG A len d p ok G).2.1 = true → (rdG A len d p ok G).1 < len
  | 0, p, ok, G, h1, h2, h => by
    have := h2 h
    omega
  | d + 1, p, ok, G, h1, h2, h => by
    unfold rdG at h ⊢
    split
    · next q =>
      rw [if_pos q] at h
      exact rdG_end d (rdP_le h1) (fun e => by have := rdP_gt e; have := h2 q.1; omega) h
    · next q =>
      rw [if_neg q] at h
      have e : herF A len p = nI 41 := Decidable.not_not.mp (fun w => q ⟨h, w⟩)
      exact herF_lt (A := A) (by rw [e]; decide)
theorem rdO_le (hp : p ≤ len) (hlen : len ≤ 120) : (rdO A len p G).1 ≤ len := by
  unfold rdO
  split
  · next h =>
    have hpl := dgt_lt h
    have h2 : (rdH A len p G).1 ≤ len := by
      unfold rdH
      split
      · next e =>
        have : p + 1 < len := herF_lt (A := A) (by rw [e]; decide)
        exact rdP_le (by omega)
      · exact hpl
    exact takP_le (fun e => rdG_end 122 h2 (fun _ => by omega) e) (rdG_le 122 h2)
  · exact rdP_le hp
theorem rdO_gt (h : (rdO A len p G).2.1 = true) : p < (rdO A len p G).1 := by
  unfold rdO at h ⊢
  split
  · next q =>
    rw [if_pos q] at h
    have e := rdG_ge 122 h
    have e2 : p < (rdH A len p G).1 := by
      have e3 := e.2
      unfold rdH at e3 ⊢
      split
      · next w =>
        rw [if_pos w] at e3
        have := rdP_gt e3
        omega
      · exact Nat.lt_succ_self p
    exact Nat.lt_of_lt_of_le (Nat.lt_of_lt_of_le e2 e.1) takP_ge
  · next q =>
    rw [if_neg q] at h
    exact rdP_gt h
/-- orders until the text ends -/
def rdL (A : Nat → Row) (len : Nat) : Nat → Nat → Bool → Int32 → Nat × Bool × Int32
  | 0, p, ok, G => (p, ok, G)
  | d + 1, p, ok, G => if ok = true ∧ p < len then rdL A len d (rdO A len p G).1 (rdO A len p G).2.1 (rdO A len p G).2.2 else (p, ok, G)
def rdA (A : Nat → Row) (len : Nat) : Nat × Bool × Int32 := rdL A len 122 (rdO A len 0 (-1)).1 (rdO A len 0 (-1)).2.1 (rdO A len 0 (-1)).2.2
def RaQ (M : Hp) (b : Nat) (I : Row) (A : Nat → Row) (q : Nat × Bool × Int32) (z : Nat) : GR → Hp → Nat → Prop := fun r M' z' => r = .inl (some (.int (if q.2.1 = true then -1 else nI q.1))) ∧ (∃ I', MAt M' b I' A ∧ I' 19 = q.2.2 ∧ ∀ k, k ≠ 17 → k ≠ 18 → k ≠ 19 → I' k = I k) ∧ Out M M' b 13 ∧ z' = z
theorem m_all44t {I0 : Row} (hA : MAt M b I A) (hp : I 17 = nI p) (hg : I 18 = bI true) (hG : I 19 = G) (hI : ∀ k, k ≠ 17 → k ≠ 18 → k ≠ 19 → I k = I0 k) (hO : Out M0 M b 13) : WP mX8_readAll 44 [some (.ref b)] [] M z 0 0 (RaQ M0 b I0 A (p, true, G) z) := by
  refine g_aload_0 dX8_readAll_44 ?_
  refine g_get dX8_readAll_45 (fX8_156 rfl) hA.1 rfl ?_
  rw [hg]
  refine g_if_eqB (tgt := 55) dX8_readAll_48 (by decide)  (fun h48 => absurd h48 (by decide)) (fun _ => ?_)
  refine g_iconst (v := -1) dX8_readAll_51 rfl ?_
  refine g_goto (tgt := 59) dX8_readAll_52 (by decide) ?_
  exact g_ireturn rfl rfl dX8_readAll_59 (Nat.le_of_ble_eq_true rfl) (Nat.le_of_ble_eq_true rfl) ⟨rfl, ⟨_, hA, hG, hI⟩, hO, rfl⟩
theorem m_all44f {I0 : Row} (hA : MAt M b I A) (hp : I 17 = nI p) (hg : I 18 = bI false) (hG : I 19 = G) (hI : ∀ k, k ≠ 17 → k ≠ 18 → k ≠ 19 → I k = I0 k) (hO : Out M0 M b 13) : WP mX8_readAll 44 [some (.ref b)] [] M z 0 0 (RaQ M0 b I0 A (p, false, G) z) := by
  refine g_aload_0 dX8_readAll_44 ?_
  refine g_get dX8_readAll_45 (fX8_156 rfl) hA.1 rfl ?_
  rw [hg]
  refine g_if_eqB (tgt := 55) dX8_readAll_48 (by decide)  (fun _ => ?_) (fun h48 => absurd h48 (by decide))
  refine g_aload_0 dX8_readAll_55 ?_
  refine g_get dX8_readAll_56 (fX8_153 rfl) hA.1 rfl ?_
  rw [hp]
  exact g_ireturn rfl rfl dX8_readAll_59 (Nat.le_of_ble_eq_true rfl) (Nat.le_of_ble_eq_true rfl) ⟨rfl, ⟨_, hA, hG, hI⟩, hO, rfl⟩
theorem m_all {I0 : Row} (hlen : len ≤ 120) : ∀ d {p : Nat} {ok : Bool} {G : Int32} {I : Row} {M : Hp}, MAt M b I A → I 16 = nI len → I 17 = nI p → p ≤ len → I 18 = bI ok → I 19 = G → (∀ k, k ≠ 17 → k ≠ 18 → k ≠ 19 → I k = I0 k) → Out M0 M b 13 → (ok = true → len + 1 ≤ p + d) → WP mX8_readAll 19 [some (.ref b)] [] M z 0 0 (RaQ M0 b I0 A (rdL A len (d + 1) p ok G) z) := by
  intro d
  induction d with
  | zero =>
    intro p ok G I M hA hl hp hple hg hG hI hO hd
    cases hok : ok with
    | false =>
      have er : rdL A len (0 + 1) p false G = (p, false, G) := by
        simp [rdL]
      refine g_aload_0 dX8_readAll_19 ?_
      refine g_get dX8_readAll_20 (fX8_156 rfl) hA.1 rfl ?_
      rw [hg, hok]
      refine g_if_eqB (tgt := 44) dX8_readAll_23 (by decide)  (fun _ => ?_) (fun h23 => absurd h23 (by decide))
      rw [er]
      exact m_all44f hA hp (by rw [hg, hok]) hG hI hO
    | true => exact absurd (hd hok) (by omega)
  | succ d ih =>
    intro p ok G I M hA hl hp hple hg hG hI hO hd
    cases hok : ok with
    | false =>
      have er : rdL A len (d + 1 + 1) p false G = (p, false, G) := by
        simp [rdL]
      refine g_aload_0 dX8_readAll_19 ?_
      refine g_get dX8_readAll_20 (fX8_156 rfl) hA.1 rfl ?_
      rw [hg, hok]
      refine g_if_eqB (tgt := 44) dX8_readAll_23 (by decide)  (fun _ => ?_) (fun h23 => absurd h23 (by decide))
      rw [er]
      exact m_all44f hA hp (by rw [hg, hok]) hG hI hO
    | true =>
      by_cases hh : p < len
      · have er : rdL A len (d + 1 + 1) p true G = rdL A len (d + 1) (rdO A len p G).1 (rdO A len p G).2.1 (rdO A len p G).2.2 := by
          conv => lhs; unfold rdL
          rw [if_pos ⟨rfl, hh⟩]
        refine g_aload_0 dX8_readAll_19 ?_
        refine g_get dX8_readAll_20 (fX8_156 rfl) hA.1 rfl ?_
        rw [hg, hok]
        refine g_if_eqB (tgt := 44) dX8_readAll_23 (by decide)  (fun h23 => absurd h23 (by decide)) (fun _ => ?_)
        refine g_aload_0 dX8_readAll_26 ?_
        refine g_get dX8_readAll_27 (fX8_153 rfl) hA.1 rfl ?_
        rw [hp]
        refine g_aload_0 dX8_readAll_30 ?_
        refine g_get dX8_readAll_31 (fX8_146 rfl) hA.1 rfl ?_
        rw [hl]
        refine g_icmp_geN (tgt := 44) dX8_readAll_34 (by decide) (by omega) (by omega) (fun h34 => absurd h34 (by omega)) (fun _ => ?_)
        refine g_aload_0 dX8_readAll_37 ?_
        refine g_v0 dX8_readAll_38 (vX8_180 rfl) rfl hA.1 (Nat.le_of_ble_eq_true rfl) (Nat.le_of_ble_eq_true rfl) (Nat.le_of_ble_eq_true rfl) (m_readOrder hA hl hp hlen hple (by rw [hg, hok]) hG) (fun r M2 z2 hq => ?_) (fun E M2 z2 hq => by obtain ⟨hq, -⟩ := hq; cases hq)
        obtain ⟨hr, ⟨I1, hA1, e17, e18, e19, eI⟩, hO1, rfl⟩ := hq
        cases hr
        refine g_goto (tgt := 19) dX8_readAll_41 (by decide) ?_
        rw [er]
        exact ih hA1 ((eI 16 (by decide) (by decide) (by decide)).trans hl) e17 (rdO_le hple hlen) e18 e19 (fun k k7 k8 k9 => (eI k k7 k8 k9).trans (hI k k7 k8 k9)) (hO.tr hO1) (fun e => by have := rdO_gt e; have h2 := hd hok; omega)
      · have er : rdL A len (d + 1 + 1) p true G = (p, true, G) := by
          conv => lhs; unfold rdL
          rw [if_neg (fun w => hh w.2)]
        refine g_aload_0 dX8_readAll_19 ?_
        refine g_get dX8_readAll_20 (fX8_156 rfl) hA.1 rfl ?_
        rw [hg, hok]
        refine g_if_eqB (tgt := 44) dX8_readAll_23 (by decide)  (fun h23 => absurd h23 (by decide)) (fun _ => ?_)
        refine g_aload_0 dX8_readAll_26 ?_
        refine g_get dX8_readAll_27 (fX8_153 rfl) hA.1 rfl ?_
        rw [hp]
        refine g_aload_0 dX8_readAll_30 ?_
        refine g_get dX8_readAll_31 (fX8_146 rfl) hA.1 rfl ?_
        rw [hl]
        refine g_icmp_geN (tgt := 44) dX8_readAll_34 (by decide) (by omega) (by omega) (fun _ => ?_) (fun h34 => absurd h34 (by omega))
        rw [er]
        exact m_all44t hA hp (by rw [hg, hok]) hG hI hO
theorem m_readAll (hA : MAt M b I A) (hl : I 16 = nI len) (hlen : len ≤ 120) : Runs mX8_readAll [.ref b] M z (RaQ M b I A (rdA A len) z) := by
  have hao := hA.1
  refine runs_of plX8 rfl (Nat.le_of_ble_eq_true rfl) ?_
  show WP mX8_readAll 0 [some (.ref b)] [] M z 0 0 _
  refine g_aload_0 dX8_readAll_0 ?_
  refine g_iconst (v := nI 0) dX8_readAll_1 rfl ?_
  refine g_putI17 dX8_readAll_2 (fX8_153 rfl) hA (fun M1 hA1 n1 => ?_)
  have hao1 := hA1.1
  refine g_aload_0 dX8_readAll_5 ?_
  refine g_iconst (v := nI 1) dX8_readAll_6 rfl ?_
  refine g_putI18 (gd := true) dX8_readAll_7 (fX8_156 rfl) hA1 (fun M2 hA2 n2 => ?_)
  have hao2 := hA2.1
  refine g_aload_0 dX8_readAll_10 ?_
  refine g_iconst (v := -1) dX8_readAll_11 rfl ?_
  refine g_putI19 dX8_readAll_12 (fX8_170 rfl) hA2 (fun M3 hA3 n3 => ?_)
  have hao3 := hA3.1
  refine g_aload_0 dX8_readAll_15 ?_
  refine g_v0 dX8_readAll_16 (vX8_180 rfl) rfl hA3.1 (Nat.le_of_ble_eq_true rfl) (Nat.le_of_ble_eq_true rfl) (Nat.le_of_ble_eq_true rfl) (m_readOrder (len := len) (p := 0) (G := -1) hA3 hl rfl hlen (Nat.zero_le _) rfl rfl) (fun r M2 z2 hq => ?_) (fun E M2 z2 hq => by obtain ⟨hq, -⟩ := hq; cases hq)
  obtain ⟨hr, ⟨I1, hA4, e17, e18, e19, eI⟩, hO1, rfl⟩ := hq
  cases hr
  exact m_all hlen 121 hA4 ((eI 16 (by decide) (by decide) (by decide)).trans hl) e17 (rdO_le (Nat.zero_le _) hlen) e18 e19 (fun k k7 k8 k9 => (eI k k7 k8 k9).trans ((upd_ne k9).trans ((upd_ne k8).trans (upd_ne k7)))) (Out.tr (fun q hq => (n3 q (by omega)).trans ((n2 q (by omega)).trans (n1 q (by omega)))) hO1) (fun e => by omega)
end P41
