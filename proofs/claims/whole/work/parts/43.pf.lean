section P43
variable {A : Nat → Row} {g : Nat → Nat} {len p q n lo hi c k s : Nat} {G x : Int32} {ins : Bool} {aw : Nat}
/-- the text's characters are g's -/
def TxtR (A : Nat → Row) (g : Nat → Nat) (len : Nat) : Prop := (∀ i, i < len → A 12 i = nI (g i)) ∧ CharsOK g
def pfa (g : Nat → Nat) (len p aw : Nat) (ins : Bool) : Int32 := pf g len (len - p) p aw ins
theorem pfa_in (h : p < len) : pfa g len p aw ins = if stp aw (g p) ins = 9 then nI p else pfa g len (p + 1) (stp aw (g p) ins) (insA (g p) ins) := by
  unfold pfa
  rw [show len - p = (len - (p + 1)) + 1 from by omega]
  rfl
theorem pfa_end : pfa g len len aw ins = if aw = 1 ∧ ins = false then -1 else nI len := by
  unfold pfa
  rw [Nat.sub_self]
  rfl
theorem pfa_end' (h : p = len) (h1 : ¬ (aw = 1 ∧ ins = false)) : pfa g len p aw ins = nI p := by
  subst h
  rw [pfa_end, if_neg h1]
theorem pfa_go (h : p < len) (hs : stp aw (g p) ins = s) (h9 : s ≠ 9) (h0 : g p ≠ 40) (h1 : g p ≠ 41) : pfa g len p aw ins = pfa g len (p + 1) s ins := by
  rw [pfa_in h, hs, if_neg h9]
  unfold insA
  rw [if_neg h0, if_neg h1]
theorem pfa_bad (h : p < len) (hs : stp aw (g p) ins = 9) : pfa g len p aw ins = nI p := by rw [pfa_in h, if_pos hs]
def hma (g : Nat → Nat) (len n p : Nat) : Bool := hasM g len n (len - p) p
theorem hma_in (h : p < len) : hma g len n p = ((decide (g p = 109) && decide (nI n ≤ nI (sgn len g (p + 1)) - nI 48)) || hma g len n (p + 1)) := by
  unfold hma
  rw [show len - p = (len - (p + 1)) + 1 from by omega]
  rfl
theorem hma_no (h : p < len) (h9 : g p ≠ 109) : hma g len n p = hma g len n (p + 1) := by
  rw [hma_in h, decide_eq_false h9]
  rfl
theorem hma_end : hma g len n len = false := by
  unfold hma
  rw [Nat.sub_self]
  rfl
theorem her_in (hT : TxtR A g len) (h : p < len) : herF A len p = nI (g p) := (if_pos h).trans (hT.1 p h)
theorem her_out (h : ¬ p < len) : herF A len p = -1 := if_neg h
theorem her_eq (hT : TxtR A g len) (hc : c < 256) : herF A len p = nI c ↔ p < len ∧ g p = c := by
  constructor
  · intro h
    by_cases hp : p < len
    · rw [her_in hT hp] at h
      exact ⟨hp, (nI_eq (by have := hT.2 p; omega) (by omega)).mp h⟩
    · rw [her_out hp] at h
      exact absurd h.symm (nI_nm1 (by omega))
  · rintro ⟨hp, e⟩
    rw [her_in hT hp, e]
theorem neg_nle (hx : x.toInt < 0) (hlo : lo < 2 ^ 31) : ¬ nI lo ≤ x := fun w => by
  rw [Int32.le_iff_toInt_le, nI_toInt hlo] at w
  omega
theorem dig_iff (hT : TxtR A g len) (hlo : lo < 10) (hhi : hi < 10) : digB A len p lo hi = decide (p < len ∧ lo + 48 ≤ g p ∧ g p ≤ hi + 48) := by
  unfold digB
  by_cases hp : p < len
  · rw [her_in hT hp]
    have hg := hT.2 p
    by_cases h48 : 48 ≤ g p
    · rw [pk_sub h48, Bool.eq_iff_iff]
      simp only [Bool.and_eq_true, decide_eq_true_eq]
      rw [nI_leI (by omega) (by omega), nI_leI (by omega) (by omega)]
      omega
    · have h1 : decide (nI lo ≤ nI (g p) - nI 48) = false := decide_eq_false (neg_nle (by rw [pk_sub_toInt (by omega) (by omega)]; omega) (by omega))
      have h2 : decide (p < len ∧ lo + 48 ≤ g p ∧ g p ≤ hi + 48) = false := decide_eq_false (by omega)
      rw [h1, h2]
      rfl
  · have h1 : decide (nI lo ≤ -1 - nI 48) = false := decide_eq_false (neg_nle (by decide) (by omega))
    have h2 : decide (p < len ∧ lo + 48 ≤ g p ∧ g p ≤ hi + 48) = false := decide_eq_false (by omega)
    rw [her_out hp, h1, h2]
    rfl
theorem dgt_iff (hT : TxtR A g len) : ((decide (nI 50 ≤ herF A len p) && decide (herF A len p ≤ nI 57)) = true) ↔ (p < len ∧ 50 ≤ g p ∧ g p ≤ 57) := by
  by_cases hp : p < len
  · rw [her_in hT hp]
    have hg := hT.2 p
    simp only [Bool.and_eq_true, decide_eq_true_eq]
    rw [nI_leI (by omega) (by omega), nI_leI (by omega) (by omega)]
    omega
  · rw [her_out hp]
    constructor
    · intro w; exact absurd w (by decide)
    · intro w; exact absurd w.1 hp
/-- a digit is read in a state that waits for it -/
theorem pfa_dig (hT : TxtR A g len) (hp : p ≤ len) (hk : ∀ c ins, stp k c ins = enO c (lo + 48) (hi + 48)) (h1 : k ≠ 1) (hlo : lo < 10) (hhi : hi < 10) :
    (digB A len p lo hi = true → p < len ∧ lo + 48 ≤ g p ∧ g p ≤ hi + 48 ∧ pfa g len p k ins = pfa g len (p + 1) 1 ins) ∧ (digB A len p lo hi = false → pfa g len p k ins = nI p) := by
  rw [dig_iff hT hlo hhi]
  constructor
  · intro w
    obtain ⟨a, b, d⟩ := of_decide_eq_true w
    refine ⟨a, b, d, pfa_go a ?_ (by decide) (by omega) (by omega)⟩
    rw [hk]
    exact if_pos ⟨b, d⟩
  · intro w
    have w := of_decide_eq_false w
    by_cases e : p < len
    · refine pfa_bad e ?_
      rw [hk]
      exact if_neg (fun v => w ⟨e, v⟩)
    · exact pfa_end' (by omega) (fun v => h1 v.1)
theorem noTF {P : Prop} (h : true = false) : P := by cases h
theorem noFT {P : Prop} (h : false = true) : P := by cases h
def dn (n : Nat) (G : Int32) : Bool := decide (nI n ≤ G)
def GoodR (g : Nat → Nat) (len n p aw : Nat) (ins : Bool) (G : Int32) (q : Nat × Bool × Int32) (ins' : Bool) : Prop :=
  (q.2.1 = true → p < q.1 ∧ q.1 ≤ len ∧ pfa g len p aw ins = pfa g len q.1 1 ins' ∧ (dn n G || hma g len n p) = (dn n q.2.2 || hma g len n q.1)) ∧ (q.2.1 = false → pfa g len p aw ins = nI q.1)
theorem takP_t : takP p true = p + 1 := rfl
theorem takP_f : takP p false = p := rfl
theorem dn_max (n : Nat) (G x : Int32) : dn n (if G < x then x else G) = (dn n G || dn n x) := by
  unfold dn
  rw [Bool.eq_iff_iff]
  simp only [Bool.or_eq_true, decide_eq_true_eq]
  by_cases h : G < x
  · rw [if_pos h]
    rw [Int32.lt_iff_toInt_lt] at h
    simp only [Int32.le_iff_toInt_le]
    omega
  · rw [if_neg h]
    rw [Int32.lt_iff_toInt_lt] at h
    simp only [Int32.le_iff_toInt_le]
    omega
theorem plain_ok (hT : TxtR A g len) (hp : p ≤ len) (haw : aw < 2) (h1 : ¬ (aw = 1 ∧ ins = false ∧ p = len)) (h2 : ¬ (aw = 1 ∧ ins = true ∧ p < len ∧ g p = 41)) (h3 : ins = false → ¬ (p < len ∧ 50 ≤ g p ∧ g p ≤ 57)) : GoodR g len n p aw ins G (rdP A len p G) ins := by
  by_cases hpl : p < len
  · have hs : stp aw (g p) ins = stO (g p) ins := by
      have : aw = 0 ∨ aw = 1 := by omega
      rcases this with rfl | rfl
      · rfl
      · exact if_neg (fun w => h2 ⟨rfl, w.2, hpl, w.1⟩)
    have e : ∀ c, c < 256 → (herF A len p = nI c ↔ g p = c) := fun c hc => (her_eq hT hc).trans ⟨fun w => w.2, fun w => ⟨hpl, w⟩⟩
    unfold rdP
    simp only [e 108 (by decide), e 114 (by decide), e 120 (by decide), e 101 (by decide), e 115 (by decide), e 106 (by decide), e 99 (by decide), e 104 (by decide), e 109 (by decide)]
    by_cases c1 : g p = 108 ∨ g p = 114 ∨ g p = 120 ∨ g p = 101
    · rw [if_pos c1]
      have hq : stO (g p) ins = 1 := by
        unfold stO
        rw [if_neg (by omega), if_pos c1]
      exact ⟨fun _ => ⟨Nat.lt_succ_self p, hpl, pfa_go hpl (hs.trans hq) (by decide) (by omega) (by omega), by show (dn n G || hma g len n p) = (dn n G || hma g len n (p + 1)); rw [hma_no hpl (by omega)]⟩, fun w => noTF w⟩
    · rw [if_neg c1]
      by_cases c2 : g p = 115 ∨ g p = 106
      · rw [if_pos c2]
        have hq : stO (g p) ins = 2 := by
          unfold stO
          rw [if_pos c2]
        have e1 : pfa g len p aw ins = pfa g len (p + 1) 2 ins := pfa_go hpl (hs.trans hq) (by decide) (by omega) (by omega)
        cases hd : digB A len (p + 1) 0 1 with
        | false =>
          have hu : sjU A len p = false := by unfold sjU; rw [hd]; rfl
          rw [hu]
          refine ⟨fun w => noFT w, fun _ => e1.trans ?_⟩
          show pfa g len (p + 1) 2 ins = nI (p + 1)
          rw [dig_iff hT (by omega) (by omega)] at hd
          have hd := of_decide_eq_false hd
          by_cases e3 : p + 1 < len
          · refine pfa_bad e3 ?_
            show (if g (p + 1) = 48 then 3 else if g (p + 1) = 49 then 4 else 9) = 9
            rw [if_neg (by omega), if_neg (by omega)]
          · exact pfa_end' (by omega) (fun v => absurd v.1 (by decide))
        | true =>
          have hd' := hd
          rw [dig_iff hT (by omega) (by omega)] at hd'
          obtain ⟨a, b, d⟩ := of_decide_eq_true hd'
          have hx : herF A len (p + 1) - nI 48 = nI (g (p + 1) - 48) := by rw [her_in hT a, pk_sub (by omega)]
          have hma2 : hma g len n p = hma g len n (p + 1 + 1) := by rw [hma_no hpl (by omega), hma_no a (by omega)]
          by_cases h48 : g (p + 1) = 48
          · have hu : sjU A len p = digB A len (p + 1 + 1) 1 9 := by
              unfold sjU
              rw [hd, if_pos rfl, hx, h48]
              rfl
            rw [hu]
            have e4 : pfa g len (p + 1) 2 ins = pfa g len (p + 1 + 1) 3 ins := pfa_go a (by show (if g (p + 1) = 48 then 3 else if g (p + 1) = 49 then 4 else 9) = 3; rw [if_pos h48]) (by decide) (by omega) (by omega)
            have D := pfa_dig (ins := ins) (k := 3) (lo := 1) (hi := 9) hT (show p + 1 + 1 ≤ len from a) (fun c ins => rfl) (by decide) (by decide) (by decide)
            cases hd3 : digB A len (p + 1 + 1) 1 9 with
            | false => exact ⟨fun w => noFT w, fun _ => (e1.trans e4).trans (D.2 hd3)⟩
            | true =>
              obtain ⟨a3, b3, d3, e5⟩ := D.1 hd3
              exact ⟨fun _ => ⟨by show p < p + 1 + 1 + 1; omega, a3, (e1.trans e4).trans e5, by show (dn n G || hma g len n p) = (dn n G || hma g len n (p + 1 + 1 + 1)); rw [hma2, hma_no a3 (by omega)]⟩, fun w => noTF w⟩
          · have h49 : g (p + 1) = 49 := by omega
            have hu : sjU A len p = digB A len (p + 1 + 1) 0 2 := by
              unfold sjU
              rw [hd, if_pos rfl, hx, h49]
              rfl
            rw [hu]
            have e4 : pfa g len (p + 1) 2 ins = pfa g len (p + 1 + 1) 4 ins := pfa_go a (by show (if g (p + 1) = 48 then 3 else if g (p + 1) = 49 then 4 else 9) = 4; rw [if_neg h48, if_pos h49]) (by decide) (by omega) (by omega)
            have D := pfa_dig (ins := ins) (k := 4) (lo := 0) (hi := 2) hT (show p + 1 + 1 ≤ len from a) (fun c ins => rfl) (by decide) (by decide) (by decide)
            cases hd3 : digB A len (p + 1 + 1) 0 2 with
            | false => exact ⟨fun w => noFT w, fun _ => (e1.trans e4).trans (D.2 hd3)⟩
            | true =>
              obtain ⟨a3, b3, d3, e5⟩ := D.1 hd3
              exact ⟨fun _ => ⟨by show p < p + 1 + 1 + 1; omega, a3, (e1.trans e4).trans e5, by show (dn n G || hma g len n p) = (dn n G || hma g len n (p + 1 + 1 + 1)); rw [hma2, hma_no a3 (by omega)]⟩, fun w => noTF w⟩
      · rw [if_neg c2]
        by_cases c3 : g p = 99
        · rw [if_pos c3]
          have hq : stO (g p) ins = 5 := by
            unfold stO
            rw [if_neg c2, if_neg c1, if_pos c3]
          have e1 : pfa g len p aw ins = pfa g len (p + 1) 5 ins := pfa_go hpl (hs.trans hq) (by decide) (by omega) (by omega)
          have D := pfa_dig (ins := ins) (k := 5) (lo := 0) (hi := 4) hT (show p + 1 ≤ len from hpl) (fun c ins => rfl) (by decide) (by decide) (by decide)
          cases hd3 : digB A len (p + 1) 0 4 with
          | false => exact ⟨fun w => noFT w, fun _ => e1.trans (D.2 hd3)⟩
          | true =>
            obtain ⟨a3, b3, d3, e5⟩ := D.1 hd3
            exact ⟨fun _ => ⟨by show p < p + 1 + 1; omega, a3, e1.trans e5, by show (dn n G || hma g len n p) = (dn n G || hma g len n (p + 1 + 1)); rw [hma_no hpl (by omega), hma_no a3 (by omega)]⟩, fun w => noTF w⟩
        · rw [if_neg c3]
          by_cases c4 : g p = 104
          · rw [if_pos c4]
            have hq : stO (g p) ins = 6 := by
              unfold stO
              rw [if_neg c2, if_neg c1, if_neg c3, if_pos c4]
            have e1 : pfa g len p aw ins = pfa g len (p + 1) 6 ins := pfa_go hpl (hs.trans hq) (by decide) (by omega) (by omega)
            have D := pfa_dig (ins := ins) (k := 6) (lo := 1) (hi := 9) hT (show p + 1 ≤ len from hpl) (fun c ins => rfl) (by decide) (by decide) (by decide)
            cases hd3 : digB A len (p + 1) 1 9 with
            | false => exact ⟨fun w => noFT w, fun _ => e1.trans (D.2 hd3)⟩
            | true =>
              obtain ⟨a3, b3, d3, e5⟩ := D.1 hd3
              exact ⟨fun _ => ⟨by show p < p + 1 + 1; omega, a3, e1.trans e5, by show (dn n G || hma g len n p) = (dn n G || hma g len n (p + 1 + 1)); rw [hma_no hpl (by omega), hma_no a3 (by omega)]⟩, fun w => noTF w⟩
          · rw [if_neg c4]
            by_cases c5 : g p = 109
            · rw [if_pos c5]
              have hq : stO (g p) ins = 7 := by
                unfold stO
                rw [if_neg c2, if_neg c1, if_neg c3, if_neg c4, if_pos c5]
              have e1 : pfa g len p aw ins = pfa g len (p + 1) 7 ins := pfa_go hpl (hs.trans hq) (by decide) (by omega) (by omega)
              have D := pfa_dig (ins := ins) (k := 7) (lo := 0) (hi := 3) hT (show p + 1 ≤ len from hpl) (fun c ins => rfl) (by decide) (by decide) (by decide)
              cases hd3 : digB A len (p + 1) 0 3 with
              | false => exact ⟨fun w => noFT w, fun _ => e1.trans (D.2 hd3)⟩
              | true =>
                obtain ⟨a3, b3, d3, e5⟩ := D.1 hd3
                refine ⟨fun _ => ⟨by show p < p + 1 + 1; omega, a3, e1.trans e5, ?_⟩, fun w => noTF w⟩
                simp only [if_pos (rfl : true = true)]
                rw [her_in hT a3, dn_max, hma_in hpl, decide_eq_true c5, show sgn len g (p + 1) = g (p + 1) from if_pos a3, hma_no a3 (by omega), Bool.true_and, Bool.or_assoc]
                rfl
            · rw [if_neg c5]
              have hq : stO (g p) ins = 9 := by
                unfold stO
                rw [if_neg c2, if_neg c1, if_neg c3, if_neg c4, if_neg c5, if_neg (fun w => h3 w.2.2 ⟨hpl, w.1, w.2.1⟩)]
              exact ⟨fun w => noFT w, fun _ => pfa_bad hpl (hs.trans hq)⟩
  · have hr : rdP A len p G = (p, false, G) := by
      unfold rdP
      rw [her_out hpl]
      rw [if_neg (by decide), if_neg (by decide), if_neg (by decide), if_neg (by decide), if_neg (by decide)]
    rw [hr]
    exact ⟨fun w => noFT w, fun _ => pfa_end' (by omega) (fun v => h1 ⟨v.1, v.2, by omega⟩)⟩
theorem rdG_f : ∀ d, rdG A len d p false G = (p, false, G)
  | 0 => rfl
  | d + 1 => by
    unfold rdG
    rw [if_neg (fun w => absurd w.1 (by decide))]
theorem grp_ok (hT : TxtR A g len) : ∀ d {p : Nat} {G : Int32}, p ≤ len → len + 1 ≤ p + d →
    ((rdG A len d p true G).2.1 = true → p ≤ (rdG A len d p true G).1 ∧ (rdG A len d p true G).1 < len ∧ g (rdG A len d p true G).1 = 41 ∧ pfa g len p 1 true = pfa g len (rdG A len d p true G).1 1 true ∧ (dn n G || hma g len n p) = (dn n (rdG A len d p true G).2.2 || hma g len n (rdG A len d p true G).1)) ∧
    ((rdG A len d p true G).2.1 = false → pfa g len p 1 true = nI (rdG A len d p true G).1)
  | 0, p, G, h1, h2 => absurd h2 (by omega)
  | d + 1, p, G, h1, h2 => by
    by_cases h : herF A len p = nI 41
    · have e : rdG A len (d + 1) p true G = (p, true, G) := by
        unfold rdG
        rw [if_neg (fun w => w.2 h)]
      rw [e]
      have h' := (her_eq hT (by decide)).mp h
      exact ⟨fun _ => ⟨Nat.le_refl _, h'.1, h'.2, rfl, rfl⟩, fun w => noTF w⟩
    · have e : rdG A len (d + 1) p true G = rdG A len d (rdP A len p G).1 (rdP A len p G).2.1 (rdP A len p G).2.2 := by
        conv => lhs; unfold rdG
        rw [if_pos ⟨rfl, h⟩]
      rw [e]
      have P := plain_ok (n := n) (aw := 1) (ins := true) (G := G) hT h1 (by decide) (fun w => absurd w.2.1 (by decide)) (fun w => h ((her_eq hT (by decide)).mpr w.2.2)) (fun w => absurd w (by decide))
      cases hk : (rdP A len p G).2.1 with
      | false =>
        rw [rdG_f]
        exact ⟨fun w => noFT w, fun _ => P.2 hk⟩
      | true =>
        obtain ⟨a1, a2, a3, a4⟩ := P.1 hk
        have R := grp_ok hT d (p := (rdP A len p G).1) (G := (rdP A len p G).2.2) a2 (by omega)
        exact ⟨fun w => by
          obtain ⟨b1, b2, b3, b4, b5⟩ := R.1 w
          exact ⟨by omega, b2, b3, a3.trans b4, a4.trans b5⟩, fun w => a3.trans (R.2 w)⟩
theorem ord_ok (hT : TxtR A g len) (hlen : len ≤ 120) (hp : p ≤ len) (haw : aw < 2) (h1 : ¬ (aw = 1 ∧ p = len)) : GoodR g len n p aw false G (rdO A len p G) false := by
  unfold rdO
  by_cases hd : (decide (nI 50 ≤ herF A len p) && decide (herF A len p ≤ nI 57)) = true
  · rw [if_pos hd]
    obtain ⟨a, b, c⟩ := (dgt_iff hT).mp hd
    have hs : stp aw (g p) false = 8 := by
      have e0 : stO (g p) false = 8 := by
        unfold stO
        rw [if_neg (by omega), if_neg (by omega), if_neg (by omega), if_neg (by omega), if_neg (by omega), if_pos ⟨b, c, rfl⟩]
      have : aw = 0 ∨ aw = 1 := by omega
      rcases this with rfl | rfl
      · exact e0
      · exact (if_neg (fun w => absurd w.2 (by decide))).trans e0
    have e1 : pfa g len p aw false = pfa g len (p + 1) 8 false := pfa_go a hs (by decide) (by omega) (by omega)
    have m1 : hma g len n p = hma g len n (p + 1) := hma_no a (by omega)
    unfold rdH
    by_cases h4 : herF A len (p + 1) = nI 40
    · rw [if_pos h4]
      obtain ⟨a4, b4⟩ := (her_eq hT (by decide)).mp h4
      have e2 : pfa g len (p + 1) 8 false = pfa g len (p + 2) 0 true := by
        rw [pfa_in a4, b4]
        rfl
      have m2 : hma g len n (p + 1) = hma g len n (p + 2) := hma_no a4 (by omega)
      have P := plain_ok (n := n) (aw := 0) (ins := true) (G := G) hT (show p + 2 ≤ len from a4) (by decide) (fun w => absurd w.1 (by decide)) (fun w => absurd w.1 (by decide)) (fun w => absurd w (by decide))
      cases hk : (rdP A len (p + 2) G).2.1 with
      | false =>
        rw [rdG_f]
        exact ⟨fun w => noFT w, fun _ => (e1.trans e2).trans (P.2 hk)⟩
      | true =>
        obtain ⟨a1, a2, a3, a5⟩ := P.1 hk
        have R := grp_ok (n := n) hT 122 (p := (rdP A len (p + 2) G).1) (G := (rdP A len (p + 2) G).2.2) a2 (by omega)
        cases hk2 : (rdG A len 122 (rdP A len (p + 2) G).1 true (rdP A len (p + 2) G).2.2).2.1 with
        | false => exact ⟨fun w => noFT w, fun _ => ((e1.trans e2).trans a3).trans (R.2 hk2)⟩
        | true =>
          obtain ⟨b1, b2, b3, b4', b5⟩ := R.1 hk2
          refine ⟨fun _ => ⟨?_, b2, (((e1.trans e2).trans a3).trans b4').trans ?_, ?_⟩, fun w => noTF w⟩
          · show p < (rdG A len 122 (rdP A len (p + 2) G).1 true (rdP A len (p + 2) G).2.2).1 + 1
            omega
          · show _ = pfa g len ((rdG A len 122 (rdP A len (p + 2) G).1 true (rdP A len (p + 2) G).2.2).1 + 1) 1 false
            rw [pfa_in b2, b3]
            rfl
          · show (dn n G || hma g len n p) = (dn n _ || hma g len n ((rdG A len 122 (rdP A len (p + 2) G).1 true (rdP A len (p + 2) G).2.2).1 + 1))
            rw [m1, m2, a5, b5, hma_no b2 (by omega)]
    · rw [if_neg h4]
      rw [rdG_f]
      refine ⟨fun w => noFT w, fun _ => e1.trans ?_⟩
      show pfa g len (p + 1) 8 false = nI (p + 1)
      by_cases e3 : p + 1 < len
      · refine pfa_bad e3 ?_
        show (if g (p + 1) = 40 then 0 else 9) = 9
        rw [if_neg (fun w => h4 ((her_eq hT (by decide)).mpr ⟨e3, w⟩))]
      · exact pfa_end' (by omega) (fun v => absurd v.1 (by decide))
  · rw [if_neg hd]
    exact plain_ok hT hp haw (fun w => h1 ⟨w.1, w.2.2⟩) (fun w => absurd w.2.1 (by decide)) (fun _ w => hd ((dgt_iff hT).mpr w))
theorem rdL_f : ∀ d, rdL A len d p false G = (p, false, G)
  | 0 => rfl
  | d + 1 => by
    unfold rdL
    rw [if_neg (fun w => absurd w.1 (by decide))]
theorem top_ok (hT : TxtR A g len) (hlen : len ≤ 120) : ∀ d {p : Nat} {G : Int32}, p ≤ len → len ≤ p + d →
    ((rdL A len d p true G).2.1 = true → pfa g len p 1 false = -1 ∧ (dn n G || hma g len n p) = dn n (rdL A len d p true G).2.2) ∧ ((rdL A len d p true G).2.1 = false → pfa g len p 1 false = nI (rdL A len d p true G).1)
  | 0, p, G, h1, h2 => by
    have e : p = len := by omega
    subst e
    exact ⟨fun _ => ⟨by rw [pfa_end]; rfl, by rw [hma_end, Bool.or_false]; rfl⟩, fun w => noTF w⟩
  | d + 1, p, G, h1, h2 => by
    by_cases h : p < len
    · have e : rdL A len (d + 1) p true G = rdL A len d (rdO A len p G).1 (rdO A len p G).2.1 (rdO A len p G).2.2 := by
        conv => lhs; unfold rdL
        rw [if_pos ⟨rfl, h⟩]
      rw [e]
      have P := ord_ok (n := n) (aw := 1) (G := G) hT hlen h1 (by decide) (fun w => by omega)
      cases hk : (rdO A len p G).2.1 with
      | false =>
        rw [rdL_f]
        exact ⟨fun w => noFT w, fun _ => P.2 hk⟩
      | true =>
        obtain ⟨a1, a2, a3, a4⟩ := P.1 hk
        have R := top_ok hT hlen d (p := (rdO A len p G).1) (G := (rdO A len p G).2.2) a2 (by omega)
        exact ⟨fun w => ⟨a3.trans (R.1 w).1, a4.trans (R.1 w).2⟩, fun w => a3.trans (R.2 w)⟩
    · have e : p = len := by omega
      subst e
      have e : rdL A p (d + 1) p true G = (p, true, G) := by
        unfold rdL
        rw [if_neg (fun w => h w.2)]
      rw [e]
      exact ⟨fun _ => ⟨by rw [pfa_end]; rfl, by rw [hma_end, Bool.or_false]⟩, fun w => noTF w⟩
theorem rdA_ok (hT : TxtR A g len) (hlen : len ≤ 120) : (if (rdA A len).2.1 = true then (-1 : Int32) else nI (rdA A len).1) = pf g len len 0 0 false ∧ ((rdA A len).2.1 = true → ∀ n, n < 100 → hasM g len n len 0 = dn n (rdA A len).2.2) := by
  have e0 : pf g len len 0 0 false = pfa g len 0 0 false := rfl
  rw [e0]
  unfold rdA
  have P := fun n => ord_ok (n := n) (aw := 0) (G := -1) hT hlen (Nat.zero_le _) (by decide) (fun w => absurd w.1 (by decide))
  cases hk : (rdO A len 0 (-1)).2.1 with
  | false =>
    rw [rdL_f]
    exact ⟨((P 0).2 hk).symm, fun w => noFT w⟩
  | true =>
    have R := fun n => top_ok (n := n) hT hlen 122 (p := (rdO A len 0 (-1)).1) (G := (rdO A len 0 (-1)).2.2) ((P 0).1 hk).2.1 (by omega)
    cases hk2 : (rdL A len 122 (rdO A len 0 (-1)).1 true (rdO A len 0 (-1)).2.2).2.1 with
    | false => exact ⟨(((P 0).1 hk).2.2.1.trans ((R 0).2 hk2)).symm, fun w => noFT w⟩
    | true =>
      refine ⟨(((P 0).1 hk).2.2.1.trans ((R 0).1 hk2).1).symm, fun _ n hn => ?_⟩
      have h1 := ((P n).1 hk).2.2.2
      have h2 := ((R n).1 hk2).2
      rw [h2, show dn n (-1) = false from decide_eq_false (neg_nle (by decide) (by omega)), Bool.false_or] at h1
      exact h1
end P43
