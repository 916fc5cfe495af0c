section P47
variable {M M0 : Hp} {z b c d e j i n t p s sp : Nat} {br : Nat} {f g : Row} {x y w v G : Int32} {I I0 : Row} {A A0 : Nat → Row} {T : Nat → Nat → Nat} {Ln : Nat → Nat} {Φ : GR → Hp → Nat → Prop}
theorem OrdQ.of1 {I' : Row} {M' : Hp} (hj : j = 1 ∨ j = 2) (hA' : MAt M' b I' (stg A j f)) (h9 : I' 9 = nI (t + 1)) (h10 : I' 10 = I 10 + nI br) (hI' : ∀ k, k ≠ 9 → k ≠ 10 → I' k = I k) (h5 : A 5 t = nI sp) (hO : Out M M' b 13) : OrdQ M b j I A f br t sp z (noP t) (.inl none) M' z :=
  OrdQ.of hj hA' h9 h10 hI' stg_eq ((stg_ne (by omega)).trans (upd_self h5).symm) (fun _ a _ => stg_ne a) hO
theorem OrdQ.of0 {I' : Row} {M' : Hp} (hj : j = 1 ∨ j = 2) (hA' : MAt M' b I' A) (h9 : I' 9 = nI (t + 1)) (h10 : I' 10 = I 10 + nI br) (hI' : ∀ k, k ≠ 9 → k ≠ 10 → I' k = I k) (h5 : A 5 t = nI sp) (hO : Out M M' b 13) : OrdQ M b j I A (A j) br t sp z (noP t) (.inl none) M' z :=
  OrdQ.of hj hA' h9 h10 hI' rfl (upd_self h5).symm (fun _ _ _ => rfl) hO
theorem OrdQ.of2 {I' : Row} {M' : Hp} (hj : j = 1 ∨ j = 2) (hA' : MAt M' b I' (stg A 5 (upd (A 5) t (nI sp)))) (h9 : I' 9 = nI (t + 1)) (h10 : I' 10 = I 10 + nI br) (hI' : ∀ k, k ≠ 9 → k ≠ 10 → I' k = I k) (hO : Out M M' b 13) : OrdQ M b j I A (A j) br t sp z (noP t) (.inl none) M' z :=
  OrdQ.of hj hA' h9 h10 hI' (stg_ne (by omega)) stg_eq (fun _ _ a => stg_ne a) hO
theorem OrdQ.of3 {I' : Row} {M' : Hp} (hj : j = 1 ∨ j = 2) (hA' : MAt M' b I' (stg (stg A 5 (upd (A 5) t (nI sp))) j f)) (h9 : I' 9 = nI (t + 1)) (h10 : I' 10 = I 10 + nI br) (hI' : ∀ k, k ≠ 9 → k ≠ 10 → I' k = I k) (hO : Out M M' b 13) : OrdQ M b j I A f br t sp z (noP t) (.inl none) M' z :=
  OrdQ.of hj hA' h9 h10 hI' stg_eq ((stg_ne (by omega)).trans stg_eq) (fun _ a b => (stg_ne a).trans (stg_ne b)) hO
theorem m_ord_l (hA : MAt M b I A) (hj : j = 1 ∨ j = 2) (hdp : I 9 = nI (t + 1)) (ht : t < 23) (h5 : A 5 t = nI (p + 1)) (hs : s < 5) (hI : Rng (A j)) : WP mX8_order 74 [some (.ref b), some (.ref (b + j)), some (.int (nI t)), some (.int (nI s)), some (.int (nI p)), some (.int (nI 108)), some (.int x), none, none] [] M z 0 0 (OrdQ M b j I A (f_turn (A j) 3) 0 t (p + 1) z (noP t)) := by
  have hao := hA.1
  refine g_iload_5 dX8_order_74 ?_
  refine g_bipush (v := nI 115) dX8_order_76 rfl ?_
  refine g_icmp_eqN (tgt := 88) dX8_order_78 (by decide) (by omega) (by omega) (fun h78 => absurd h78 (by decide)) (fun _ => ?_)
  refine g_iload_5 dX8_order_81 ?_
  refine g_bipush (v := nI 106) dX8_order_83 rfl ?_
  refine g_icmp_neN (tgt := 158) dX8_order_85 (by decide) (by omega) (by omega) (fun _ => ?_) (fun h85 => absurd h85 (by decide))
  refine g_iload_5 dX8_order_158 ?_
  refine g_bipush (v := nI 108) dX8_order_160 rfl ?_
  refine g_icmp_eqN (tgt := 172) dX8_order_162 (by decide) (by omega) (by omega) (fun _ => ?_) (fun h162 => absurd rfl h162)
  refine g_aload_1 dX8_order_172 ?_
  refine g_iload_5 dX8_order_173 ?_
  refine g_bipush (v := nI 108) dX8_order_175 rfl ?_
  refine g_icmp_neN (tgt := 184) dX8_order_177 (by decide) (by omega) (by omega) (fun h177 => absurd rfl h177) (fun _ => ?_)
  refine g_iconst (v := nI 3) dX8_order_180 rfl ?_
  refine g_goto (tgt := 185) dX8_order_181 (by decide) ?_
  refine g_s2_1 dX8_order_185 (sX8_121 rfl) rfl (Nat.le_of_ble_eq_true rfl) ⟨rfl, rfl⟩ (Nat.le_of_ble_eq_true rfl) (Nat.le_of_ble_eq_true rfl) (m_goTurn (n := 3) (hA.row hj) hI (by decide)) ?_
  have hA6 := hA.aj hj (g := (f_turn (A j) 3))
  refine g_istore_7 rfl dX8_order_188 ?_
  refine g_goto (tgt := 481) dX8_order_190 (by decide) ?_
  exact g_return rfl dX8_order_481 (Nat.le_of_ble_eq_true rfl) (Nat.le_of_ble_eq_true rfl) (OrdQ.of1 hj hA6 hdp (nI_add0 _).symm (fun k _ _ => rfl) h5 (Out.put (by omega) (by omega)))
theorem m_ord_r (hA : MAt M b I A) (hj : j = 1 ∨ j = 2) (hdp : I 9 = nI (t + 1)) (ht : t < 23) (h5 : A 5 t = nI (p + 1)) (hs : s < 5) (hI : Rng (A j)) : WP mX8_order 74 [some (.ref b), some (.ref (b + j)), some (.int (nI t)), some (.int (nI s)), some (.int (nI p)), some (.int (nI 114)), some (.int x), none, none] [] M z 0 0 (OrdQ M b j I A (f_turn (A j) 1) 0 t (p + 1) z (noP t)) := by
  have hao := hA.1
  refine g_iload_5 dX8_order_74 ?_
  refine g_bipush (v := nI 115) dX8_order_76 rfl ?_
  refine g_icmp_eqN (tgt := 88) dX8_order_78 (by decide) (by omega) (by omega) (fun h78 => absurd h78 (by decide)) (fun _ => ?_)
  refine g_iload_5 dX8_order_81 ?_
  refine g_bipush (v := nI 106) dX8_order_83 rfl ?_
  refine g_icmp_neN (tgt := 158) dX8_order_85 (by decide) (by omega) (by omega) (fun _ => ?_) (fun h85 => absurd h85 (by decide))
  refine g_iload_5 dX8_order_158 ?_
  refine g_bipush (v := nI 108) dX8_order_160 rfl ?_
  refine g_icmp_eqN (tgt := 172) dX8_order_162 (by decide) (by omega) (by omega) (fun h162 => absurd h162 (by decide)) (fun _ => ?_)
  refine g_iload_5 dX8_order_165 ?_
  refine g_bipush (v := nI 114) dX8_order_167 rfl ?_
  refine g_icmp_neN (tgt := 193) dX8_order_169 (by decide) (by omega) (by omega) (fun h169 => absurd rfl h169) (fun _ => ?_)
  refine g_aload_1 dX8_order_172 ?_
  refine g_iload_5 dX8_order_173 ?_
  refine g_bipush (v := nI 108) dX8_order_175 rfl ?_
  refine g_icmp_neN (tgt := 184) dX8_order_177 (by decide) (by omega) (by omega) (fun _ => ?_) (fun h177 => absurd h177 (by decide))
  refine g_iconst (v := nI 1) dX8_order_184 rfl ?_
  refine g_s2_1 dX8_order_185 (sX8_121 rfl) rfl (Nat.le_of_ble_eq_true rfl) ⟨rfl, rfl⟩ (Nat.le_of_ble_eq_true rfl) (Nat.le_of_ble_eq_true rfl) (m_goTurn (n := 1) (hA.row hj) hI (by decide)) ?_
  have hA6 := hA.aj hj (g := (f_turn (A j) 1))
  refine g_istore_7 rfl dX8_order_188 ?_
  refine g_goto (tgt := 481) dX8_order_190 (by decide) ?_
  exact g_return rfl dX8_order_481 (Nat.le_of_ble_eq_true rfl) (Nat.le_of_ble_eq_true rfl) (OrdQ.of1 hj hA6 hdp (nI_add0 _).symm (fun k _ _ => rfl) h5 (Out.put (by omega) (by omega)))
theorem m_ord_x1 (hA : MAt M b I A) (hj : j = 1 ∨ j = 2) (hdp : I 9 = nI (t + 1)) (ht : t < 23) (h5 : A 5 t = nI (p + 1)) (hs : s < 5) (hI : Rng (A j)) (hth : tno (A j) = c + 1) : WP mX8_order 74 [some (.ref b), some (.ref (b + j)), some (.int (nI t)), some (.int (nI s)), some (.int (nI p)), some (.int (nI 120)), some (.int x), none, none] [] M z 0 0 (OrdQ M b j I A (f_cut (A j)) 0 t (p + 1) z (noP t)) := by
  have hao := hA.1
  have hthl := hI.tlt
  refine g_iload_5 dX8_order_74 ?_
  refine g_bipush (v := nI 115) dX8_order_76 rfl ?_
  refine g_icmp_eqN (tgt := 88) dX8_order_78 (by decide) (by omega) (by omega) (fun h78 => absurd h78 (by decide)) (fun _ => ?_)
  refine g_iload_5 dX8_order_81 ?_
  refine g_bipush (v := nI 106) dX8_order_83 rfl ?_
  refine g_icmp_neN (tgt := 158) dX8_order_85 (by decide) (by omega) (by omega) (fun _ => ?_) (fun h85 => absurd h85 (by decide))
  refine g_iload_5 dX8_order_158 ?_
  refine g_bipush (v := nI 108) dX8_order_160 rfl ?_
  refine g_icmp_eqN (tgt := 172) dX8_order_162 (by decide) (by omega) (by omega) (fun h162 => absurd h162 (by decide)) (fun _ => ?_)
  refine g_iload_5 dX8_order_165 ?_
  refine g_bipush (v := nI 114) dX8_order_167 rfl ?_
  refine g_icmp_neN (tgt := 193) dX8_order_169 (by decide) (by omega) (by omega) (fun _ => ?_) (fun h169 => absurd h169 (by decide))
  refine g_iload_5 dX8_order_193 ?_
  refine g_bipush (v := nI 120) dX8_order_195 rfl ?_
  refine g_icmp_eqN (tgt := 207) dX8_order_197 (by decide) (by omega) (by omega) (fun _ => ?_) (fun h197 => absurd rfl h197)
  refine g_aload_1 dX8_order_207 ?_
  refine g_sipush (v := nI 459) dX8_order_208 rfl ?_
  refine g_ialdN dX8_order_211 (hA.row hj) (by omega) (by decide) ?_
  rw [t459 hI hth]
  refine g_if_leN (tgt := 219) dX8_order_212 (by decide) (by omega) (fun h212 => absurd h212 (by omega)) (fun _ => ?_)
  refine g_iconst (v := nI 1) dX8_order_215 rfl ?_
  refine g_goto (tgt := 220) dX8_order_216 (by decide) ?_
  refine g_istore_7 rfl dX8_order_220 ?_
  refine g_iload_7 dX8_order_222 ?_
  refine g_if_neN (tgt := 231) dX8_order_224 (by decide) (by omega) (fun _ => ?_) (fun h224 => absurd h224 (by decide))
  refine g_iload_5 dX8_order_231 ?_
  refine g_bipush (v := nI 120) dX8_order_233 rfl ?_
  refine g_icmp_neN (tgt := 245) dX8_order_235 (by decide) (by omega) (by omega) (fun h235 => absurd rfl h235) (fun _ => ?_)
  refine g_aload_1 dX8_order_238 ?_
  refine g_s1_1 dX8_order_239 (sX8_79 rfl) rfl (Nat.le_of_ble_eq_true rfl) ⟨rfl, rfl⟩ (Nat.le_of_ble_eq_true rfl) (Nat.le_of_ble_eq_true rfl) (m_goCut (hA.row hj) hI hth) ?_
  have hA6 := hA.aj hj (g := f_cut (A j))
  refine g_goto (tgt := 249) dX8_order_242 (by decide) ?_
  refine g_istore_8 rfl dX8_order_249 ?_
  refine g_aload_0 dX8_order_251 ?_
  refine g_iload_7 dX8_order_252 ?_
  refine g_if_neN (tgt := 261) dX8_order_254 (by decide) (by omega) (fun _ => ?_) (fun h254 => absurd h254 (by decide))
  refine g_iconst (v := nI 0) dX8_order_261 rfl ?_
  refine g_v1 dX8_order_262 (vX8_117 rfl) rfl hA6.1 (Nat.le_of_ble_eq_true rfl) (Nat.le_of_ble_eq_true rfl) (Nat.le_of_ble_eq_true rfl) (m_fails (bq := false) hA6) (fun r M2 z2 hq => ?_) (fun E M2 z2 hq => by obtain ⟨hq, -⟩ := hq; cases hq)
  obtain ⟨hr, hA7, hO7, rfl⟩ := hq
  cases hr
  refine g_goto (tgt := 481) dX8_order_265 (by decide) ?_
  exact g_return rfl dX8_order_481 (Nat.le_of_ble_eq_true rfl) (Nat.le_of_ble_eq_true rfl) (OrdQ.of1 hj hA7 hdp rfl (fun k _ b => upd_ne b) h5 ((Out.put (by omega) (by omega)).tr hO7))
theorem m_ord_x0 (hA : MAt M b I A) (hj : j = 1 ∨ j = 2) (hdp : I 9 = nI (t + 1)) (ht : t < 23) (h5 : A 5 t = nI (p + 1)) (hs : s < 5) (hI : Rng (A j)) (hth : tno (A j) = 0) : WP mX8_order 74 [some (.ref b), some (.ref (b + j)), some (.int (nI t)), some (.int (nI s)), some (.int (nI p)), some (.int (nI 120)), some (.int x), none, none] [] M z 0 0 (OrdQ M b j I A (A j) 1 t (p + 1) z (noP t)) := by
  have hao := hA.1
  refine g_iload_5 dX8_order_74 ?_
  refine g_bipush (v := nI 115) dX8_order_76 rfl ?_
  refine g_icmp_eqN (tgt := 88) dX8_order_78 (by decide) (by omega) (by omega) (fun h78 => absurd h78 (by decide)) (fun _ => ?_)
  refine g_iload_5 dX8_order_81 ?_
  refine g_bipush (v := nI 106) dX8_order_83 rfl ?_
  refine g_icmp_neN (tgt := 158) dX8_order_85 (by decide) (by omega) (by omega) (fun _ => ?_) (fun h85 => absurd h85 (by decide))
  refine g_iload_5 dX8_order_158 ?_
  refine g_bipush (v := nI 108) dX8_order_160 rfl ?_
  refine g_icmp_eqN (tgt := 172) dX8_order_162 (by decide) (by omega) (by omega) (fun h162 => absurd h162 (by decide)) (fun _ => ?_)
  refine g_iload_5 dX8_order_165 ?_
  refine g_bipush (v := nI 114) dX8_order_167 rfl ?_
  refine g_icmp_neN (tgt := 193) dX8_order_169 (by decide) (by omega) (by omega) (fun _ => ?_) (fun h169 => absurd h169 (by decide))
  refine g_iload_5 dX8_order_193 ?_
  refine g_bipush (v := nI 120) dX8_order_195 rfl ?_
  refine g_icmp_eqN (tgt := 207) dX8_order_197 (by decide) (by omega) (by omega) (fun _ => ?_) (fun h197 => absurd rfl h197)
  refine g_aload_1 dX8_order_207 ?_
  refine g_sipush (v := nI 459) dX8_order_208 rfl ?_
  refine g_ialdN dX8_order_211 (hA.row hj) (by omega) (by decide) ?_
  rw [t459z hI hth]
  refine g_if_leN (tgt := 219) dX8_order_212 (by decide) (by omega) (fun _ => ?_) (fun h212 => absurd rfl h212)
  refine g_iconst (v := nI 0) dX8_order_219 rfl ?_
  refine g_istore_7 rfl dX8_order_220 ?_
  refine g_iload_7 dX8_order_222 ?_
  refine g_if_neN (tgt := 231) dX8_order_224 (by decide) (by omega) (fun h224 => absurd rfl h224) (fun _ => ?_)
  refine g_iconst (v := nI 0) dX8_order_227 rfl ?_
  refine g_goto (tgt := 249) dX8_order_228 (by decide) ?_
  refine g_istore_8 rfl dX8_order_249 ?_
  refine g_aload_0 dX8_order_251 ?_
  refine g_iload_7 dX8_order_252 ?_
  refine g_if_neN (tgt := 261) dX8_order_254 (by decide) (by omega) (fun h254 => absurd rfl h254) (fun _ => ?_)
  refine g_iconst (v := nI 1) dX8_order_257 rfl ?_
  refine g_goto (tgt := 262) dX8_order_258 (by decide) ?_
  refine g_v1 dX8_order_262 (vX8_117 rfl) rfl hA.1 (Nat.le_of_ble_eq_true rfl) (Nat.le_of_ble_eq_true rfl) (Nat.le_of_ble_eq_true rfl) (m_fails (bq := true) hA) (fun r M2 z2 hq => ?_) (fun E M2 z2 hq => by obtain ⟨hq, -⟩ := hq; cases hq)
  obtain ⟨hr, hA7, hO7, rfl⟩ := hq
  cases hr
  refine g_goto (tgt := 481) dX8_order_265 (by decide) ?_
  exact g_return rfl dX8_order_481 (Nat.le_of_ble_eq_true rfl) (Nat.le_of_ble_eq_true rfl) (OrdQ.of0 hj hA7 hdp rfl (fun k _ b => upd_ne b) h5 hO7)
theorem m_ord_e1 (hA : MAt M b I A) (hj : j = 1 ∨ j = 2) (hdp : I 9 = nI (t + 1)) (ht : t < 23) (h5 : A 5 t = nI (p + 1)) (hs : s < 5) (hI : Rng (A j)) (hth : tno (A j) = c + 1) : WP mX8_order 74 [some (.ref b), some (.ref (b + j)), some (.int (nI t)), some (.int (nI s)), some (.int (nI p)), some (.int (nI 101)), some (.int x), none, none] [] M z 0 0 (OrdQ M b j I A (f_ease (A j)) 0 t (p + 1) z (noP t)) := by
  have hao := hA.1
  have hthl := hI.tlt
  refine g_iload_5 dX8_order_74 ?_
  refine g_bipush (v := nI 115) dX8_order_76 rfl ?_
  refine g_icmp_eqN (tgt := 88) dX8_order_78 (by decide) (by omega) (by omega) (fun h78 => absurd h78 (by decide)) (fun _ => ?_)
  refine g_iload_5 dX8_order_81 ?_
  refine g_bipush (v := nI 106) dX8_order_83 rfl ?_
  refine g_icmp_neN (tgt := 158) dX8_order_85 (by decide) (by omega) (by omega) (fun _ => ?_) (fun h85 => absurd h85 (by decide))
  refine g_iload_5 dX8_order_158 ?_
  refine g_bipush (v := nI 108) dX8_order_160 rfl ?_
  refine g_icmp_eqN (tgt := 172) dX8_order_162 (by decide) (by omega) (by omega) (fun h162 => absurd h162 (by decide)) (fun _ => ?_)
  refine g_iload_5 dX8_order_165 ?_
  refine g_bipush (v := nI 114) dX8_order_167 rfl ?_
  refine g_icmp_neN (tgt := 193) dX8_order_169 (by decide) (by omega) (by omega) (fun _ => ?_) (fun h169 => absurd h169 (by decide))
  refine g_iload_5 dX8_order_193 ?_
  refine g_bipush (v := nI 120) dX8_order_195 rfl ?_
  refine g_icmp_eqN (tgt := 207) dX8_order_197 (by decide) (by omega) (by omega) (fun h197 => absurd h197 (by decide)) (fun _ => ?_)
  refine g_iload_5 dX8_order_200 ?_
  refine g_bipush (v := nI 101) dX8_order_202 rfl ?_
  refine g_icmp_neN (tgt := 268) dX8_order_204 (by decide) (by omega) (by omega) (fun h204 => absurd rfl h204) (fun _ => ?_)
  refine g_aload_1 dX8_order_207 ?_
  refine g_sipush (v := nI 459) dX8_order_208 rfl ?_
  refine g_ialdN dX8_order_211 (hA.row hj) (by omega) (by decide) ?_
  rw [t459 hI hth]
  refine g_if_leN (tgt := 219) dX8_order_212 (by decide) (by omega) (fun h212 => absurd h212 (by omega)) (fun _ => ?_)
  refine g_iconst (v := nI 1) dX8_order_215 rfl ?_
  refine g_goto (tgt := 220) dX8_order_216 (by decide) ?_
  refine g_istore_7 rfl dX8_order_220 ?_
  refine g_iload_7 dX8_order_222 ?_
  refine g_if_neN (tgt := 231) dX8_order_224 (by decide) (by omega) (fun _ => ?_) (fun h224 => absurd h224 (by decide))
  refine g_iload_5 dX8_order_231 ?_
  refine g_bipush (v := nI 120) dX8_order_233 rfl ?_
  refine g_icmp_neN (tgt := 245) dX8_order_235 (by decide) (by omega) (by omega) (fun _ => ?_) (fun h235 => absurd h235 (by decide))
  refine g_aload_1 dX8_order_245 ?_
  refine g_s1_1 dX8_order_246 (sX8_124 rfl) rfl (Nat.le_of_ble_eq_true rfl) ⟨rfl, rfl⟩ (Nat.le_of_ble_eq_true rfl) (Nat.le_of_ble_eq_true rfl) (m_goEase (hA.row hj) hI hth) ?_
  have hA6 := hA.aj hj (g := f_ease (A j))
  refine g_istore_8 rfl dX8_order_249 ?_
  refine g_aload_0 dX8_order_251 ?_
  refine g_iload_7 dX8_order_252 ?_
  refine g_if_neN (tgt := 261) dX8_order_254 (by decide) (by omega) (fun _ => ?_) (fun h254 => absurd h254 (by decide))
  refine g_iconst (v := nI 0) dX8_order_261 rfl ?_
  refine g_v1 dX8_order_262 (vX8_117 rfl) rfl hA6.1 (Nat.le_of_ble_eq_true rfl) (Nat.le_of_ble_eq_true rfl) (Nat.le_of_ble_eq_true rfl) (m_fails (bq := false) hA6) (fun r M2 z2 hq => ?_) (fun E M2 z2 hq => by obtain ⟨hq, -⟩ := hq; cases hq)
  obtain ⟨hr, hA7, hO7, rfl⟩ := hq
  cases hr
  refine g_goto (tgt := 481) dX8_order_265 (by decide) ?_
  exact g_return rfl dX8_order_481 (Nat.le_of_ble_eq_true rfl) (Nat.le_of_ble_eq_true rfl) (OrdQ.of1 hj hA7 hdp rfl (fun k _ b => upd_ne b) h5 ((Out.put (by omega) (by omega)).tr hO7))
theorem m_ord_e0 (hA : MAt M b I A) (hj : j = 1 ∨ j = 2) (hdp : I 9 = nI (t + 1)) (ht : t < 23) (h5 : A 5 t = nI (p + 1)) (hs : s < 5) (hI : Rng (A j)) (hth : tno (A j) = 0) : WP mX8_order 74 [some (.ref b), some (.ref (b + j)), some (.int (nI t)), some (.int (nI s)), some (.int (nI p)), some (.int (nI 101)), some (.int x), none, none] [] M z 0 0 (OrdQ M b j I A (A j) 1 t (p + 1) z (noP t)) := by
  have hao := hA.1
  refine g_iload_5 dX8_order_74 ?_
  refine g_bipush (v := nI 115) dX8_order_76 rfl ?_
  refine g_icmp_eqN (tgt := 88) dX8_order_78 (by decide) (by omega) (by omega) (fun h78 => absurd h78 (by decide)) (fun _ => ?_)
  refine g_iload_5 dX8_order_81 ?_
  refine g_bipush (v := nI 106) dX8_order_83 rfl ?_
  refine g_icmp_neN (tgt := 158) dX8_order_85 (by decide) (by omega) (by omega) (fun _ => ?_) (fun h85 => absurd h85 (by decide))
  refine g_iload_5 dX8_order_158 ?_
  refine g_bipush (v := nI 108) dX8_order_160 rfl ?_
  refine g_icmp_eqN (tgt := 172) dX8_order_162 (by decide) (by omega) (by omega) (fun h162 => absurd h162 (by decide)) (fun _ => ?_)
  refine g_iload_5 dX8_order_165 ?_
  refine g_bipush (v := nI 114) dX8_order_167 rfl ?_
  refine g_icmp_neN (tgt := 193) dX8_order_169 (by decide) (by omega) (by omega) (fun _ => ?_) (fun h169 => absurd h169 (by decide))
  refine g_iload_5 dX8_order_193 ?_
  refine g_bipush (v := nI 120) dX8_order_195 rfl ?_
  refine g_icmp_eqN (tgt := 207) dX8_order_197 (by decide) (by omega) (by omega) (fun h197 => absurd h197 (by decide)) (fun _ => ?_)
  refine g_iload_5 dX8_order_200 ?_
  refine g_bipush (v := nI 101) dX8_order_202 rfl ?_
  refine g_icmp_neN (tgt := 268) dX8_order_204 (by decide) (by omega) (by omega) (fun h204 => absurd rfl h204) (fun _ => ?_)
  refine g_aload_1 dX8_order_207 ?_
  refine g_sipush (v := nI 459) dX8_order_208 rfl ?_
  refine g_ialdN dX8_order_211 (hA.row hj) (by omega) (by decide) ?_
  rw [t459z hI hth]
  refine g_if_leN (tgt := 219) dX8_order_212 (by decide) (by omega) (fun _ => ?_) (fun h212 => absurd rfl h212)
  refine g_iconst (v := nI 0) dX8_order_219 rfl ?_
  refine g_istore_7 rfl dX8_order_220 ?_
  refine g_iload_7 dX8_order_222 ?_
  refine g_if_neN (tgt := 231) dX8_order_224 (by decide) (by omega) (fun h224 => absurd rfl h224) (fun _ => ?_)
  refine g_iconst (v := nI 0) dX8_order_227 rfl ?_
  refine g_goto (tgt := 249) dX8_order_228 (by decide) ?_
  refine g_istore_8 rfl dX8_order_249 ?_
  refine g_aload_0 dX8_order_251 ?_
  refine g_iload_7 dX8_order_252 ?_
  refine g_if_neN (tgt := 261) dX8_order_254 (by decide) (by omega) (fun h254 => absurd rfl h254) (fun _ => ?_)
  refine g_iconst (v := nI 1) dX8_order_257 rfl ?_
  refine g_goto (tgt := 262) dX8_order_258 (by decide) ?_
  refine g_v1 dX8_order_262 (vX8_117 rfl) rfl hA.1 (Nat.le_of_ble_eq_true rfl) (Nat.le_of_ble_eq_true rfl) (Nat.le_of_ble_eq_true rfl) (m_fails (bq := true) hA) (fun r M2 z2 hq => ?_) (fun E M2 z2 hq => by obtain ⟨hq, -⟩ := hq; cases hq)
  obtain ⟨hr, hA7, hO7, rfl⟩ := hq
  cases hr
  refine g_goto (tgt := 481) dX8_order_265 (by decide) ?_
  exact g_return rfl dX8_order_481 (Nat.le_of_ble_eq_true rfl) (Nat.le_of_ble_eq_true rfl) (OrdQ.of0 hj hA7 hdp rfl (fun k _ b => upd_ne b) h5 hO7)
theorem m_ord_c1 (hA : MAt M b I A) (hj : j = 1 ∨ j = 2) (hdp : I 9 = nI (t + 1)) (ht : t < 23) (h5 : A 5 t = nI (p + 1)) (hs : s < 5) (hI : Rng (A j)) (hd5 : d < 5) (hc : nI 20 ≤ A j (432 + 5 * d)) : WP mX8_order 74 [some (.ref b), some (.ref (b + j)), some (.int (nI t)), some (.int (nI s)), some (.int (nI p)), some (.int (nI 99)), some (.int (nI d)), none, none] [] M z 0 0 (OrdQ M b j I A (f_thread (A j) d) 0 t (p + 2) z (noP t)) := by
  have hao := hA.1
  refine g_iload_5 dX8_order_74 ?_
  refine g_bipush (v := nI 115) dX8_order_76 rfl ?_
  refine g_icmp_eqN (tgt := 88) dX8_order_78 (by decide) (by omega) (by omega) (fun h78 => absurd h78 (by decide)) (fun _ => ?_)
  refine g_iload_5 dX8_order_81 ?_
  refine g_bipush (v := nI 106) dX8_order_83 rfl ?_
  refine g_icmp_neN (tgt := 158) dX8_order_85 (by decide) (by omega) (by omega) (fun _ => ?_) (fun h85 => absurd h85 (by decide))
  refine g_iload_5 dX8_order_158 ?_
  refine g_bipush (v := nI 108) dX8_order_160 rfl ?_
  refine g_icmp_eqN (tgt := 172) dX8_order_162 (by decide) (by omega) (by omega) (fun h162 => absurd h162 (by decide)) (fun _ => ?_)
  refine g_iload_5 dX8_order_165 ?_
  refine g_bipush (v := nI 114) dX8_order_167 rfl ?_
  refine g_icmp_neN (tgt := 193) dX8_order_169 (by decide) (by omega) (by omega) (fun _ => ?_) (fun h169 => absurd h169 (by decide))
  refine g_iload_5 dX8_order_193 ?_
  refine g_bipush (v := nI 120) dX8_order_195 rfl ?_
  refine g_icmp_eqN (tgt := 207) dX8_order_197 (by decide) (by omega) (by omega) (fun h197 => absurd h197 (by decide)) (fun _ => ?_)
  refine g_iload_5 dX8_order_200 ?_
  refine g_bipush (v := nI 101) dX8_order_202 rfl ?_
  refine g_icmp_neN (tgt := 268) dX8_order_204 (by decide) (by omega) (by omega) (fun _ => ?_) (fun h204 => absurd h204 (by decide))
  refine g_iload_5 dX8_order_268 ?_
  refine g_bipush (v := nI 99) dX8_order_270 rfl ?_
  refine g_icmp_neN (tgt := 338) dX8_order_272 (by decide) (by omega) (by omega) (fun h272 => absurd rfl h272) (fun _ => ?_)
  refine g_aload_1 dX8_order_275 ?_
  refine g_iload_6 dX8_order_276 ?_
  refine g_iconst (v := nI 0) dX8_order_278 rfl ?_
  refine g_s3_1 dX8_order_279 (sX8_65 rfl) rfl (Nat.le_of_ble_eq_true rfl) ⟨rfl, rfl⟩ (Nat.le_of_ble_eq_true rfl) (Nat.le_of_ble_eq_true rfl) (m_cone (n := 0) (hA.row hj) hd5 (by decide)) ?_
  refine g_bipush (v := nI 20) dX8_order_282 rfl ?_
  refine g_icmp_lt (tgt := 291) dX8_order_284 (by decide)  (fun h284 => absurd h284 (Int32.not_lt.mpr hc)) (fun _ => ?_)
  refine g_iconst (v := nI 1) dX8_order_287 rfl ?_
  refine g_goto (tgt := 292) dX8_order_288 (by decide) ?_
  refine g_istore_7 rfl dX8_order_292 ?_
  refine g_iload_7 dX8_order_294 ?_
  refine g_if_eqN (tgt := 308) dX8_order_296 (by decide) (by omega) (fun h296 => absurd h296 (by decide)) (fun _ => ?_)
  refine g_aload_1 dX8_order_299 ?_
  refine g_iload_6 dX8_order_300 ?_
  refine g_s2_1 dX8_order_302 (sX8_127 rfl) rfl (Nat.le_of_ble_eq_true rfl) ⟨rfl, rfl⟩ (Nat.le_of_ble_eq_true rfl) (Nat.le_of_ble_eq_true rfl) (m_goThread (hA.row hj) hI hd5) ?_
  have hA6 := hA.aj hj (g := f_thread (A j) d)
  refine g_goto (tgt := 309) dX8_order_305 (by decide) ?_
  refine g_istore_8 rfl dX8_order_309 ?_
  refine g_aload_0 dX8_order_311 ?_
  refine g_get dX8_order_312 (fX8_22 rfl) hA6.1 rfl ?_
  refine g_iload_2 dX8_order_315 ?_
  refine g_dup2 dX8_order_316 rfl rfl ?_
  refine g_ialdN dX8_order_317 hA6.2.2.2.2.2.1 (by omega) (by decide) ?_
  rw [stg_ne (by omega), h5]
  refine g_iconst (v := nI 1) dX8_order_318 rfl ?_
  refine g_iaddN dX8_order_319 ?_
  refine g_iastN dX8_order_320 hA6.2.2.2.2.2.1 (by omega) (by decide) ?_
  have hA5 := hA6.a5 (g := upd ((stg A j (f_thread (A j) d)) 5) t (nI (p + 1 + 1)))
  refine g_aload_0 dX8_order_321 ?_
  refine g_iload_7 dX8_order_322 ?_
  refine g_if_neN (tgt := 331) dX8_order_324 (by decide) (by omega) (fun _ => ?_) (fun h324 => absurd h324 (by decide))
  refine g_iconst (v := nI 0) dX8_order_331 rfl ?_
  refine g_v1 dX8_order_332 (vX8_117 rfl) rfl hA5.1 (Nat.le_of_ble_eq_true rfl) (Nat.le_of_ble_eq_true rfl) (Nat.le_of_ble_eq_true rfl) (m_fails (bq := false) hA5) (fun r M2 z2 hq => ?_) (fun E M2 z2 hq => by obtain ⟨hq, -⟩ := hq; cases hq)
  obtain ⟨hr, hA7, hO7, rfl⟩ := hq
  cases hr
  refine g_goto (tgt := 481) dX8_order_335 (by decide) ?_
  exact g_return rfl dX8_order_481 (Nat.le_of_ble_eq_true rfl) (Nat.le_of_ble_eq_true rfl) (OrdQ.of hj hA7 hdp rfl (fun k _ b => upd_ne b) ((stg_ne (by omega)).trans stg_eq) (stg_eq.trans (by rw [stg_ne (by omega)])) (fun k a b => (stg_ne b).trans (stg_ne a)) (((Out.put (by omega) (by omega)).tr (Out.put (by omega) (by omega))).tr hO7))
theorem m_ord_c0 (hA : MAt M b I A) (hj : j = 1 ∨ j = 2) (hdp : I 9 = nI (t + 1)) (ht : t < 23) (h5 : A 5 t = nI (p + 1)) (hs : s < 5) (hI : Rng (A j)) (hd5 : d < 5) (hc : ¬ nI 20 ≤ A j (432 + 5 * d)) : WP mX8_order 74 [some (.ref b), some (.ref (b + j)), some (.int (nI t)), some (.int (nI s)), some (.int (nI p)), some (.int (nI 99)), some (.int (nI d)), none, none] [] M z 0 0 (OrdQ M b j I A (A j) 1 t (p + 2) z (noP t)) := by
  have hao := hA.1
  refine g_iload_5 dX8_order_74 ?_
  refine g_bipush (v := nI 115) dX8_order_76 rfl ?_
  refine g_icmp_eqN (tgt := 88) dX8_order_78 (by decide) (by omega) (by omega) (fun h78 => absurd h78 (by decide)) (fun _ => ?_)
  refine g_iload_5 dX8_order_81 ?_
  refine g_bipush (v := nI 106) dX8_order_83 rfl ?_
  refine g_icmp_neN (tgt := 158) dX8_order_85 (by decide) (by omega) (by omega) (fun _ => ?_) (fun h85 => absurd h85 (by decide))
  refine g_iload_5 dX8_order_158 ?_
  refine g_bipush (v := nI 108) dX8_order_160 rfl ?_
  refine g_icmp_eqN (tgt := 172) dX8_order_162 (by decide) (by omega) (by omega) (fun h162 => absurd h162 (by decide)) (fun _ => ?_)
  refine g_iload_5 dX8_order_165 ?_
  refine g_bipush (v := nI 114) dX8_order_167 rfl ?_
  refine g_icmp_neN (tgt := 193) dX8_order_169 (by decide) (by omega) (by omega) (fun _ => ?_) (fun h169 => absurd h169 (by decide))
  refine g_iload_5 dX8_order_193 ?_
  refine g_bipush (v := nI 120) dX8_order_195 rfl ?_
  refine g_icmp_eqN (tgt := 207) dX8_order_197 (by decide) (by omega) (by omega) (fun h197 => absurd h197 (by decide)) (fun _ => ?_)
  refine g_iload_5 dX8_order_200 ?_
  refine g_bipush (v := nI 101) dX8_order_202 rfl ?_
  refine g_icmp_neN (tgt := 268) dX8_order_204 (by decide) (by omega) (by omega) (fun _ => ?_) (fun h204 => absurd h204 (by decide))
  refine g_iload_5 dX8_order_268 ?_
  refine g_bipush (v := nI 99) dX8_order_270 rfl ?_
  refine g_icmp_neN (tgt := 338) dX8_order_272 (by decide) (by omega) (by omega) (fun h272 => absurd rfl h272) (fun _ => ?_)
  refine g_aload_1 dX8_order_275 ?_
  refine g_iload_6 dX8_order_276 ?_
  refine g_iconst (v := nI 0) dX8_order_278 rfl ?_
  refine g_s3_1 dX8_order_279 (sX8_65 rfl) rfl (Nat.le_of_ble_eq_true rfl) ⟨rfl, rfl⟩ (Nat.le_of_ble_eq_true rfl) (Nat.le_of_ble_eq_true rfl) (m_cone (n := 0) (hA.row hj) hd5 (by decide)) ?_
  refine g_bipush (v := nI 20) dX8_order_282 rfl ?_
  refine g_icmp_lt (tgt := 291) dX8_order_284 (by decide)  (fun _ => ?_) (fun h284 => absurd (Int32.not_lt.mp h284) hc)
  refine g_iconst (v := nI 0) dX8_order_291 rfl ?_
  refine g_istore_7 rfl dX8_order_292 ?_
  refine g_iload_7 dX8_order_294 ?_
  refine g_if_eqN (tgt := 308) dX8_order_296 (by decide) (by omega) (fun _ => ?_) (fun h296 => absurd rfl h296)
  refine g_iconst (v := nI 0) dX8_order_308 rfl ?_
  refine g_istore_8 rfl dX8_order_309 ?_
  refine g_aload_0 dX8_order_311 ?_
  refine g_get dX8_order_312 (fX8_22 rfl) hA.1 rfl ?_
  refine g_iload_2 dX8_order_315 ?_
  refine g_dup2 dX8_order_316 rfl rfl ?_
  refine g_ialdN dX8_order_317 hA.2.2.2.2.2.1 (by omega) (by decide) ?_
  rw [h5]
  refine g_iconst (v := nI 1) dX8_order_318 rfl ?_
  refine g_iaddN dX8_order_319 ?_
  refine g_iastN dX8_order_320 hA.2.2.2.2.2.1 (by omega) (by decide) ?_
  have hA5 := hA.a5 (g := upd (A 5) t (nI (p + 1 + 1)))
  refine g_aload_0 dX8_order_321 ?_
  refine g_iload_7 dX8_order_322 ?_
  refine g_if_neN (tgt := 331) dX8_order_324 (by decide) (by omega) (fun h324 => absurd rfl h324) (fun _ => ?_)
  refine g_iconst (v := nI 1) dX8_order_327 rfl ?_
  refine g_goto (tgt := 332) dX8_order_328 (by decide) ?_
  refine g_v1 dX8_order_332 (vX8_117 rfl) rfl hA5.1 (Nat.le_of_ble_eq_true rfl) (Nat.le_of_ble_eq_true rfl) (Nat.le_of_ble_eq_true rfl) (m_fails (bq := true) hA5) (fun r M2 z2 hq => ?_) (fun E M2 z2 hq => by obtain ⟨hq, -⟩ := hq; cases hq)
  obtain ⟨hr, hA7, hO7, rfl⟩ := hq
  cases hr
  refine g_goto (tgt := 481) dX8_order_335 (by decide) ?_
  exact g_return rfl dX8_order_481 (Nat.le_of_ble_eq_true rfl) (Nat.le_of_ble_eq_true rfl) (OrdQ.of2 hj hA7 hdp rfl (fun k _ b => upd_ne b) ((Out.put (by omega) (by omega)).tr hO7))
theorem m_ord_h (hA : MAt M b I A) (hj : j = 1 ∨ j = 2) (hdp : I 9 = nI (t + 1)) (ht : t < 23) (h5 : A 5 t = nI (p + 1)) (hs : s < 5) (hI : Rng (A j)) : WP mX8_order 74 [some (.ref b), some (.ref (b + j)), some (.int (nI t)), some (.int (nI s)), some (.int (nI p)), some (.int (nI 104)), some (.int (nI d)), none, none] [] M z 0 0 (OrdQ M b j I A (upd (A j) 460 (nI d)) 0 t (p + 2) z (noP t)) := by
  have hao := hA.1
  refine g_iload_5 dX8_order_74 ?_
  refine g_bipush (v := nI 115) dX8_order_76 rfl ?_
  refine g_icmp_eqN (tgt := 88) dX8_order_78 (by decide) (by omega) (by omega) (fun h78 => absurd h78 (by decide)) (fun _ => ?_)
  refine g_iload_5 dX8_order_81 ?_
  refine g_bipush (v := nI 106) dX8_order_83 rfl ?_
  refine g_icmp_neN (tgt := 158) dX8_order_85 (by decide) (by omega) (by omega) (fun _ => ?_) (fun h85 => absurd h85 (by decide))
  refine g_iload_5 dX8_order_158 ?_
  refine g_bipush (v := nI 108) dX8_order_160 rfl ?_
  refine g_icmp_eqN (tgt := 172) dX8_order_162 (by decide) (by omega) (by omega) (fun h162 => absurd h162 (by decide)) (fun _ => ?_)
  refine g_iload_5 dX8_order_165 ?_
  refine g_bipush (v := nI 114) dX8_order_167 rfl ?_
  refine g_icmp_neN (tgt := 193) dX8_order_169 (by decide) (by omega) (by omega) (fun _ => ?_) (fun h169 => absurd h169 (by decide))
  refine g_iload_5 dX8_order_193 ?_
  refine g_bipush (v := nI 120) dX8_order_195 rfl ?_
  refine g_icmp_eqN (tgt := 207) dX8_order_197 (by decide) (by omega) (by omega) (fun h197 => absurd h197 (by decide)) (fun _ => ?_)
  refine g_iload_5 dX8_order_200 ?_
  refine g_bipush (v := nI 101) dX8_order_202 rfl ?_
  refine g_icmp_neN (tgt := 268) dX8_order_204 (by decide) (by omega) (by omega) (fun _ => ?_) (fun h204 => absurd h204 (by decide))
  refine g_iload_5 dX8_order_268 ?_
  refine g_bipush (v := nI 99) dX8_order_270 rfl ?_
  refine g_icmp_neN (tgt := 338) dX8_order_272 (by decide) (by omega) (by omega) (fun _ => ?_) (fun h272 => absurd h272 (by decide))
  refine g_iload_5 dX8_order_338 ?_
  refine g_bipush (v := nI 104) dX8_order_340 rfl ?_
  refine g_icmp_neN (tgt := 365) dX8_order_342 (by decide) (by omega) (by omega) (fun h342 => absurd rfl h342) (fun _ => ?_)
  refine g_aload_1 dX8_order_345 ?_
  refine g_sipush (v := nI 460) dX8_order_346 rfl ?_
  refine g_iload_6 dX8_order_349 ?_
  refine g_iastN dX8_order_351 (hA.row hj) (by omega) (by decide) ?_
  have hA6 := hA.aj hj (g := upd (A j) 460 (nI d))
  refine g_aload_0 dX8_order_352 ?_
  refine g_get dX8_order_353 (fX8_22 rfl) hA6.1 rfl ?_
  refine g_iload_2 dX8_order_356 ?_
  refine g_dup2 dX8_order_357 rfl rfl ?_
  refine g_ialdN dX8_order_358 hA6.2.2.2.2.2.1 (by omega) (by decide) ?_
  rw [stg_ne (by omega), h5]
  refine g_iconst (v := nI 1) dX8_order_359 rfl ?_
  refine g_iaddN dX8_order_360 ?_
  refine g_iastN dX8_order_361 hA6.2.2.2.2.2.1 (by omega) (by decide) ?_
  have hA5 := hA6.a5 (g := upd ((stg A j (upd (A j) 460 (nI d))) 5) t (nI (p + 1 + 1)))
  refine g_goto (tgt := 481) dX8_order_362 (by decide) ?_
  exact g_return rfl dX8_order_481 (Nat.le_of_ble_eq_true rfl) (Nat.le_of_ble_eq_true rfl) (OrdQ.of hj hA5 hdp (nI_add0 _).symm (fun k _ _ => rfl) ((stg_ne (by omega)).trans stg_eq) (stg_eq.trans (by rw [stg_ne (by omega)])) (fun k a b => (stg_ne b).trans (stg_ne a)) ((Out.put (by omega) (by omega)).tr (Out.put (by omega) (by omega))))
/-- a frame is pushed -/
def puP (t s fi st ti : Nat) : (Nat → Row) → Nat → Prop := fun A' dp => dp = t + 2 ∧ FrAt A' (t + 1) s fi fi st ti
theorem OrdQ.push {I' : Row} {A1 A' : Nat → Row} {M' : Hp} {s2 fi st ti : Nat} (hj : j = 1 ∨ j = 2) (hA' : MAt M' b I' A') (h9 : I' 9 = nI (t + 2)) (h10 : I' 10 = I 10 + nI br) (hI' : ∀ k, k ≠ 9 → k ≠ 10 → I' k = I k) (hA1 : A1 = stg A 5 (upd (A 5) t (nI sp))) (h4 : A' 4 = upd (A1 4) (t + 1) (nI s2)) (h5 : A' 5 = upd (A1 5) (t + 1) (nI fi)) (h6 : A' 6 = upd (A1 6) (t + 1) (nI fi)) (h7 : A' 7 = upd (A1 7) (t + 1) (nI st)) (h8 : A' 8 = upd (A1 8) (t + 1) (nI ti)) (hk : ∀ k, k ≠ 4 → k ≠ 5 → k ≠ 6 → k ≠ 7 → k ≠ 8 → A' k = A1 k) (hO : Out M M' b 13) : OrdQ M b j I A (A j) br t sp z (puP t s2 fi st ti) (.inl none) M' z := by
  subst hA1
  have e4 : (stg A 5 (upd (A 5) t (nI sp))) 4 = A 4 := stg_ne (by decide)
  have e6 : (stg A 5 (upd (A 5) t (nI sp))) 6 = A 6 := stg_ne (by decide)
  have e7 : (stg A 5 (upd (A 5) t (nI sp))) 7 = A 7 := stg_ne (by decide)
  have e8 : (stg A 5 (upd (A 5) t (nI sp))) 8 = A 8 := stg_ne (by decide)
  rw [e4] at h4
  rw [stg_eq] at h5
  rw [e6] at h6
  rw [e7] at h7
  rw [e8] at h8
  refine ⟨rfl, ⟨I', A', t + 2, hA', h9, h10, hI', ?_, fun k a b => ?_, ⟨?_, ?_, ?_, ?_, ?_⟩, fun i hi k a b => ?_, rfl, ?_, ?_, ?_, ?_, ?_⟩, hO, rfl⟩
  · rw [hk j (by omega) (by omega) (by omega) (by omega) (by omega), stg_ne (by omega)]
  · rw [hk k (by omega) (by omega) (by omega) (by omega) (by omega), stg_ne (by omega)]
  · rw [h5, upd_ne (by omega), upd_eq]
  · rw [h4, upd_ne (by omega)]
  · rw [h6, upd_ne (by omega)]
  · rw [h7, upd_ne (by omega)]
  · rw [h8, upd_ne (by omega)]
  · have : k = 4 ∨ k = 5 ∨ k = 6 ∨ k = 7 ∨ k = 8 := by omega
    rcases this with rfl | rfl | rfl | rfl | rfl
    · rw [h4, upd_ne (by omega)]
    · rw [h5, upd_ne (by omega), upd_ne (by omega)]
    · rw [h6, upd_ne (by omega)]
    · rw [h7, upd_ne (by omega)]
    · rw [h8, upd_ne (by omega)]
  · rw [h4, upd_eq]
  · rw [h5, upd_eq]
  · rw [h6, upd_eq]
  · rw [h7, upd_eq]
  · rw [h8, upd_eq]
theorem m_ord_m1 (hA : MAt M b I A) (hj : j = 1 ∨ j = 2) (hdp : I 9 = nI (t + 1)) (ht : t < 23) (h5 : A 5 t = nI (p + 1)) (hs : s < 5) (hI : Rng (A j)) {l : Nat} (hd5 : d < 4) (hln : A j (463 + d) = nI l) (hl9 : l ≤ 120) (hl : 0 < l) : WP mX8_order 74 [some (.ref b), some (.ref (b + j)), some (.int (nI t)), some (.int (nI s)), some (.int (nI p)), some (.int (nI 109)), some (.int (nI d)), none, none] [] M z 0 0 (OrdQ M b j I A (A j) 0 t (p + 2) z (puP t d 0 l 1)) := by
  have hao := hA.1
  refine g_iload_5 dX8_order_74 ?_
  refine g_bipush (v := nI 115) dX8_order_76 rfl ?_
  refine g_icmp_eqN (tgt := 88) dX8_order_78 (by decide) (by omega) (by omega) (fun h78 => absurd h78 (by decide)) (fun _ => ?_)
  refine g_iload_5 dX8_order_81 ?_
  refine g_bipush (v := nI 106) dX8_order_83 rfl ?_
  refine g_icmp_neN (tgt := 158) dX8_order_85 (by decide) (by omega) (by omega) (fun _ => ?_) (fun h85 => absurd h85 (by decide))
  refine g_iload_5 dX8_order_158 ?_
  refine g_bipush (v := nI 108) dX8_order_160 rfl ?_
  refine g_icmp_eqN (tgt := 172) dX8_order_162 (by decide) (by omega) (by omega) (fun h162 => absurd h162 (by decide)) (fun _ => ?_)
  refine g_iload_5 dX8_order_165 ?_
  refine g_bipush (v := nI 114) dX8_order_167 rfl ?_
  refine g_icmp_neN (tgt := 193) dX8_order_169 (by decide) (by omega) (by omega) (fun _ => ?_) (fun h169 => absurd h169 (by decide))
  refine g_iload_5 dX8_order_193 ?_
  refine g_bipush (v := nI 120) dX8_order_195 rfl ?_
  refine g_icmp_eqN (tgt := 207) dX8_order_197 (by decide) (by omega) (by omega) (fun h197 => absurd h197 (by decide)) (fun _ => ?_)
  refine g_iload_5 dX8_order_200 ?_
  refine g_bipush (v := nI 101) dX8_order_202 rfl ?_
  refine g_icmp_neN (tgt := 268) dX8_order_204 (by decide) (by omega) (by omega) (fun _ => ?_) (fun h204 => absurd h204 (by decide))
  refine g_iload_5 dX8_order_268 ?_
  refine g_bipush (v := nI 99) dX8_order_270 rfl ?_
  refine g_icmp_neN (tgt := 338) dX8_order_272 (by decide) (by omega) (by omega) (fun _ => ?_) (fun h272 => absurd h272 (by decide))
  refine g_iload_5 dX8_order_338 ?_
  refine g_bipush (v := nI 104) dX8_order_340 rfl ?_
  refine g_icmp_neN (tgt := 365) dX8_order_342 (by decide) (by omega) (by omega) (fun _ => ?_) (fun h342 => absurd h342 (by decide))
  refine g_iload_5 dX8_order_365 ?_
  refine g_bipush (v := nI 109) dX8_order_367 rfl ?_
  refine g_icmp_neN (tgt := 432) dX8_order_369 (by decide) (by omega) (by omega) (fun h369 => absurd rfl h369) (fun _ => ?_)
  refine g_aload_0 dX8_order_372 ?_
  refine g_get dX8_order_373 (fX8_22 rfl) hA.1 rfl ?_
  refine g_iload_2 dX8_order_376 ?_
  refine g_dup2 dX8_order_377 rfl rfl ?_
  refine g_ialdN dX8_order_378 hA.2.2.2.2.2.1 (by omega) (by decide) ?_
  rw [h5]
  refine g_iconst (v := nI 1) dX8_order_379 rfl ?_
  refine g_iaddN dX8_order_380 ?_
  refine g_iastN dX8_order_381 hA.2.2.2.2.2.1 (by omega) (by decide) ?_
  have hA5 := hA.a5 (g := upd (A 5) t (nI (p + 1 + 1)))
  refine g_aload_0 dX8_order_382 ?_
  refine g_aload_1 dX8_order_383 ?_
  refine g_sipush (v := nI 463) dX8_order_384 rfl ?_
  refine g_iload_6 dX8_order_387 ?_
  refine g_iaddN dX8_order_389 ?_
  refine g_ialdN dX8_order_390 (hA5.rowE hj (stg_ne (by omega))) (by omega) (by decide) ?_
  rw [hln]
  refine g_if_neN (tgt := 398) dX8_order_391 (by decide) (by omega) (fun _ => ?_) (fun h391 => absurd h391 (by omega))
  refine g_iconst (v := nI 0) dX8_order_398 rfl ?_
  refine g_v1 dX8_order_399 (vX8_117 rfl) rfl hA5.1 (Nat.le_of_ble_eq_true rfl) (Nat.le_of_ble_eq_true rfl) (Nat.le_of_ble_eq_true rfl) (m_fails (bq := false) hA5) (fun r M2 z2 hq => ?_) (fun E M2 z2 hq => by obtain ⟨hq, -⟩ := hq; cases hq)
  obtain ⟨hr, hA7, hO7, rfl⟩ := hq
  cases hr
  refine g_aload_1 dX8_order_402 ?_
  refine g_sipush (v := nI 463) dX8_order_403 rfl ?_
  refine g_iload_6 dX8_order_406 ?_
  refine g_iaddN dX8_order_408 ?_
  refine g_ialdN dX8_order_409 (hA7.rowE hj (stg_ne (by omega))) (by omega) (by decide) ?_
  rw [hln]
  refine g_if_leN (tgt := 481) dX8_order_410 (by decide) (by omega) (fun h410 => absurd h410 (by omega)) (fun _ => ?_)
  refine g_aload_0 dX8_order_413 ?_
  refine g_iload_6 dX8_order_414 ?_
  refine g_iconst (v := nI 0) dX8_order_416 rfl ?_
  refine g_aload_1 dX8_order_417 ?_
  refine g_sipush (v := nI 463) dX8_order_418 rfl ?_
  refine g_iload_6 dX8_order_421 ?_
  refine g_iaddN dX8_order_423 ?_
  refine g_ialdN dX8_order_424 (hA7.rowE hj (stg_ne (by omega))) (by omega) (by decide) ?_
  rw [hln]
  refine g_iconst (v := nI 1) dX8_order_425 rfl ?_
  refine g_v4 dX8_order_426 (vX8_130 rfl) rfl hA7.1 (Nat.le_of_ble_eq_true rfl) (Nat.le_of_ble_eq_true rfl) (Nat.le_of_ble_eq_true rfl) (m_push (n := t + 1) hA7 hdp (by omega)) (fun r M2 z2 hq => ?_) (fun E M2 z2 hq => by obtain ⟨hq, -⟩ := hq; cases hq)
  obtain ⟨hr, ⟨A8, hA8, g4, g5, g6, g7, g8, gk⟩, hO8, rfl⟩ := hq
  cases hr
  refine g_goto (tgt := 481) dX8_order_429 (by decide) ?_
  exact g_return rfl dX8_order_481 (Nat.le_of_ble_eq_true rfl) (Nat.le_of_ble_eq_true rfl) (OrdQ.push hj hA8 rfl rfl (fun k a b => (upd_ne a).trans (upd_ne b)) rfl g4 g5 g6 g7 g8 gk (((Out.put (by omega) (by omega)).tr hO7).tr hO8))
theorem m_ord_m0 (hA : MAt M b I A) (hj : j = 1 ∨ j = 2) (hdp : I 9 = nI (t + 1)) (ht : t < 23) (h5 : A 5 t = nI (p + 1)) (hs : s < 5) (hI : Rng (A j)) {l : Nat} (hd5 : d < 4) (hln : A j (463 + d) = nI l) (hl9 : l ≤ 120) (hl : l = 0) : WP mX8_order 74 [some (.ref b), some (.ref (b + j)), some (.int (nI t)), some (.int (nI s)), some (.int (nI p)), some (.int (nI 109)), some (.int (nI d)), none, none] [] M z 0 0 (OrdQ M b j I A (A j) 1 t (p + 2) z (noP t)) := by
  have hao := hA.1
  refine g_iload_5 dX8_order_74 ?_
  refine g_bipush (v := nI 115) dX8_order_76 rfl ?_
  refine g_icmp_eqN (tgt := 88) dX8_order_78 (by decide) (by omega) (by omega) (fun h78 => absurd h78 (by decide)) (fun _ => ?_)
  refine g_iload_5 dX8_order_81 ?_
  refine g_bipush (v := nI 106) dX8_order_83 rfl ?_
  refine g_icmp_neN (tgt := 158) dX8_order_85 (by decide) (by omega) (by omega) (fun _ => ?_) (fun h85 => absurd h85 (by decide))
  refine g_iload_5 dX8_order_158 ?_
  refine g_bipush (v := nI 108) dX8_order_160 rfl ?_
  refine g_icmp_eqN (tgt := 172) dX8_order_162 (by decide) (by omega) (by omega) (fun h162 => absurd h162 (by decide)) (fun _ => ?_)
  refine g_iload_5 dX8_order_165 ?_
  refine g_bipush (v := nI 114) dX8_order_167 rfl ?_
  refine g_icmp_neN (tgt := 193) dX8_order_169 (by decide) (by omega) (by omega) (fun _ => ?_) (fun h169 => absurd h169 (by decide))
  refine g_iload_5 dX8_order_193 ?_
  refine g_bipush (v := nI 120) dX8_order_195 rfl ?_
  refine g_icmp_eqN (tgt := 207) dX8_order_197 (by decide) (by omega) (by omega) (fun h197 => absurd h197 (by decide)) (fun _ => ?_)
  refine g_iload_5 dX8_order_200 ?_
  refine g_bipush (v := nI 101) dX8_order_202 rfl ?_
  refine g_icmp_neN (tgt := 268) dX8_order_204 (by decide) (by omega) (by omega) (fun _ => ?_) (fun h204 => absurd h204 (by decide))
  refine g_iload_5 dX8_order_268 ?_
  refine g_bipush (v := nI 99) dX8_order_270 rfl ?_
  refine g_icmp_neN (tgt := 338) dX8_order_272 (by decide) (by omega) (by omega) (fun _ => ?_) (fun h272 => absurd h272 (by decide))
  refine g_iload_5 dX8_order_338 ?_
  refine g_bipush (v := nI 104) dX8_order_340 rfl ?_
  refine g_icmp_neN (tgt := 365) dX8_order_342 (by decide) (by omega) (by omega) (fun _ => ?_) (fun h342 => absurd h342 (by decide))
  refine g_iload_5 dX8_order_365 ?_
  refine g_bipush (v := nI 109) dX8_order_367 rfl ?_
  refine g_icmp_neN (tgt := 432) dX8_order_369 (by decide) (by omega) (by omega) (fun h369 => absurd rfl h369) (fun _ => ?_)
  refine g_aload_0 dX8_order_372 ?_
  refine g_get dX8_order_373 (fX8_22 rfl) hA.1 rfl ?_
  refine g_iload_2 dX8_order_376 ?_
  refine g_dup2 dX8_order_377 rfl rfl ?_
  refine g_ialdN dX8_order_378 hA.2.2.2.2.2.1 (by omega) (by decide) ?_
  rw [h5]
  refine g_iconst (v := nI 1) dX8_order_379 rfl ?_
  refine g_iaddN dX8_order_380 ?_
  refine g_iastN dX8_order_381 hA.2.2.2.2.2.1 (by omega) (by decide) ?_
  have hA5 := hA.a5 (g := upd (A 5) t (nI (p + 1 + 1)))
  refine g_aload_0 dX8_order_382 ?_
  refine g_aload_1 dX8_order_383 ?_
  refine g_sipush (v := nI 463) dX8_order_384 rfl ?_
  refine g_iload_6 dX8_order_387 ?_
  refine g_iaddN dX8_order_389 ?_
  refine g_ialdN dX8_order_390 (hA5.rowE hj (stg_ne (by omega))) (by omega) (by decide) ?_
  rw [hln]
  refine g_if_neN (tgt := 398) dX8_order_391 (by decide) (by omega) (fun h391 => absurd (by omega) h391) (fun _ => ?_)
  refine g_iconst (v := nI 1) dX8_order_394 rfl ?_
  refine g_goto (tgt := 399) dX8_order_395 (by decide) ?_
  refine g_v1 dX8_order_399 (vX8_117 rfl) rfl hA5.1 (Nat.le_of_ble_eq_true rfl) (Nat.le_of_ble_eq_true rfl) (Nat.le_of_ble_eq_true rfl) (m_fails (bq := true) hA5) (fun r M2 z2 hq => ?_) (fun E M2 z2 hq => by obtain ⟨hq, -⟩ := hq; cases hq)
  obtain ⟨hr, hA7, hO7, rfl⟩ := hq
  cases hr
  refine g_aload_1 dX8_order_402 ?_
  refine g_sipush (v := nI 463) dX8_order_403 rfl ?_
  refine g_iload_6 dX8_order_406 ?_
  refine g_iaddN dX8_order_408 ?_
  refine g_ialdN dX8_order_409 (hA7.rowE hj (stg_ne (by omega))) (by omega) (by decide) ?_
  rw [hln]
  refine g_if_leN (tgt := 481) dX8_order_410 (by decide) (by omega) (fun _ => ?_) (fun h410 => absurd (by omega) h410)
  exact g_return rfl dX8_order_481 (Nat.le_of_ble_eq_true rfl) (Nat.le_of_ble_eq_true rfl) (OrdQ.of2 hj hA7 hdp rfl (fun k _ b => upd_ne b) ((Out.put (by omega) (by omega)).tr hO7))
end P47
