/-! ===== the law: case by case ===== -/
theorem iNb {x : Int32} {b : Nat} (h : 0 ≤ x.toInt ∧ x.toInt ≤ b) : ∃ c : Nat, c ≤ b ∧ x = nI c := ⟨x.toInt.toNat, by omega, i32_nat (by omega)⟩
theorem iN1 {x : Int32} {b : Nat} (h : 1 ≤ x.toInt ∧ x.toInt ≤ b) : ∃ c : Nat, 1 ≤ c ∧ c ≤ b ∧ x = nI c := ⟨x.toInt.toNat, by omega, by omega, i32_nat (by omega)⟩
section CASES
variable {X : Cx} {h : Hp} {z d m k i : Nat} {nm : String}
theorem law_type (S : lSt h d m k) (hk : k ≤ 64) (dm : d + 174 ≤ m) (hi : i + 4 ≤ xL X) (hL : xL X ≤ 256) (K : ∀ h' : Hp, lSt h' d m (k + 1) → Ev X (mi_L_law nm 10 600000 7302250) QL 191 14323 (h', z) 776 [.ref (xb X), .ref d, .ref m, .int (nI i)] []) : Ev X (mi_L_law nm 10 600000 7302250) QL 191 14323 (h, z) 160 [.ref (xb X), .ref d, .ref m, .int (nI i)] [] := by
  obtain ⟨cs, B, N, P, I, J, wn, op, n, tr, pc, pm, g⟩ := S
  obtain ⟨b9, gN, -⟩ := id g
  have h6 := b9.1
  have wN := gN.1.1
  have hd0 := pc.1
  unfold pDO at hd0
  obtain ⟨fm, hm0⟩ := pm.obj
  have b9g : wB (9 + k) B := ⟨b9.1, b9.2.1, b9.2.2.1, b9.2.2.2.1, b9.2.2.2.2.1, b9.2.2.2.2.2.1, fun x hx => Nat.le_trans (b9.2.2.2.2.2.2 x hx) (Nat.le_add_right _ _)⟩
  have gg : gT B (9 + k) N := ⟨gN.1.1, gN.1.2.1, by have := gN.1.2.2.1; omega, gN.1.2.2.2⟩
  by_cases hb : 0 ≤ (xs X (i + 1)).toInt ∧ (xs X (i + 1)).toInt ≤ ((255 : Nat) : Int)
  · obtain ⟨c, hc, e1⟩ := iNb hb
    refine ev_aload_n (pc := 160) dL_law_160 rfl ?_
    refine ev_aload_n (pc := 161) dL_law_161 rfl ?_
    refine ev_iload_n (pc := 162) dL_law_162 rfl ?_
    refine ev_iconst (pc := 163) (v := nI 1) dL_law_163 kc_1 ?_
    refine ev_iadd (pc := 164) dL_law_164 ?_
    (try rw [nI_add])
    refine ev_sld (pc := 165) dL_law_165 (nI_toInt (by omega)) (by omega) ?_
    rw [e1]
    refine iv_L_13 (pc := 166) rfl dL_law_166 (by (try dsimp only); (repeat (first | rw [up_s] | rw [up_n (by omega)])) <;> first | rfl | assumption) (Nat.le_of_ble_eq_true rfl) (Nat.le_of_ble_eq_true rfl) (Nat.le_of_ble_eq_true rfl) (Nat.le_of_ble_eq_true rfl) (c_D_type pc (by omega)) (ki (fun r S' hS => ?_))
    obtain ⟨h1, z1⟩ := S'
    obtain ⟨rfl, rfl, f1, p1⟩ := hS
    have pm1 := pm.fr (h' := h1) (fun q a b => f1 q (by omega))
    obtain ⟨fm1, hm1⟩ := pm1.obj
    refine ev_aload_n (pc := 169) dL_law_169 rfl ?_
    refine ev_aload_n (pc := 170) dL_law_170 rfl ?_
    refine ev_iload_n (pc := 171) dL_law_171 rfl ?_
    refine ev_iconst (pc := 172) (v := nI 1) dL_law_172 kc_1 ?_
    refine ev_iadd (pc := 173) dL_law_173 ?_
    (try rw [nI_add])
    refine ev_sld (pc := 174) dL_law_174 (nI_toInt (by omega)) (by omega) ?_
    rw [e1]
    refine iv_L_17 (pc := 175) rfl dL_law_175 (by (try dsimp only); (repeat (first | rw [up_s] | rw [up_n (by omega)])) <;> first | rfl | assumption) (Nat.le_of_ble_eq_true rfl) (Nat.le_of_ble_eq_true rfl) (Nat.le_of_ble_eq_true rfl) (Nat.le_of_ble_eq_true rfl) (c_M_type pm1 (by omega)) (ki (fun r S' hS => ?_))
    obtain ⟨h2, z2⟩ := S'
    obtain ⟨rfl, rfl, f2, p2⟩ := hS
    refine ev_icmp_eq (pc := 178) 776 dL_law_178 (by decide) (fun c_178 => ?_) (fun c_178 => ?_)
    · (try simp (disch := omega) only [i32_lti, i32_lei, i32_eqi, nI_toInt, i32z] at c_178)
      exact K h2 ⟨_, B, N, P, I, J, wn, op, n, tr, p1.fr (fun q a b => f2 q (by omega)), p2, g.up⟩
    · exact absurd rfl c_178
  · skip
    refine ev_aload_n (pc := 160) dL_law_160 rfl ?_
    refine ev_aload_n (pc := 161) dL_law_161 rfl ?_
    refine ev_iload_n (pc := 162) dL_law_162 rfl ?_
    refine ev_iconst (pc := 163) (v := nI 1) dL_law_163 kc_1 ?_
    refine ev_iadd (pc := 164) dL_law_164 ?_
    (try rw [nI_add])
    refine ev_sld (pc := 165) dL_law_165 (nI_toInt (by omega)) (by omega) ?_
    refine iv_L_13 (pc := 166) rfl dL_law_166 (by (try dsimp only); (repeat (first | rw [up_s] | rw [up_n (by omega)])) <;> first | rfl | assumption) (Nat.le_of_ble_eq_true rfl) (Nat.le_of_ble_eq_true rfl) (Nat.le_of_ble_eq_true rfl) (Nat.le_of_ble_eq_true rfl) (c_D_type_bad pc hb) (kp ?_)
    refine ev_aload_n (pc := 169) dL_law_169 rfl ?_
    refine ev_aload_n (pc := 170) dL_law_170 rfl ?_
    refine ev_iload_n (pc := 171) dL_law_171 rfl ?_
    refine ev_iconst (pc := 172) (v := nI 1) dL_law_172 kc_1 ?_
    refine ev_iadd (pc := 173) dL_law_173 ?_
    (try rw [nI_add])
    refine ev_sld (pc := 174) dL_law_174 (nI_toInt (by omega)) (by omega) ?_
    refine iv_L_17 (pc := 175) rfl dL_law_175 (by (try dsimp only); (repeat (first | rw [up_s] | rw [up_n (by omega)])) <;> first | rfl | assumption) (Nat.le_of_ble_eq_true rfl) (Nat.le_of_ble_eq_true rfl) (Nat.le_of_ble_eq_true rfl) (Nat.le_of_ble_eq_true rfl) (c_M_type_bad hb) (kp ?_)
    refine ev_icmp_eq (pc := 178) 776 dL_law_178 (by decide) (fun c_178 => ?_) (fun c_178 => ?_)
    · (try simp (disch := omega) only [i32_lti, i32_lei, i32_eqi, nI_toInt, i32z] at c_178)
      exact K h ⟨cs, B, N, P, I, J, wn, op, n, tr, pc, pm, g.up⟩
    · exact absurd rfl c_178
theorem law_clear (S : lSt h d m k) (hk : k ≤ 64) (dm : d + 174 ≤ m) (hi : i + 4 ≤ xL X) (hL : xL X ≤ 256) (K : ∀ h' : Hp, lSt h' d m (k + 1) → Ev X (mi_L_law nm 10 600000 7302250) QL 191 14323 (h', z) 776 [.ref (xb X), .ref d, .ref m, .int (nI i)] []) : Ev X (mi_L_law nm 10 600000 7302250) QL 191 14323 (h, z) 183 [.ref (xb X), .ref d, .ref m, .int (nI i)] [] := by
  obtain ⟨cs, B, N, P, I, J, wn, op, n, tr, pc, pm, g⟩ := S
  obtain ⟨b9, gN, -⟩ := id g
  have h6 := b9.1
  have wN := gN.1.1
  have hd0 := pc.1
  unfold pDO at hd0
  obtain ⟨fm, hm0⟩ := pm.obj
  have b9g : wB (9 + k) B := ⟨b9.1, b9.2.1, b9.2.2.1, b9.2.2.2.1, b9.2.2.2.2.1, b9.2.2.2.2.2.1, fun x hx => Nat.le_trans (b9.2.2.2.2.2.2 x hx) (Nat.le_add_right _ _)⟩
  have gg : gT B (9 + k) N := ⟨gN.1.1, gN.1.2.1, by have := gN.1.2.2.1; omega, gN.1.2.2.2⟩
  refine ev_aload_n (pc := 183) dL_law_183 rfl ?_
  refine iv_L_18 (pc := 184) rfl dL_law_184 (by (try dsimp only); (repeat (first | rw [up_s] | rw [up_n (by omega)])) <;> first | rfl | assumption) (Nat.le_of_ble_eq_true rfl) (Nat.le_of_ble_eq_true rfl) (Nat.le_of_ble_eq_true rfl) (Nat.le_of_ble_eq_true rfl) (c_D_clear pc) (ki (fun r S' hS => ?_))
  obtain ⟨h1, z1⟩ := S'
  obtain ⟨rfl, rfl, f1, p1⟩ := hS
  have pm1 := pm.fr (h' := h1) (fun q a b => f1 q (by omega))
  obtain ⟨fm1, hm1⟩ := pm1.obj
  refine ev_aload_n (pc := 187) dL_law_187 rfl ?_
  refine iv_L_22 (pc := 188) rfl dL_law_188 (by (try dsimp only); (repeat (first | rw [up_s] | rw [up_n (by omega)])) <;> first | rfl | assumption) (Nat.le_of_ble_eq_true rfl) (Nat.le_of_ble_eq_true rfl) (Nat.le_of_ble_eq_true rfl) (Nat.le_of_ble_eq_true rfl) (c_M_clear pm1) (ki (fun r S' hS => ?_))
  obtain ⟨h2, z2⟩ := S'
  obtain ⟨rfl, rfl, f2, p2⟩ := hS
  refine ev_icmp_eq (pc := 191) 776 dL_law_191 (by decide) (fun c_191 => ?_) (fun c_191 => ?_)
  · (try simp (disch := omega) only [i32_lti, i32_lei, i32_eqi, nI_toInt, i32z] at c_191)
    exact K h2 ⟨_, B, N, P, I, J, wn, op, n, tr, p1.fr (fun q a b => f2 q (by omega)), p2, g.up⟩
  · exact absurd rfl c_191
theorem law_tales (S : lSt h d m k) (hk : k ≤ 64) (dm : d + 174 ≤ m) (hi : i + 4 ≤ xL X) (hL : xL X ≤ 256) (K : ∀ h' : Hp, lSt h' d m (k + 1) → Ev X (mi_L_law nm 10 600000 7302250) QL 191 14323 (h', z) 776 [.ref (xb X), .ref d, .ref m, .int (nI i)] []) : Ev X (mi_L_law nm 10 600000 7302250) QL 191 14323 (h, z) 196 [.ref (xb X), .ref d, .ref m, .int (nI i)] [] := by
  obtain ⟨cs, B, N, P, I, J, wn, op, n, tr, pc, pm, g⟩ := S
  obtain ⟨b9, gN, -⟩ := id g
  have h6 := b9.1
  have wN := gN.1.1
  have hd0 := pc.1
  unfold pDO at hd0
  obtain ⟨fm, hm0⟩ := pm.obj
  have b9g : wB (9 + k) B := ⟨b9.1, b9.2.1, b9.2.2.1, b9.2.2.2.1, b9.2.2.2.2.1, b9.2.2.2.2.2.1, fun x hx => Nat.le_trans (b9.2.2.2.2.2.2 x hx) (Nat.le_add_right _ _)⟩
  have gg : gT B (9 + k) N := ⟨gN.1.1, gN.1.2.1, by have := gN.1.2.2.1; omega, gN.1.2.2.2⟩
  cases er : (rdA cs).2.2 with
  | none =>
    refine ev_aload_n (pc := 196) dL_law_196 rfl ?_
    refine iv_L_23 (pc := 197) rfl dL_law_197 (by (try dsimp only); (repeat (first | rw [up_s] | rw [up_n (by omega)])) <;> first | rfl | assumption) (Nat.le_of_ble_eq_true rfl) (Nat.le_of_ble_eq_true rfl) (Nat.le_of_ble_eq_true rfl) (Nat.le_of_ble_eq_true rfl) (c_D_tales_no pc er) (ki (fun r S' hS => ?_))
    obtain ⟨h1, z1⟩ := S'
    obtain ⟨rfl, rfl, f1, p1⟩ := hS
    have pm1 := pm.fr (h' := h1) (fun q a b => f1 q (by omega))
    obtain ⟨fm1, hm1⟩ := pm1.obj
    refine ev_aload_n (pc := 200) dL_law_200 rfl ?_
    refine iv_L_26 (pc := 201) rfl dL_law_201 (by (try dsimp only); (repeat (first | rw [up_s] | rw [up_n (by omega)])) <;> first | rfl | assumption) (Nat.le_of_ble_eq_true rfl) (Nat.le_of_ble_eq_true rfl) (Nat.le_of_ble_eq_true rfl) (Nat.le_of_ble_eq_true rfl) (c_M_tales2 pm1 (Q := Qi (fun r S' => r = -10 - nI (rdA cs).1.2.2.1 ∧ S'.2 = z1 ∧ hfr h1 S'.1 m 17 ∧ pM S'.1 m cs B N P I J wn op n tr)) (fun _ h' f p => ⟨_, rfl, rfl, rfl, f, p⟩) (fun k e => by rw [er] at e; cases e)) (ki (fun r S' hS => ?_))
    obtain ⟨h2, z2⟩ := S'
    obtain ⟨rfl, rfl, f2, p2⟩ := hS
    refine ev_icmp_eq (pc := 204) 776 dL_law_204 (by decide) (fun c_204 => ?_) (fun c_204 => ?_)
    · (try simp (disch := omega) only [i32_lti, i32_lei, i32_eqi, nI_toInt, i32z] at c_204)
      exact K h2 ⟨cs, B, N, P, I, J, wn, op, n, tr, p1.fr (fun q a b => f2 q (by omega)), p2, g.up⟩
    · exact absurd rfl c_204
  | some k0 =>
    refine ev_aload_n (pc := 196) dL_law_196 rfl ?_
    refine iv_L_23 (pc := 197) rfl dL_law_197 (by (try dsimp only); (repeat (first | rw [up_s] | rw [up_n (by omega)])) <;> first | rfl | assumption) (Nat.le_of_ble_eq_true rfl) (Nat.le_of_ble_eq_true rfl) (Nat.le_of_ble_eq_true rfl) (Nat.le_of_ble_eq_true rfl) (c_D_tales pc er) (ki (fun r S' hS => ?_))
    obtain ⟨h1, z1⟩ := S'
    obtain ⟨rfl, rfl, f1, B2, bq, p1⟩ := hS
    have pm1 := pm.fr (h' := h1) (fun q a b => f1 q (by omega))
    obtain ⟨fm1, hm1⟩ := pm1.obj
    have ok := rdA_ok cs
    refine ev_aload_n (pc := 200) dL_law_200 rfl ?_
    refine iv_L_26 (pc := 201) rfl dL_law_201 (by (try dsimp only); (repeat (first | rw [up_s] | rw [up_n (by omega)])) <;> first | rfl | assumption) (Nat.le_of_ble_eq_true rfl) (Nat.le_of_ble_eq_true rfl) (Nat.le_of_ble_eq_true rfl) (Nat.le_of_ble_eq_true rfl) (c_M_tales2 pm1 (Q := Qi (fun r S' => r = nI k0 ∧ S'.2 = z1 ∧ hfr h1 S'.1 m 17 ∧ pM S'.1 m [] B2 (startT B2) [] none none wn op 0 tr)) (fun e => by rw [er] at e; cases e) (fun k e => by rw [er] at e; cases e; exact ⟨B2, bq, fun h' f p => ⟨_, rfl, rfl, rfl, f, p⟩⟩)) (ki (fun r S' hS => ?_))
    obtain ⟨h2, z2⟩ := S'
    obtain ⟨rfl, rfl, f2, p2⟩ := hS
    refine ev_icmp_eq (pc := 204) 776 dL_law_204 (by decide) (fun c_204 => ?_) (fun c_204 => ?_)
    · (try simp (disch := omega) only [i32_lti, i32_lei, i32_eqi, nI_toInt, i32z] at c_204)
      exact K h2 ⟨[], B2, startT B2, [], none, none, wn, op, 0, tr, p1.fr (fun q a b => f2 q (by omega)), p2, gC.new (wB_is bq ok.1 ok.2) _⟩
    · exact absurd rfl c_204
theorem law_tale (S : lSt h d m k) (hk : k ≤ 64) (dm : d + 174 ≤ m) (hi : i + 4 ≤ xL X) (hL : xL X ≤ 256) (K : ∀ h' : Hp, lSt h' d m (k + 1) → Ev X (mi_L_law nm 10 600000 7302250) QL 191 14323 (h', z) 776 [.ref (xb X), .ref d, .ref m, .int (nI i)] []) : Ev X (mi_L_law nm 10 600000 7302250) QL 191 14323 (h, z) 209 [.ref (xb X), .ref d, .ref m, .int (nI i)] [] := by
  obtain ⟨cs, B, N, P, I, J, wn, op, n, tr, pc, pm, g⟩ := S
  obtain ⟨b9, gN, -⟩ := id g
  have h6 := b9.1
  have wN := gN.1.1
  have hd0 := pc.1
  unfold pDO at hd0
  obtain ⟨fm, hm0⟩ := pm.obj
  have b9g : wB (9 + k) B := ⟨b9.1, b9.2.1, b9.2.2.1, b9.2.2.2.1, b9.2.2.2.2.1, b9.2.2.2.2.2.1, fun x hx => Nat.le_trans (b9.2.2.2.2.2.2 x hx) (Nat.le_add_right _ _)⟩
  have gg : gT B (9 + k) N := ⟨gN.1.1, gN.1.2.1, by have := gN.1.2.2.1; omega, gN.1.2.2.2⟩
  by_cases hb : iTn (bT B) (xs X (i + 1)) = true
  · obtain ⟨c, hc, -, e1⟩ := iTn_t hb
    refine ev_aload_n (pc := 209) dL_law_209 rfl ?_
    refine ev_aload_n (pc := 210) dL_law_210 rfl ?_
    refine ev_iload_n (pc := 211) dL_law_211 rfl ?_
    refine ev_iconst (pc := 212) (v := nI 1) dL_law_212 kc_1 ?_
    refine ev_iadd (pc := 213) dL_law_213 ?_
    (try rw [nI_add])
    refine ev_sld (pc := 214) dL_law_214 (nI_toInt (by omega)) (by omega) ?_
    rw [e1]
    refine ev_aload_n (pc := 215) dL_law_215 rfl ?_
    refine ev_iload_n (pc := 216) dL_law_216 rfl ?_
    refine ev_iconst (pc := 217) (v := nI 2) dL_law_217 kc_2 ?_
    refine ev_iadd (pc := 218) dL_law_218 ?_
    (try rw [nI_add])
    refine ev_sld (pc := 219) dL_law_219 (nI_toInt (by omega)) (by omega) ?_
    refine iv_L_27 (pc := 220) rfl dL_law_220 (by (try dsimp only); (repeat (first | rw [up_s] | rw [up_n (by omega)])) <;> first | rfl | assumption) (Nat.le_of_ble_eq_true rfl) (Nat.le_of_ble_eq_true rfl) (Nat.le_of_ble_eq_true rfl) (Nat.le_of_ble_eq_true rfl) (c_D_tale pc b9 wN hc _) (kp ?_)
    refine ev_aload_n (pc := 223) dL_law_223 rfl ?_
    refine ev_aload_n (pc := 224) dL_law_224 rfl ?_
    refine ev_iload_n (pc := 225) dL_law_225 rfl ?_
    refine ev_iconst (pc := 226) (v := nI 1) dL_law_226 kc_1 ?_
    refine ev_iadd (pc := 227) dL_law_227 ?_
    (try rw [nI_add])
    refine ev_sld (pc := 228) dL_law_228 (nI_toInt (by omega)) (by omega) ?_
    rw [e1]
    refine ev_aload_n (pc := 229) dL_law_229 rfl ?_
    refine ev_iload_n (pc := 230) dL_law_230 rfl ?_
    refine ev_iconst (pc := 231) (v := nI 2) dL_law_231 kc_2 ?_
    refine ev_iadd (pc := 232) dL_law_232 ?_
    (try rw [nI_add])
    refine ev_sld (pc := 233) dL_law_233 (nI_toInt (by omega)) (by omega) ?_
    refine iv_L_31 (pc := 234) rfl dL_law_234 (by (try dsimp only); (repeat (first | rw [up_s] | rw [up_n (by omega)])) <;> first | rfl | assumption) (Nat.le_of_ble_eq_true rfl) (Nat.le_of_ble_eq_true rfl) (Nat.le_of_ble_eq_true rfl) (Nat.le_of_ble_eq_true rfl) (c_M_tale pm b9 wN hc _) (kp ?_)
    refine ev_icmp_eq (pc := 237) 776 dL_law_237 (by decide) (fun c_237 => ?_) (fun c_237 => ?_)
    · (try simp (disch := omega) only [i32_lti, i32_lei, i32_eqi, nI_toInt, i32z] at c_237)
      exact K h ⟨cs, B, N, P, I, J, wn, op, n, tr, pc, pm, g.up⟩
    · exact absurd rfl c_237
  · skip
    refine ev_aload_n (pc := 209) dL_law_209 rfl ?_
    refine ev_aload_n (pc := 210) dL_law_210 rfl ?_
    refine ev_iload_n (pc := 211) dL_law_211 rfl ?_
    refine ev_iconst (pc := 212) (v := nI 1) dL_law_212 kc_1 ?_
    refine ev_iadd (pc := 213) dL_law_213 ?_
    (try rw [nI_add])
    refine ev_sld (pc := 214) dL_law_214 (nI_toInt (by omega)) (by omega) ?_
    refine ev_aload_n (pc := 215) dL_law_215 rfl ?_
    refine ev_iload_n (pc := 216) dL_law_216 rfl ?_
    refine ev_iconst (pc := 217) (v := nI 2) dL_law_217 kc_2 ?_
    refine ev_iadd (pc := 218) dL_law_218 ?_
    (try rw [nI_add])
    refine ev_sld (pc := 219) dL_law_219 (nI_toInt (by omega)) (by omega) ?_
    refine iv_L_27 (pc := 220) rfl dL_law_220 (by (try dsimp only); (repeat (first | rw [up_s] | rw [up_n (by omega)])) <;> first | rfl | assumption) (Nat.le_of_ble_eq_true rfl) (Nat.le_of_ble_eq_true rfl) (Nat.le_of_ble_eq_true rfl) (Nat.le_of_ble_eq_true rfl) (c_D_tale_bad pc b9 (by simpa using hb)) (kp ?_)
    refine ev_aload_n (pc := 223) dL_law_223 rfl ?_
    refine ev_aload_n (pc := 224) dL_law_224 rfl ?_
    refine ev_iload_n (pc := 225) dL_law_225 rfl ?_
    refine ev_iconst (pc := 226) (v := nI 1) dL_law_226 kc_1 ?_
    refine ev_iadd (pc := 227) dL_law_227 ?_
    (try rw [nI_add])
    refine ev_sld (pc := 228) dL_law_228 (nI_toInt (by omega)) (by omega) ?_
    refine ev_aload_n (pc := 229) dL_law_229 rfl ?_
    refine ev_iload_n (pc := 230) dL_law_230 rfl ?_
    refine ev_iconst (pc := 231) (v := nI 2) dL_law_231 kc_2 ?_
    refine ev_iadd (pc := 232) dL_law_232 ?_
    (try rw [nI_add])
    refine ev_sld (pc := 233) dL_law_233 (nI_toInt (by omega)) (by omega) ?_
    refine iv_L_31 (pc := 234) rfl dL_law_234 (by (try dsimp only); (repeat (first | rw [up_s] | rw [up_n (by omega)])) <;> first | rfl | assumption) (Nat.le_of_ble_eq_true rfl) (Nat.le_of_ble_eq_true rfl) (Nat.le_of_ble_eq_true rfl) (Nat.le_of_ble_eq_true rfl) (c_M_tale_bad pm b9 (by simpa using hb)) (kp ?_)
    refine ev_icmp_eq (pc := 237) 776 dL_law_237 (by decide) (fun c_237 => ?_) (fun c_237 => ?_)
    · (try simp (disch := omega) only [i32_lti, i32_lei, i32_eqi, nI_toInt, i32z] at c_237)
      exact K h ⟨cs, B, N, P, I, J, wn, op, n, tr, pc, pm, g.up⟩
    · exact absurd rfl c_237
theorem law_hours (S : lSt h d m k) (hk : k ≤ 64) (dm : d + 174 ≤ m) (hi : i + 4 ≤ xL X) (hL : xL X ≤ 256) (K : ∀ h' : Hp, lSt h' d m (k + 1) → Ev X (mi_L_law nm 10 600000 7302250) QL 191 14323 (h', z) 776 [.ref (xb X), .ref d, .ref m, .int (nI i)] []) : Ev X (mi_L_law nm 10 600000 7302250) QL 191 14323 (h, z) 242 [.ref (xb X), .ref d, .ref m, .int (nI i)] [] := by
  obtain ⟨cs, B, N, P, I, J, wn, op, n, tr, pc, pm, g⟩ := S
  obtain ⟨b9, gN, -⟩ := id g
  have h6 := b9.1
  have wN := gN.1.1
  have hd0 := pc.1
  unfold pDO at hd0
  obtain ⟨fm, hm0⟩ := pm.obj
  have b9g : wB (9 + k) B := ⟨b9.1, b9.2.1, b9.2.2.1, b9.2.2.2.1, b9.2.2.2.2.1, b9.2.2.2.2.2.1, fun x hx => Nat.le_trans (b9.2.2.2.2.2.2 x hx) (Nat.le_add_right _ _)⟩
  have gg : gT B (9 + k) N := ⟨gN.1.1, gN.1.2.1, by have := gN.1.2.2.1; omega, gN.1.2.2.2⟩
  by_cases hb : 0 ≤ (xs X (i + 1)).toInt ∧ (xs X (i + 1)).toInt ≤ ((200 : Nat) : Int)
  · obtain ⟨c, hc, e1⟩ := iNb hb
    refine ev_aload_n (pc := 242) dL_law_242 rfl ?_
    refine ev_aload_n (pc := 243) dL_law_243 rfl ?_
    refine ev_iload_n (pc := 244) dL_law_244 rfl ?_
    refine ev_iconst (pc := 245) (v := nI 1) dL_law_245 kc_1 ?_
    refine ev_iadd (pc := 246) dL_law_246 ?_
    (try rw [nI_add])
    refine ev_sld (pc := 247) dL_law_247 (nI_toInt (by omega)) (by omega) ?_
    rw [e1]
    refine iv_L_32 (pc := 248) rfl dL_law_248 (by (try dsimp only); (repeat (first | rw [up_s] | rw [up_n (by omega)])) <;> first | rfl | assumption) (Nat.le_of_ble_eq_true rfl) (Nat.le_of_ble_eq_true rfl) (Nat.le_of_ble_eq_true rfl) (Nat.le_of_ble_eq_true rfl) (c_D_hours pc b9 hc) (kp ?_)
    refine ev_aload_n (pc := 251) dL_law_251 rfl ?_
    refine ev_aload_n (pc := 252) dL_law_252 rfl ?_
    refine ev_iload_n (pc := 253) dL_law_253 rfl ?_
    refine ev_iconst (pc := 254) (v := nI 1) dL_law_254 kc_1 ?_
    refine ev_iadd (pc := 255) dL_law_255 ?_
    (try rw [nI_add])
    refine ev_sld (pc := 256) dL_law_256 (nI_toInt (by omega)) (by omega) ?_
    rw [e1]
    refine iv_L_35 (pc := 257) rfl dL_law_257 (by (try dsimp only); (repeat (first | rw [up_s] | rw [up_n (by omega)])) <;> first | rfl | assumption) (Nat.le_of_ble_eq_true rfl) (Nat.le_of_ble_eq_true rfl) (Nat.le_of_ble_eq_true rfl) (Nat.le_of_ble_eq_true rfl) (c_M_hours pm b9 hc) (kp ?_)
    refine ev_icmp_eq (pc := 260) 776 dL_law_260 (by decide) (fun c_260 => ?_) (fun c_260 => ?_)
    · (try simp (disch := omega) only [i32_lti, i32_lei, i32_eqi, nI_toInt, i32z] at c_260)
      exact K h ⟨cs, B, N, P, I, J, wn, op, n, tr, pc, pm, g.up⟩
    · exact absurd rfl c_260
  · skip
    refine ev_aload_n (pc := 242) dL_law_242 rfl ?_
    refine ev_aload_n (pc := 243) dL_law_243 rfl ?_
    refine ev_iload_n (pc := 244) dL_law_244 rfl ?_
    refine ev_iconst (pc := 245) (v := nI 1) dL_law_245 kc_1 ?_
    refine ev_iadd (pc := 246) dL_law_246 ?_
    (try rw [nI_add])
    refine ev_sld (pc := 247) dL_law_247 (nI_toInt (by omega)) (by omega) ?_
    refine iv_L_32 (pc := 248) rfl dL_law_248 (by (try dsimp only); (repeat (first | rw [up_s] | rw [up_n (by omega)])) <;> first | rfl | assumption) (Nat.le_of_ble_eq_true rfl) (Nat.le_of_ble_eq_true rfl) (Nat.le_of_ble_eq_true rfl) (Nat.le_of_ble_eq_true rfl) (c_D_hours_bad hb) (kp ?_)
    refine ev_aload_n (pc := 251) dL_law_251 rfl ?_
    refine ev_aload_n (pc := 252) dL_law_252 rfl ?_
    refine ev_iload_n (pc := 253) dL_law_253 rfl ?_
    refine ev_iconst (pc := 254) (v := nI 1) dL_law_254 kc_1 ?_
    refine ev_iadd (pc := 255) dL_law_255 ?_
    (try rw [nI_add])
    refine ev_sld (pc := 256) dL_law_256 (nI_toInt (by omega)) (by omega) ?_
    refine iv_L_35 (pc := 257) rfl dL_law_257 (by (try dsimp only); (repeat (first | rw [up_s] | rw [up_n (by omega)])) <;> first | rfl | assumption) (Nat.le_of_ble_eq_true rfl) (Nat.le_of_ble_eq_true rfl) (Nat.le_of_ble_eq_true rfl) (Nat.le_of_ble_eq_true rfl) (c_M_hours_bad hb) (kp ?_)
    refine ev_icmp_eq (pc := 260) 776 dL_law_260 (by decide) (fun c_260 => ?_) (fun c_260 => ?_)
    · (try simp (disch := omega) only [i32_lti, i32_lei, i32_eqi, nI_toInt, i32z] at c_260)
      exact K h ⟨cs, B, N, P, I, J, wn, op, n, tr, pc, pm, g.up⟩
    · exact absurd rfl c_260
theorem law_begins (S : lSt h d m k) (hk : k ≤ 64) (dm : d + 174 ≤ m) (hi : i + 4 ≤ xL X) (hL : xL X ≤ 256) (K : ∀ h' : Hp, lSt h' d m (k + 1) → Ev X (mi_L_law nm 10 600000 7302250) QL 191 14323 (h', z) 776 [.ref (xb X), .ref d, .ref m, .int (nI i)] []) : Ev X (mi_L_law nm 10 600000 7302250) QL 191 14323 (h, z) 265 [.ref (xb X), .ref d, .ref m, .int (nI i)] [] := by
  obtain ⟨cs, B, N, P, I, J, wn, op, n, tr, pc, pm, g⟩ := S
  obtain ⟨b9, gN, -⟩ := id g
  have h6 := b9.1
  have wN := gN.1.1
  have hd0 := pc.1
  unfold pDO at hd0
  obtain ⟨fm, hm0⟩ := pm.obj
  have b9g : wB (9 + k) B := ⟨b9.1, b9.2.1, b9.2.2.1, b9.2.2.2.1, b9.2.2.2.2.1, b9.2.2.2.2.2.1, fun x hx => Nat.le_trans (b9.2.2.2.2.2.2 x hx) (Nat.le_add_right _ _)⟩
  have gg : gT B (9 + k) N := ⟨gN.1.1, gN.1.2.1, by have := gN.1.2.2.1; omega, gN.1.2.2.2⟩
  by_cases hb : iTn (bT B) (xs X (i + 1)) = true
  by_cases hn : mayN B N (xs X (i + 1)).toInt.toNat = true
  · obtain ⟨c, hc, e0, e1⟩ := iTn_t hb
    rw [show (xs X (i + 1)).toInt.toNat = c by omega] at hn
    refine ev_aload_n (pc := 265) dL_law_265 rfl ?_
    refine ev_aload_n (pc := 266) dL_law_266 rfl ?_
    refine ev_iload_n (pc := 267) dL_law_267 rfl ?_
    refine ev_iconst (pc := 268) (v := nI 1) dL_law_268 kc_1 ?_
    refine ev_iadd (pc := 269) dL_law_269 ?_
    (try rw [nI_add])
    refine ev_sld (pc := 270) dL_law_270 (nI_toInt (by omega)) (by omega) ?_
    rw [e1]
    refine iv_L_36 (pc := 271) rfl dL_law_271 (by (try dsimp only); (repeat (first | rw [up_s] | rw [up_n (by omega)])) <;> first | rfl | assumption) (Nat.le_of_ble_eq_true rfl) (Nat.le_of_ble_eq_true rfl) (Nat.le_of_ble_eq_true rfl) (Nat.le_of_ble_eq_true rfl) (c_D_begins pc b9g gg hc hn) (ki (fun r S' hS => ?_))
    obtain ⟨h1, z1⟩ := S'
    obtain ⟨rfl, rfl, f1, p1⟩ := hS
    have pm1 := pm.fr (h' := h1) (fun q a b => f1 q (by omega))
    obtain ⟨fm1, hm1⟩ := pm1.obj
    refine ev_aload_n (pc := 274) dL_law_274 rfl ?_
    refine ev_aload_n (pc := 275) dL_law_275 rfl ?_
    refine ev_iload_n (pc := 276) dL_law_276 rfl ?_
    refine ev_iconst (pc := 277) (v := nI 1) dL_law_277 kc_1 ?_
    refine ev_iadd (pc := 278) dL_law_278 ?_
    (try rw [nI_add])
    refine ev_sld (pc := 279) dL_law_279 (nI_toInt (by omega)) (by omega) ?_
    rw [e1]
    refine iv_L_39 (pc := 280) rfl dL_law_280 (by (try dsimp only); (repeat (first | rw [up_s] | rw [up_n (by omega)])) <;> first | rfl | assumption) (Nat.le_of_ble_eq_true rfl) (Nat.le_of_ble_eq_true rfl) (Nat.le_of_ble_eq_true rfl) (Nat.le_of_ble_eq_true rfl) (c_M_begins pm1 b9g gg hc hn) (ki (fun r S' hS => ?_))
    obtain ⟨h2, z2⟩ := S'
    obtain ⟨rfl, rfl, f2, p2⟩ := hS
    refine ev_icmp_eq (pc := 283) 776 dL_law_283 (by decide) (fun c_283 => ?_) (fun c_283 => ?_)
    · (try simp (disch := omega) only [i32_lti, i32_lei, i32_eqi, nI_toInt, i32z] at c_283)
      exact K h2 ⟨cs, B, _, _, I, J, wn, op, n, tr, p1.fr (fun q a b => f2 q (by omega)), p2, g.rem (gN.beg h6 hc hn)⟩
    · exact absurd rfl c_283
  · obtain ⟨c, hc, e0, e1⟩ := iTn_t hb
    rw [show (xs X (i + 1)).toInt.toNat = c by omega] at hn
    refine ev_aload_n (pc := 265) dL_law_265 rfl ?_
    refine ev_aload_n (pc := 266) dL_law_266 rfl ?_
    refine ev_iload_n (pc := 267) dL_law_267 rfl ?_
    refine ev_iconst (pc := 268) (v := nI 1) dL_law_268 kc_1 ?_
    refine ev_iadd (pc := 269) dL_law_269 ?_
    (try rw [nI_add])
    refine ev_sld (pc := 270) dL_law_270 (nI_toInt (by omega)) (by omega) ?_
    rw [e1]
    refine iv_L_36 (pc := 271) rfl dL_law_271 (by (try dsimp only); (repeat (first | rw [up_s] | rw [up_n (by omega)])) <;> first | rfl | assumption) (Nat.le_of_ble_eq_true rfl) (Nat.le_of_ble_eq_true rfl) (Nat.le_of_ble_eq_true rfl) (Nat.le_of_ble_eq_true rfl) (c_D_begins_no pc b9g gg hc (by simpa using hn)) (kp ?_)
    refine ev_aload_n (pc := 274) dL_law_274 rfl ?_
    refine ev_aload_n (pc := 275) dL_law_275 rfl ?_
    refine ev_iload_n (pc := 276) dL_law_276 rfl ?_
    refine ev_iconst (pc := 277) (v := nI 1) dL_law_277 kc_1 ?_
    refine ev_iadd (pc := 278) dL_law_278 ?_
    (try rw [nI_add])
    refine ev_sld (pc := 279) dL_law_279 (nI_toInt (by omega)) (by omega) ?_
    rw [e1]
    refine iv_L_39 (pc := 280) rfl dL_law_280 (by (try dsimp only); (repeat (first | rw [up_s] | rw [up_n (by omega)])) <;> first | rfl | assumption) (Nat.le_of_ble_eq_true rfl) (Nat.le_of_ble_eq_true rfl) (Nat.le_of_ble_eq_true rfl) (Nat.le_of_ble_eq_true rfl) (c_M_begins_no pm b9 wN hc (by simpa using hn)) (kp ?_)
    refine ev_icmp_eq (pc := 283) 776 dL_law_283 (by decide) (fun c_283 => ?_) (fun c_283 => ?_)
    · (try simp (disch := omega) only [i32_lti, i32_lei, i32_eqi, nI_toInt, i32z] at c_283)
      exact K h ⟨cs, B, N, P, I, J, wn, op, n, tr, pc, pm, g.up⟩
    · exact absurd rfl c_283
  · skip
    refine ev_aload_n (pc := 265) dL_law_265 rfl ?_
    refine ev_aload_n (pc := 266) dL_law_266 rfl ?_
    refine ev_iload_n (pc := 267) dL_law_267 rfl ?_
    refine ev_iconst (pc := 268) (v := nI 1) dL_law_268 kc_1 ?_
    refine ev_iadd (pc := 269) dL_law_269 ?_
    (try rw [nI_add])
    refine ev_sld (pc := 270) dL_law_270 (nI_toInt (by omega)) (by omega) ?_
    refine iv_L_36 (pc := 271) rfl dL_law_271 (by (try dsimp only); (repeat (first | rw [up_s] | rw [up_n (by omega)])) <;> first | rfl | assumption) (Nat.le_of_ble_eq_true rfl) (Nat.le_of_ble_eq_true rfl) (Nat.le_of_ble_eq_true rfl) (Nat.le_of_ble_eq_true rfl) (c_D_begins_bad pc b9 (by simpa using hb)) (kp ?_)
    refine ev_aload_n (pc := 274) dL_law_274 rfl ?_
    refine ev_aload_n (pc := 275) dL_law_275 rfl ?_
    refine ev_iload_n (pc := 276) dL_law_276 rfl ?_
    refine ev_iconst (pc := 277) (v := nI 1) dL_law_277 kc_1 ?_
    refine ev_iadd (pc := 278) dL_law_278 ?_
    (try rw [nI_add])
    refine ev_sld (pc := 279) dL_law_279 (nI_toInt (by omega)) (by omega) ?_
    refine iv_L_39 (pc := 280) rfl dL_law_280 (by (try dsimp only); (repeat (first | rw [up_s] | rw [up_n (by omega)])) <;> first | rfl | assumption) (Nat.le_of_ble_eq_true rfl) (Nat.le_of_ble_eq_true rfl) (Nat.le_of_ble_eq_true rfl) (Nat.le_of_ble_eq_true rfl) (c_M_begins_bad pm b9 (by simpa using hb)) (kp ?_)
    refine ev_icmp_eq (pc := 283) 776 dL_law_283 (by decide) (fun c_283 => ?_) (fun c_283 => ?_)
    · (try simp (disch := omega) only [i32_lti, i32_lei, i32_eqi, nI_toInt, i32z] at c_283)
      exact K h ⟨cs, B, N, P, I, J, wn, op, n, tr, pc, pm, g.up⟩
    · exact absurd rfl c_283
theorem law_tells (S : lSt h d m k) (hk : k ≤ 64) (dm : d + 174 ≤ m) (hi : i + 4 ≤ xL X) (hL : xL X ≤ 256) (K : ∀ h' : Hp, lSt h' d m (k + 1) → Ev X (mi_L_law nm 10 600000 7302250) QL 191 14323 (h', z) 776 [.ref (xb X), .ref d, .ref m, .int (nI i)] []) : Ev X (mi_L_law nm 10 600000 7302250) QL 191 14323 (h, z) 288 [.ref (xb X), .ref d, .ref m, .int (nI i)] [] := by
  obtain ⟨cs, B, N, P, I, J, wn, op, n, tr, pc, pm, g⟩ := S
  obtain ⟨b9, gN, -⟩ := id g
  have h6 := b9.1
  have wN := gN.1.1
  have hd0 := pc.1
  unfold pDO at hd0
  obtain ⟨fm, hm0⟩ := pm.obj
  have b9g : wB (9 + k) B := ⟨b9.1, b9.2.1, b9.2.2.1, b9.2.2.2.1, b9.2.2.2.2.1, b9.2.2.2.2.2.1, fun x hx => Nat.le_trans (b9.2.2.2.2.2.2 x hx) (Nat.le_add_right _ _)⟩
  have gg : gT B (9 + k) N := ⟨gN.1.1, gN.1.2.1, by have := gN.1.2.2.1; omega, gN.1.2.2.2⟩
  by_cases hb : (tV N && decide (0 < tH N)) = true ∧ 0 < (tO N).length
  · skip
    refine ev_aload_n (pc := 288) dL_law_288 rfl ?_
    refine iv_L_40 (pc := 289) rfl dL_law_289 (by (try dsimp only); (repeat (first | rw [up_s] | rw [up_n (by omega)])) <;> first | rfl | assumption) (Nat.le_of_ble_eq_true rfl) (Nat.le_of_ble_eq_true rfl) (Nat.le_of_ble_eq_true rfl) (Nat.le_of_ble_eq_true rfl) (c_D_tells pc wN hb.1 hb.2) (ki (fun r S' hS => ?_))
    obtain ⟨h1, z1⟩ := S'
    obtain ⟨rfl, rfl, f1, p1⟩ := hS
    have pm1 := pm.fr (h' := h1) (fun q a b => f1 q (by omega))
    obtain ⟨fm1, hm1⟩ := pm1.obj
    refine ev_aload_n (pc := 292) dL_law_292 rfl ?_
    refine iv_L_43 (pc := 293) rfl dL_law_293 (by (try dsimp only); (repeat (first | rw [up_s] | rw [up_n (by omega)])) <;> first | rfl | assumption) (Nat.le_of_ble_eq_true rfl) (Nat.le_of_ble_eq_true rfl) (Nat.le_of_ble_eq_true rfl) (Nat.le_of_ble_eq_true rfl) (c_M_tells pm1 wN hb.1 hb.2) (ki (fun r S' hS => ?_))
    obtain ⟨h2, z2⟩ := S'
    obtain ⟨rfl, rfl, f2, p2⟩ := hS
    refine ev_icmp_eq (pc := 296) 776 dL_law_296 (by decide) (fun c_296 => ?_) (fun c_296 => ?_)
    · (try simp (disch := omega) only [i32_lti, i32_lei, i32_eqi, nI_toInt, i32z] at c_296)
      exact K h2 ⟨cs, B, _, _, I, J, wn, op, n, tr, p1.fr (fun q a b => f2 q (by omega)), p2, g.rem gN.tl⟩
    · exact absurd rfl c_296
  · skip
    refine ev_aload_n (pc := 288) dL_law_288 rfl ?_
    refine iv_L_40 (pc := 289) rfl dL_law_289 (by (try dsimp only); (repeat (first | rw [up_s] | rw [up_n (by omega)])) <;> first | rfl | assumption) (Nat.le_of_ble_eq_true rfl) (Nat.le_of_ble_eq_true rfl) (Nat.le_of_ble_eq_true rfl) (Nat.le_of_ble_eq_true rfl) (c_D_tells_no pc wN hb) (kp ?_)
    refine ev_aload_n (pc := 292) dL_law_292 rfl ?_
    refine iv_L_43 (pc := 293) rfl dL_law_293 (by (try dsimp only); (repeat (first | rw [up_s] | rw [up_n (by omega)])) <;> first | rfl | assumption) (Nat.le_of_ble_eq_true rfl) (Nat.le_of_ble_eq_true rfl) (Nat.le_of_ble_eq_true rfl) (Nat.le_of_ble_eq_true rfl) (c_M_tells_no pm wN hb) (kp ?_)
    refine ev_icmp_eq (pc := 296) 776 dL_law_296 (by decide) (fun c_296 => ?_) (fun c_296 => ?_)
    · (try simp (disch := omega) only [i32_lti, i32_lei, i32_eqi, nI_toInt, i32z] at c_296)
      exact K h ⟨cs, B, N, P, I, J, wn, op, n, tr, pc, pm, g.up⟩
    · exact absurd rfl c_296
theorem law_silent (S : lSt h d m k) (hk : k ≤ 64) (dm : d + 174 ≤ m) (hi : i + 4 ≤ xL X) (hL : xL X ≤ 256) (K : ∀ h' : Hp, lSt h' d m (k + 1) → Ev X (mi_L_law nm 10 600000 7302250) QL 191 14323 (h', z) 776 [.ref (xb X), .ref d, .ref m, .int (nI i)] []) : Ev X (mi_L_law nm 10 600000 7302250) QL 191 14323 (h, z) 301 [.ref (xb X), .ref d, .ref m, .int (nI i)] [] := by
  obtain ⟨cs, B, N, P, I, J, wn, op, n, tr, pc, pm, g⟩ := S
  obtain ⟨b9, gN, -⟩ := id g
  have h6 := b9.1
  have wN := gN.1.1
  have hd0 := pc.1
  unfold pDO at hd0
  obtain ⟨fm, hm0⟩ := pm.obj
  have b9g : wB (9 + k) B := ⟨b9.1, b9.2.1, b9.2.2.1, b9.2.2.2.1, b9.2.2.2.2.1, b9.2.2.2.2.2.1, fun x hx => Nat.le_trans (b9.2.2.2.2.2.2 x hx) (Nat.le_add_right _ _)⟩
  have gg : gT B (9 + k) N := ⟨gN.1.1, gN.1.2.1, by have := gN.1.2.2.1; omega, gN.1.2.2.2⟩
  by_cases hb : (tV N && decide (0 < tH N)) = true
  · skip
    refine ev_aload_n (pc := 301) dL_law_301 rfl ?_
    refine iv_L_44 (pc := 302) rfl dL_law_302 (by (try dsimp only); (repeat (first | rw [up_s] | rw [up_n (by omega)])) <;> first | rfl | assumption) (Nat.le_of_ble_eq_true rfl) (Nat.le_of_ble_eq_true rfl) (Nat.le_of_ble_eq_true rfl) (Nat.le_of_ble_eq_true rfl) (c_D_silent pc wN hb) (ki (fun r S' hS => ?_))
    obtain ⟨h1, z1⟩ := S'
    obtain ⟨rfl, rfl, f1, p1⟩ := hS
    have pm1 := pm.fr (h' := h1) (fun q a b => f1 q (by omega))
    obtain ⟨fm1, hm1⟩ := pm1.obj
    refine ev_aload_n (pc := 305) dL_law_305 rfl ?_
    refine iv_L_47 (pc := 306) rfl dL_law_306 (by (try dsimp only); (repeat (first | rw [up_s] | rw [up_n (by omega)])) <;> first | rfl | assumption) (Nat.le_of_ble_eq_true rfl) (Nat.le_of_ble_eq_true rfl) (Nat.le_of_ble_eq_true rfl) (Nat.le_of_ble_eq_true rfl) (c_M_silent pm1 wN hb) (ki (fun r S' hS => ?_))
    obtain ⟨h2, z2⟩ := S'
    obtain ⟨rfl, rfl, f2, p2⟩ := hS
    refine ev_icmp_eq (pc := 309) 776 dL_law_309 (by decide) (fun c_309 => ?_) (fun c_309 => ?_)
    · (try simp (disch := omega) only [i32_lti, i32_lei, i32_eqi, nI_toInt, i32z] at c_309)
      exact K h2 ⟨cs, B, _, _, I, J, wn, op, n, tr, p1.fr (fun q a b => f2 q (by omega)), p2, g.rem gN.si⟩
    · exact absurd rfl c_309
  · skip
    refine ev_aload_n (pc := 301) dL_law_301 rfl ?_
    refine iv_L_44 (pc := 302) rfl dL_law_302 (by (try dsimp only); (repeat (first | rw [up_s] | rw [up_n (by omega)])) <;> first | rfl | assumption) (Nat.le_of_ble_eq_true rfl) (Nat.le_of_ble_eq_true rfl) (Nat.le_of_ble_eq_true rfl) (Nat.le_of_ble_eq_true rfl) (c_D_silent_no pc wN (by simpa using hb)) (kp ?_)
    refine ev_aload_n (pc := 305) dL_law_305 rfl ?_
    refine iv_L_47 (pc := 306) rfl dL_law_306 (by (try dsimp only); (repeat (first | rw [up_s] | rw [up_n (by omega)])) <;> first | rfl | assumption) (Nat.le_of_ble_eq_true rfl) (Nat.le_of_ble_eq_true rfl) (Nat.le_of_ble_eq_true rfl) (Nat.le_of_ble_eq_true rfl) (c_M_silent_no pm wN (by simpa using hb)) (kp ?_)
    refine ev_icmp_eq (pc := 309) 776 dL_law_309 (by decide) (fun c_309 => ?_) (fun c_309 => ?_)
    · (try simp (disch := omega) only [i32_lti, i32_lei, i32_eqi, nI_toInt, i32z] at c_309)
      exact K h ⟨cs, B, N, P, I, J, wn, op, n, tr, pc, pm, g.up⟩
    · exact absurd rfl c_309
theorem law_dawn (S : lSt h d m k) (hk : k ≤ 64) (dm : d + 174 ≤ m) (hi : i + 4 ≤ xL X) (hL : xL X ≤ 256) (K : ∀ h' : Hp, lSt h' d m (k + 1) → Ev X (mi_L_law nm 10 600000 7302250) QL 191 14323 (h', z) 776 [.ref (xb X), .ref d, .ref m, .int (nI i)] []) : Ev X (mi_L_law nm 10 600000 7302250) QL 191 14323 (h, z) 314 [.ref (xb X), .ref d, .ref m, .int (nI i)] [] := by
  obtain ⟨cs, B, N, P, I, J, wn, op, n, tr, pc, pm, g⟩ := S
  obtain ⟨b9, gN, -⟩ := id g
  have h6 := b9.1
  have wN := gN.1.1
  have hd0 := pc.1
  unfold pDO at hd0
  obtain ⟨fm, hm0⟩ := pm.obj
  have b9g : wB (9 + k) B := ⟨b9.1, b9.2.1, b9.2.2.1, b9.2.2.2.1, b9.2.2.2.2.1, b9.2.2.2.2.2.1, fun x hx => Nat.le_trans (b9.2.2.2.2.2.2 x hx) (Nat.le_add_right _ _)⟩
  have gg : gT B (9 + k) N := ⟨gN.1.1, gN.1.2.1, by have := gN.1.2.2.1; omega, gN.1.2.2.2⟩
  have n64 := gN.1.2.2.1
  by_cases hb : (tV N && (decide (tH N = 0) && decide (tN N < 99))) = true
  · skip
    refine ev_aload_n (pc := 314) dL_law_314 rfl ?_
    refine iv_L_48 (pc := 315) rfl dL_law_315 (by (try dsimp only); (repeat (first | rw [up_s] | rw [up_n (by omega)])) <;> first | rfl | assumption) (Nat.le_of_ble_eq_true rfl) (Nat.le_of_ble_eq_true rfl) (Nat.le_of_ble_eq_true rfl) (Nat.le_of_ble_eq_true rfl) (c_D_dawn pc b9 wN hb) (ki (fun r S' hS => ?_))
    obtain ⟨h1, z1⟩ := S'
    obtain ⟨rfl, rfl, f1, p1⟩ := hS
    have pm1 := pm.fr (h' := h1) (fun q a b => f1 q (by omega))
    obtain ⟨fm1, hm1⟩ := pm1.obj
    refine ev_aload_n (pc := 318) dL_law_318 rfl ?_
    refine iv_L_51 (pc := 319) rfl dL_law_319 (by (try dsimp only); (repeat (first | rw [up_s] | rw [up_n (by omega)])) <;> first | rfl | assumption) (Nat.le_of_ble_eq_true rfl) (Nat.le_of_ble_eq_true rfl) (Nat.le_of_ble_eq_true rfl) (Nat.le_of_ble_eq_true rfl) (c_M_dawn pm1 b9 wN hb) (ki (fun r S' hS => ?_))
    obtain ⟨h2, z2⟩ := S'
    obtain ⟨rfl, rfl, f2, p2⟩ := hS
    refine ev_icmp_eq (pc := 322) 776 dL_law_322 (by decide) (fun c_322 => ?_) (fun c_322 => ?_)
    · (try simp (disch := omega) only [i32_lti, i32_lei, i32_eqi, nI_toInt, i32z] at c_322)
      exact K h2 ⟨cs, B, _, _, I, J, wn, op, n, tr, p1.fr (fun q a b => f2 q (by omega)), p2, g.rem (gN.dawn b9 hk)⟩
    · exact absurd rfl c_322
  · skip
    refine ev_aload_n (pc := 314) dL_law_314 rfl ?_
    refine iv_L_48 (pc := 315) rfl dL_law_315 (by (try dsimp only); (repeat (first | rw [up_s] | rw [up_n (by omega)])) <;> first | rfl | assumption) (Nat.le_of_ble_eq_true rfl) (Nat.le_of_ble_eq_true rfl) (Nat.le_of_ble_eq_true rfl) (Nat.le_of_ble_eq_true rfl) (c_D_dawn_no pc wN (Bool.eq_false_iff.mpr hb)) (kp ?_)
    refine ev_aload_n (pc := 318) dL_law_318 rfl ?_
    refine iv_L_51 (pc := 319) rfl dL_law_319 (by (try dsimp only); (repeat (first | rw [up_s] | rw [up_n (by omega)])) <;> first | rfl | assumption) (Nat.le_of_ble_eq_true rfl) (Nat.le_of_ble_eq_true rfl) (Nat.le_of_ble_eq_true rfl) (Nat.le_of_ble_eq_true rfl) (c_M_dawn_no pm wN (by omega) (Bool.eq_false_iff.mpr hb)) (kp ?_)
    refine ev_icmp_eq (pc := 322) 776 dL_law_322 (by decide) (fun c_322 => ?_) (fun c_322 => ?_)
    · (try simp (disch := omega) only [i32_lti, i32_lei, i32_eqi, nI_toInt, i32z] at c_322)
      exact K h ⟨cs, B, N, P, I, J, wn, op, n, tr, pc, pm, g.up⟩
    · exact absurd rfl c_322
theorem law_undo (S : lSt h d m k) (hk : k ≤ 64) (dm : d + 174 ≤ m) (hi : i + 4 ≤ xL X) (hL : xL X ≤ 256) (K : ∀ h' : Hp, lSt h' d m (k + 1) → Ev X (mi_L_law nm 10 600000 7302250) QL 191 14323 (h', z) 776 [.ref (xb X), .ref d, .ref m, .int (nI i)] []) : Ev X (mi_L_law nm 10 600000 7302250) QL 191 14323 (h, z) 327 [.ref (xb X), .ref d, .ref m, .int (nI i)] [] := by
  obtain ⟨cs, B, N, P, I, J, wn, op, n, tr, pc, pm, g⟩ := S
  obtain ⟨b9, gN, -⟩ := id g
  have h6 := b9.1
  have wN := gN.1.1
  have hd0 := pc.1
  unfold pDO at hd0
  obtain ⟨fm, hm0⟩ := pm.obj
  have b9g : wB (9 + k) B := ⟨b9.1, b9.2.1, b9.2.2.1, b9.2.2.2.1, b9.2.2.2.2.1, b9.2.2.2.2.2.1, fun x hx => Nat.le_trans (b9.2.2.2.2.2.2 x hx) (Nat.le_add_right _ _)⟩
  have gg : gT B (9 + k) N := ⟨gN.1.1, gN.1.2.1, by have := gN.1.2.2.1; omega, gN.1.2.2.2⟩
  refine ev_aload_n (pc := 327) dL_law_327 rfl ?_
  refine iv_L_52 (pc := 328) rfl dL_law_328 (by (try dsimp only); (repeat (first | rw [up_s] | rw [up_n (by omega)])) <;> first | rfl | assumption) (Nat.le_of_ble_eq_true rfl) (Nat.le_of_ble_eq_true rfl) (Nat.le_of_ble_eq_true rfl) (Nat.le_of_ble_eq_true rfl) (c_D_undo pc) (ki (fun r S' hS => ?_))
  obtain ⟨h1, z1⟩ := S'
  obtain ⟨rfl, rfl, f1, p1⟩ := hS
  have pm1 := pm.fr (h' := h1) (fun q a b => f1 q (by omega))
  obtain ⟨fm1, hm1⟩ := pm1.obj
  refine ev_aload_n (pc := 331) dL_law_331 rfl ?_
  refine iv_L_55 (pc := 332) rfl dL_law_332 (by (try dsimp only); (repeat (first | rw [up_s] | rw [up_n (by omega)])) <;> first | rfl | assumption) (Nat.le_of_ble_eq_true rfl) (Nat.le_of_ble_eq_true rfl) (Nat.le_of_ble_eq_true rfl) (Nat.le_of_ble_eq_true rfl) (c_M_undo pm1) (ki (fun r S' hS => ?_))
  obtain ⟨h2, z2⟩ := S'
  obtain ⟨rfl, rfl, f2, p2⟩ := hS
  refine ev_icmp_eq (pc := 335) 776 dL_law_335 (by decide) (fun c_335 => ?_) (fun c_335 => ?_)
  · (try simp (disch := omega) only [i32_lti, i32_lei, i32_eqi, nI_toInt, i32z] at c_335)
    exact K h2 ⟨cs, B, _, _, I, J, wn, op, n, tr, p1.fr (fun q a b => f2 q (by omega)), p2, g.undo⟩
  · exact absurd rfl c_335
theorem law_now (S : lSt h d m k) (hk : k ≤ 64) (dm : d + 174 ≤ m) (hi : i + 4 ≤ xL X) (hL : xL X ≤ 256) (K : ∀ h' : Hp, lSt h' d m (k + 1) → Ev X (mi_L_law nm 10 600000 7302250) QL 191 14323 (h', z) 776 [.ref (xb X), .ref d, .ref m, .int (nI i)] []) : Ev X (mi_L_law nm 10 600000 7302250) QL 191 14323 (h, z) 340 [.ref (xb X), .ref d, .ref m, .int (nI i)] [] := by
  obtain ⟨cs, B, N, P, I, J, wn, op, n, tr, pc, pm, g⟩ := S
  obtain ⟨b9, gN, -⟩ := id g
  have h6 := b9.1
  have wN := gN.1.1
  have hd0 := pc.1
  unfold pDO at hd0
  obtain ⟨fm, hm0⟩ := pm.obj
  have b9g : wB (9 + k) B := ⟨b9.1, b9.2.1, b9.2.2.1, b9.2.2.2.1, b9.2.2.2.2.1, b9.2.2.2.2.2.1, fun x hx => Nat.le_trans (b9.2.2.2.2.2.2 x hx) (Nat.le_add_right _ _)⟩
  have gg : gT B (9 + k) N := ⟨gN.1.1, gN.1.2.1, by have := gN.1.2.2.1; omega, gN.1.2.2.2⟩
  refine ev_aload_n (pc := 340) dL_law_340 rfl ?_
  refine ev_aload_n (pc := 341) dL_law_341 rfl ?_
  refine ev_iload_n (pc := 342) dL_law_342 rfl ?_
  refine ev_iconst (pc := 343) (v := nI 1) dL_law_343 kc_1 ?_
  refine ev_iadd (pc := 344) dL_law_344 ?_
  (try rw [nI_add])
  refine ev_sld (pc := 345) dL_law_345 (nI_toInt (by omega)) (by omega) ?_
  refine iv_L_56 (pc := 346) rfl dL_law_346 (by (try dsimp only); (repeat (first | rw [up_s] | rw [up_n (by omega)])) <;> first | rfl | assumption) (Nat.le_of_ble_eq_true rfl) (Nat.le_of_ble_eq_true rfl) (Nat.le_of_ble_eq_true rfl) (Nat.le_of_ble_eq_true rfl) (c_D_now pc b9 wN _) (kp ?_)
  refine ev_aload_n (pc := 349) dL_law_349 rfl ?_
  refine ev_aload_n (pc := 350) dL_law_350 rfl ?_
  refine ev_iload_n (pc := 351) dL_law_351 rfl ?_
  refine ev_iconst (pc := 352) (v := nI 1) dL_law_352 kc_1 ?_
  refine ev_iadd (pc := 353) dL_law_353 ?_
  (try rw [nI_add])
  refine ev_sld (pc := 354) dL_law_354 (nI_toInt (by omega)) (by omega) ?_
  refine iv_L_59 (pc := 355) rfl dL_law_355 (by (try dsimp only); (repeat (first | rw [up_s] | rw [up_n (by omega)])) <;> first | rfl | assumption) (Nat.le_of_ble_eq_true rfl) (Nat.le_of_ble_eq_true rfl) (Nat.le_of_ble_eq_true rfl) (Nat.le_of_ble_eq_true rfl) (c_M_now pm b9g gg _) (kp ?_)
  refine ev_icmp_eq (pc := 358) 776 dL_law_358 (by decide) (fun c_358 => ?_) (fun c_358 => ?_)
  · (try simp (disch := omega) only [i32_lti, i32_lei, i32_eqi, nI_toInt, i32z] at c_358)
    exact K h ⟨cs, B, N, P, I, J, wn, op, n, tr, pc, pm, g.up⟩
  · exact absurd rfl c_358
theorem law_on (S : lSt h d m k) (hk : k ≤ 64) (dm : d + 174 ≤ m) (hi : i + 4 ≤ xL X) (hL : xL X ≤ 256) (K : ∀ h' : Hp, lSt h' d m (k + 1) → Ev X (mi_L_law nm 10 600000 7302250) QL 191 14323 (h', z) 776 [.ref (xb X), .ref d, .ref m, .int (nI i)] []) : Ev X (mi_L_law nm 10 600000 7302250) QL 191 14323 (h, z) 363 [.ref (xb X), .ref d, .ref m, .int (nI i)] [] := by
  obtain ⟨cs, B, N, P, I, J, wn, op, n, tr, pc, pm, g⟩ := S
  obtain ⟨b9, gN, -⟩ := id g
  have h6 := b9.1
  have wN := gN.1.1
  have hd0 := pc.1
  unfold pDO at hd0
  obtain ⟨fm, hm0⟩ := pm.obj
  have b9g : wB (9 + k) B := ⟨b9.1, b9.2.1, b9.2.2.1, b9.2.2.2.1, b9.2.2.2.2.1, b9.2.2.2.2.2.1, fun x hx => Nat.le_trans (b9.2.2.2.2.2.2 x hx) (Nat.le_add_right _ _)⟩
  have gg : gT B (9 + k) N := ⟨gN.1.1, gN.1.2.1, by have := gN.1.2.2.1; omega, gN.1.2.2.2⟩
  have n64 := gN.1.2.2.1
  have h9 := gN.2
  · skip
    refine ev_aload_n (pc := 363) dL_law_363 rfl ?_
    refine iv_L_60 (pc := 364) rfl dL_law_364 (by (try dsimp only); (repeat (first | rw [up_s] | rw [up_n (by omega)])) <;> first | rfl | assumption) (Nat.le_of_ble_eq_true rfl) (Nat.le_of_ble_eq_true rfl) (Nat.le_of_ble_eq_true rfl) (Nat.le_of_ble_eq_true rfl) (c_D_on pc b9 (by omega) wN (by omega)) (ki (fun r S' hS => ?_))
    obtain ⟨h1, z1⟩ := S'
    obtain ⟨rfl, rfl, f1, p1⟩ := hS
    have pm1 := pm.fr (h' := h1) (fun q a b => f1 q (by omega))
    obtain ⟨fm1, hm1⟩ := pm1.obj
    refine ev_aload_n (pc := 367) dL_law_367 rfl ?_
    refine iv_L_63 (pc := 368) rfl dL_law_368 (by (try dsimp only); (repeat (first | rw [up_s] | rw [up_n (by omega)])) <;> first | rfl | assumption) (Nat.le_of_ble_eq_true rfl) (Nat.le_of_ble_eq_true rfl) (Nat.le_of_ble_eq_true rfl) (Nat.le_of_ble_eq_true rfl) (c_M_on pm1 b9 (by omega) wN (by omega) (by omega)) (ki (fun r S' hS => ?_))
    obtain ⟨h2, z2⟩ := S'
    obtain ⟨rfl, rfl, f2, p2⟩ := hS
    refine ev_icmp_eq (pc := 371) 776 dL_law_371 (by decide) (fun c_371 => ?_) (fun c_371 => ?_)
    · (try simp (disch := omega) only [i32_lti, i32_lei, i32_eqi, nI_toInt, i32z] at c_371)
      exact K h2 ⟨cs, B, N, P, I, J, wn, op, n, tr, p1.fr (fun q a b => f2 q (by omega)), p2, g.up⟩
    · exact absurd rfl c_371
theorem law_by (S : lSt h d m k) (hk : k ≤ 64) (dm : d + 174 ≤ m) (hi : i + 4 ≤ xL X) (hL : xL X ≤ 256) (K : ∀ h' : Hp, lSt h' d m (k + 1) → Ev X (mi_L_law nm 10 600000 7302250) QL 191 14323 (h', z) 776 [.ref (xb X), .ref d, .ref m, .int (nI i)] []) : Ev X (mi_L_law nm 10 600000 7302250) QL 191 14323 (h, z) 376 [.ref (xb X), .ref d, .ref m, .int (nI i)] [] := by
  obtain ⟨cs, B, N, P, I, J, wn, op, n, tr, pc, pm, g⟩ := S
  obtain ⟨b9, gN, -⟩ := id g
  have h6 := b9.1
  have wN := gN.1.1
  have hd0 := pc.1
  unfold pDO at hd0
  obtain ⟨fm, hm0⟩ := pm.obj
  have b9g : wB (9 + k) B := ⟨b9.1, b9.2.1, b9.2.2.1, b9.2.2.2.1, b9.2.2.2.2.1, b9.2.2.2.2.2.1, fun x hx => Nat.le_trans (b9.2.2.2.2.2.2 x hx) (Nat.le_add_right _ _)⟩
  have gg : gT B (9 + k) N := ⟨gN.1.1, gN.1.2.1, by have := gN.1.2.2.1; omega, gN.1.2.2.2⟩
  refine ev_aload_n (pc := 376) dL_law_376 rfl ?_
  refine ev_aload_n (pc := 377) dL_law_377 rfl ?_
  refine ev_iload_n (pc := 378) dL_law_378 rfl ?_
  refine ev_iconst (pc := 379) (v := nI 1) dL_law_379 kc_1 ?_
  refine ev_iadd (pc := 380) dL_law_380 ?_
  (try rw [nI_add])
  refine ev_sld (pc := 381) dL_law_381 (nI_toInt (by omega)) (by omega) ?_
  refine iv_L_64 (pc := 382) rfl dL_law_382 (by (try dsimp only); (repeat (first | rw [up_s] | rw [up_n (by omega)])) <;> first | rfl | assumption) (Nat.le_of_ble_eq_true rfl) (Nat.le_of_ble_eq_true rfl) (Nat.le_of_ble_eq_true rfl) (Nat.le_of_ble_eq_true rfl) (c_D_by pc b9 (by omega) _) (ki (fun r S' hS => ?_))
  obtain ⟨h1, z1⟩ := S'
  obtain ⟨rfl, rfl, f1, p1⟩ := hS
  have pm1 := pm.fr (h' := h1) (fun q a b => f1 q (by omega))
  obtain ⟨fm1, hm1⟩ := pm1.obj
  refine ev_aload_n (pc := 385) dL_law_385 rfl ?_
  refine ev_aload_n (pc := 386) dL_law_386 rfl ?_
  refine ev_iload_n (pc := 387) dL_law_387 rfl ?_
  refine ev_iconst (pc := 388) (v := nI 1) dL_law_388 kc_1 ?_
  refine ev_iadd (pc := 389) dL_law_389 ?_
  (try rw [nI_add])
  refine ev_sld (pc := 390) dL_law_390 (nI_toInt (by omega)) (by omega) ?_
  refine iv_L_67 (pc := 391) rfl dL_law_391 (by (try dsimp only); (repeat (first | rw [up_s] | rw [up_n (by omega)])) <;> first | rfl | assumption) (Nat.le_of_ble_eq_true rfl) (Nat.le_of_ble_eq_true rfl) (Nat.le_of_ble_eq_true rfl) (Nat.le_of_ble_eq_true rfl) (c_M_by pm1 b9 (by omega) _) (ki (fun r S' hS => ?_))
  obtain ⟨h2, z2⟩ := S'
  obtain ⟨rfl, rfl, f2, p2⟩ := hS
  refine ev_icmp_eq (pc := 394) 776 dL_law_394 (by decide) (fun c_394 => ?_) (fun c_394 => ?_)
  · (try simp (disch := omega) only [i32_lti, i32_lei, i32_eqi, nI_toInt, i32z] at c_394)
    exact K h2 ⟨cs, B, N, P, I, J, wn, op, n, tr, p1.fr (fun q a b => f2 q (by omega)), p2, g.up⟩
  · exact absurd rfl c_394
theorem law_best (S : lSt h d m k) (hk : k ≤ 64) (dm : d + 174 ≤ m) (hi : i + 4 ≤ xL X) (hL : xL X ≤ 256) (K : ∀ h' : Hp, lSt h' d m (k + 1) → Ev X (mi_L_law nm 10 600000 7302250) QL 191 14323 (h', z) 776 [.ref (xb X), .ref d, .ref m, .int (nI i)] []) : Ev X (mi_L_law nm 10 600000 7302250) QL 191 14323 (h, z) 399 [.ref (xb X), .ref d, .ref m, .int (nI i)] [] := by
  obtain ⟨cs, B, N, P, I, J, wn, op, n, tr, pc, pm, g⟩ := S
  obtain ⟨b9, gN, -⟩ := id g
  have h6 := b9.1
  have wN := gN.1.1
  have hd0 := pc.1
  unfold pDO at hd0
  obtain ⟨fm, hm0⟩ := pm.obj
  have b9g : wB (9 + k) B := ⟨b9.1, b9.2.1, b9.2.2.1, b9.2.2.2.1, b9.2.2.2.2.1, b9.2.2.2.2.2.1, fun x hx => Nat.le_trans (b9.2.2.2.2.2.2 x hx) (Nat.le_add_right _ _)⟩
  have gg : gT B (9 + k) N := ⟨gN.1.1, gN.1.2.1, by have := gN.1.2.2.1; omega, gN.1.2.2.2⟩
  by_cases hb : ((xs X (i + 1)).toInt = 0 ∨ (xs X (i + 1)).toInt = 1)
  · skip
    refine ev_aload_n (pc := 399) dL_law_399 rfl ?_
    refine ev_aload_n (pc := 400) dL_law_400 rfl ?_
    refine ev_iload_n (pc := 401) dL_law_401 rfl ?_
    refine ev_iconst (pc := 402) (v := nI 1) dL_law_402 kc_1 ?_
    refine ev_iadd (pc := 403) dL_law_403 ?_
    (try rw [nI_add])
    refine ev_sld (pc := 404) dL_law_404 (nI_toInt (by omega)) (by omega) ?_
    refine iv_L_68 (pc := 405) rfl dL_law_405 (by (try dsimp only); (repeat (first | rw [up_s] | rw [up_n (by omega)])) <;> first | rfl | assumption) (Nat.le_of_ble_eq_true rfl) (Nat.le_of_ble_eq_true rfl) (Nat.le_of_ble_eq_true rfl) (Nat.le_of_ble_eq_true rfl) (c_D_best pc b9 (by omega) hb) (ki (fun r S' hS => ?_))
    obtain ⟨h1, z1⟩ := S'
    obtain ⟨rfl, rfl, f1, p1⟩ := hS
    have pm1 := pm.fr (h' := h1) (fun q a b => f1 q (by omega))
    obtain ⟨fm1, hm1⟩ := pm1.obj
    refine ev_aload_n (pc := 408) dL_law_408 rfl ?_
    refine ev_aload_n (pc := 409) dL_law_409 rfl ?_
    refine ev_iload_n (pc := 410) dL_law_410 rfl ?_
    refine ev_iconst (pc := 411) (v := nI 1) dL_law_411 kc_1 ?_
    refine ev_iadd (pc := 412) dL_law_412 ?_
    (try rw [nI_add])
    refine ev_sld (pc := 413) dL_law_413 (nI_toInt (by omega)) (by omega) ?_
    refine iv_L_71 (pc := 414) rfl dL_law_414 (by (try dsimp only); (repeat (first | rw [up_s] | rw [up_n (by omega)])) <;> first | rfl | assumption) (Nat.le_of_ble_eq_true rfl) (Nat.le_of_ble_eq_true rfl) (Nat.le_of_ble_eq_true rfl) (Nat.le_of_ble_eq_true rfl) (c_M_best pm1 b9 (by omega) hb) (ki (fun r S' hS => ?_))
    obtain ⟨h2, z2⟩ := S'
    obtain ⟨rfl, rfl, f2, p2⟩ := hS
    refine ev_icmp_eq (pc := 417) 776 dL_law_417 (by decide) (fun c_417 => ?_) (fun c_417 => ?_)
    · (try simp (disch := omega) only [i32_lti, i32_lei, i32_eqi, nI_toInt, i32z] at c_417)
      exact K h2 ⟨cs, B, N, P, I, J, wn, op, n, tr, p1.fr (fun q a b => f2 q (by omega)), p2, g.up⟩
    · exact absurd rfl c_417
  · skip
    refine ev_aload_n (pc := 399) dL_law_399 rfl ?_
    refine ev_aload_n (pc := 400) dL_law_400 rfl ?_
    refine ev_iload_n (pc := 401) dL_law_401 rfl ?_
    refine ev_iconst (pc := 402) (v := nI 1) dL_law_402 kc_1 ?_
    refine ev_iadd (pc := 403) dL_law_403 ?_
    (try rw [nI_add])
    refine ev_sld (pc := 404) dL_law_404 (nI_toInt (by omega)) (by omega) ?_
    refine iv_L_68 (pc := 405) rfl dL_law_405 (by (try dsimp only); (repeat (first | rw [up_s] | rw [up_n (by omega)])) <;> first | rfl | assumption) (Nat.le_of_ble_eq_true rfl) (Nat.le_of_ble_eq_true rfl) (Nat.le_of_ble_eq_true rfl) (Nat.le_of_ble_eq_true rfl) (c_D_best_bad hb) (kp ?_)
    refine ev_aload_n (pc := 408) dL_law_408 rfl ?_
    refine ev_aload_n (pc := 409) dL_law_409 rfl ?_
    refine ev_iload_n (pc := 410) dL_law_410 rfl ?_
    refine ev_iconst (pc := 411) (v := nI 1) dL_law_411 kc_1 ?_
    refine ev_iadd (pc := 412) dL_law_412 ?_
    (try rw [nI_add])
    refine ev_sld (pc := 413) dL_law_413 (nI_toInt (by omega)) (by omega) ?_
    refine iv_L_71 (pc := 414) rfl dL_law_414 (by (try dsimp only); (repeat (first | rw [up_s] | rw [up_n (by omega)])) <;> first | rfl | assumption) (Nat.le_of_ble_eq_true rfl) (Nat.le_of_ble_eq_true rfl) (Nat.le_of_ble_eq_true rfl) (Nat.le_of_ble_eq_true rfl) (c_M_best_bad hb) (kp ?_)
    refine ev_icmp_eq (pc := 417) 776 dL_law_417 (by decide) (fun c_417 => ?_) (fun c_417 => ?_)
    · (try simp (disch := omega) only [i32_lti, i32_lei, i32_eqi, nI_toInt, i32z] at c_417)
      exact K h ⟨cs, B, N, P, I, J, wn, op, n, tr, pc, pm, g.up⟩
    · exact absurd rfl c_417
theorem law_fewest (S : lSt h d m k) (hk : k ≤ 64) (dm : d + 174 ≤ m) (hi : i + 4 ≤ xL X) (hL : xL X ≤ 256) (K : ∀ h' : Hp, lSt h' d m (k + 1) → Ev X (mi_L_law nm 10 600000 7302250) QL 191 14323 (h', z) 776 [.ref (xb X), .ref d, .ref m, .int (nI i)] []) : Ev X (mi_L_law nm 10 600000 7302250) QL 191 14323 (h, z) 422 [.ref (xb X), .ref d, .ref m, .int (nI i)] [] := by
  obtain ⟨cs, B, N, P, I, J, wn, op, n, tr, pc, pm, g⟩ := S
  obtain ⟨b9, gN, -⟩ := id g
  have h6 := b9.1
  have wN := gN.1.1
  have hd0 := pc.1
  unfold pDO at hd0
  obtain ⟨fm, hm0⟩ := pm.obj
  have b9g : wB (9 + k) B := ⟨b9.1, b9.2.1, b9.2.2.1, b9.2.2.2.1, b9.2.2.2.2.1, b9.2.2.2.2.2.1, fun x hx => Nat.le_trans (b9.2.2.2.2.2.2 x hx) (Nat.le_add_right _ _)⟩
  have gg : gT B (9 + k) N := ⟨gN.1.1, gN.1.2.1, by have := gN.1.2.2.1; omega, gN.1.2.2.2⟩
  by_cases hb : (0 ≤ (xs X (i + 1)).toInt ∧ (xs X (i + 1)).toInt ≤ ((30 : Nat) : Int)) ∧ ((xs X (i + 2)).toInt = 0 ∨ (xs X (i + 2)).toInt = 1)
  · obtain ⟨c, hc, e1⟩ := iNb hb.1
    refine ev_aload_n (pc := 422) dL_law_422 rfl ?_
    refine ev_aload_n (pc := 423) dL_law_423 rfl ?_
    refine ev_iload_n (pc := 424) dL_law_424 rfl ?_
    refine ev_iconst (pc := 425) (v := nI 1) dL_law_425 kc_1 ?_
    refine ev_iadd (pc := 426) dL_law_426 ?_
    (try rw [nI_add])
    refine ev_sld (pc := 427) dL_law_427 (nI_toInt (by omega)) (by omega) ?_
    rw [e1]
    refine ev_aload_n (pc := 428) dL_law_428 rfl ?_
    refine ev_iload_n (pc := 429) dL_law_429 rfl ?_
    refine ev_iconst (pc := 430) (v := nI 2) dL_law_430 kc_2 ?_
    refine ev_iadd (pc := 431) dL_law_431 ?_
    (try rw [nI_add])
    refine ev_sld (pc := 432) dL_law_432 (nI_toInt (by omega)) (by omega) ?_
    refine iv_L_72 (pc := 433) rfl dL_law_433 (by (try dsimp only); (repeat (first | rw [up_s] | rw [up_n (by omega)])) <;> first | rfl | assumption) (Nat.le_of_ble_eq_true rfl) (Nat.le_of_ble_eq_true rfl) (Nat.le_of_ble_eq_true rfl) (Nat.le_of_ble_eq_true rfl) (c_D_fewest pc b9 (by omega) hc hb.2) (ki (fun r S' hS => ?_))
    obtain ⟨h1, z1⟩ := S'
    obtain ⟨rfl, rfl, f1, p1⟩ := hS
    have pm1 := pm.fr (h' := h1) (fun q a b => f1 q (by omega))
    obtain ⟨fm1, hm1⟩ := pm1.obj
    refine ev_aload_n (pc := 436) dL_law_436 rfl ?_
    refine ev_aload_n (pc := 437) dL_law_437 rfl ?_
    refine ev_iload_n (pc := 438) dL_law_438 rfl ?_
    refine ev_iconst (pc := 439) (v := nI 1) dL_law_439 kc_1 ?_
    refine ev_iadd (pc := 440) dL_law_440 ?_
    (try rw [nI_add])
    refine ev_sld (pc := 441) dL_law_441 (nI_toInt (by omega)) (by omega) ?_
    rw [e1]
    refine ev_aload_n (pc := 442) dL_law_442 rfl ?_
    refine ev_iload_n (pc := 443) dL_law_443 rfl ?_
    refine ev_iconst (pc := 444) (v := nI 2) dL_law_444 kc_2 ?_
    refine ev_iadd (pc := 445) dL_law_445 ?_
    (try rw [nI_add])
    refine ev_sld (pc := 446) dL_law_446 (nI_toInt (by omega)) (by omega) ?_
    refine iv_L_75 (pc := 447) rfl dL_law_447 (by (try dsimp only); (repeat (first | rw [up_s] | rw [up_n (by omega)])) <;> first | rfl | assumption) (Nat.le_of_ble_eq_true rfl) (Nat.le_of_ble_eq_true rfl) (Nat.le_of_ble_eq_true rfl) (Nat.le_of_ble_eq_true rfl) (c_M_fewest pm1 b9 (by omega) hc hb.2) (ki (fun r S' hS => ?_))
    obtain ⟨h2, z2⟩ := S'
    obtain ⟨rfl, rfl, f2, p2⟩ := hS
    refine ev_icmp_eq (pc := 450) 776 dL_law_450 (by decide) (fun c_450 => ?_) (fun c_450 => ?_)
    · (try simp (disch := omega) only [i32_lti, i32_lei, i32_eqi, nI_toInt, i32z] at c_450)
      exact K h2 ⟨cs, B, N, P, I, J, wn, op, n, tr, p1.fr (fun q a b => f2 q (by omega)), p2, g.up⟩
    · exact absurd rfl c_450
  · skip
    refine ev_aload_n (pc := 422) dL_law_422 rfl ?_
    refine ev_aload_n (pc := 423) dL_law_423 rfl ?_
    refine ev_iload_n (pc := 424) dL_law_424 rfl ?_
    refine ev_iconst (pc := 425) (v := nI 1) dL_law_425 kc_1 ?_
    refine ev_iadd (pc := 426) dL_law_426 ?_
    (try rw [nI_add])
    refine ev_sld (pc := 427) dL_law_427 (nI_toInt (by omega)) (by omega) ?_
    refine ev_aload_n (pc := 428) dL_law_428 rfl ?_
    refine ev_iload_n (pc := 429) dL_law_429 rfl ?_
    refine ev_iconst (pc := 430) (v := nI 2) dL_law_430 kc_2 ?_
    refine ev_iadd (pc := 431) dL_law_431 ?_
    (try rw [nI_add])
    refine ev_sld (pc := 432) dL_law_432 (nI_toInt (by omega)) (by omega) ?_
    refine iv_L_72 (pc := 433) rfl dL_law_433 (by (try dsimp only); (repeat (first | rw [up_s] | rw [up_n (by omega)])) <;> first | rfl | assumption) (Nat.le_of_ble_eq_true rfl) (Nat.le_of_ble_eq_true rfl) (Nat.le_of_ble_eq_true rfl) (Nat.le_of_ble_eq_true rfl) (c_D_fewest_bad hb) (kp ?_)
    refine ev_aload_n (pc := 436) dL_law_436 rfl ?_
    refine ev_aload_n (pc := 437) dL_law_437 rfl ?_
    refine ev_iload_n (pc := 438) dL_law_438 rfl ?_
    refine ev_iconst (pc := 439) (v := nI 1) dL_law_439 kc_1 ?_
    refine ev_iadd (pc := 440) dL_law_440 ?_
    (try rw [nI_add])
    refine ev_sld (pc := 441) dL_law_441 (nI_toInt (by omega)) (by omega) ?_
    refine ev_aload_n (pc := 442) dL_law_442 rfl ?_
    refine ev_iload_n (pc := 443) dL_law_443 rfl ?_
    refine ev_iconst (pc := 444) (v := nI 2) dL_law_444 kc_2 ?_
    refine ev_iadd (pc := 445) dL_law_445 ?_
    (try rw [nI_add])
    refine ev_sld (pc := 446) dL_law_446 (nI_toInt (by omega)) (by omega) ?_
    refine iv_L_75 (pc := 447) rfl dL_law_447 (by (try dsimp only); (repeat (first | rw [up_s] | rw [up_n (by omega)])) <;> first | rfl | assumption) (Nat.le_of_ble_eq_true rfl) (Nat.le_of_ble_eq_true rfl) (Nat.le_of_ble_eq_true rfl) (Nat.le_of_ble_eq_true rfl) (c_M_fewest_bad hb) (kp ?_)
    refine ev_icmp_eq (pc := 450) 776 dL_law_450 (by decide) (fun c_450 => ?_) (fun c_450 => ?_)
    · (try simp (disch := omega) only [i32_lti, i32_lei, i32_eqi, nI_toInt, i32z] at c_450)
      exact K h ⟨cs, B, N, P, I, J, wn, op, n, tr, pc, pm, g.up⟩
    · exact absurd rfl c_450
theorem law_mind (S : lSt h d m k) (hk : k ≤ 64) (dm : d + 174 ≤ m) (hi : i + 4 ≤ xL X) (hL : xL X ≤ 256) (K : ∀ h' : Hp, lSt h' d m (k + 1) → Ev X (mi_L_law nm 10 600000 7302250) QL 191 14323 (h', z) 776 [.ref (xb X), .ref d, .ref m, .int (nI i)] []) : Ev X (mi_L_law nm 10 600000 7302250) QL 191 14323 (h, z) 455 [.ref (xb X), .ref d, .ref m, .int (nI i)] [] := by
  obtain ⟨cs, B, N, P, I, J, wn, op, n, tr, pc, pm, g⟩ := S
  obtain ⟨b9, gN, -⟩ := id g
  have h6 := b9.1
  have wN := gN.1.1
  have hd0 := pc.1
  unfold pDO at hd0
  obtain ⟨fm, hm0⟩ := pm.obj
  have b9g : wB (9 + k) B := ⟨b9.1, b9.2.1, b9.2.2.1, b9.2.2.2.1, b9.2.2.2.2.1, b9.2.2.2.2.2.1, fun x hx => Nat.le_trans (b9.2.2.2.2.2.2 x hx) (Nat.le_add_right _ _)⟩
  have gg : gT B (9 + k) N := ⟨gN.1.1, gN.1.2.1, by have := gN.1.2.2.1; omega, gN.1.2.2.2⟩
  by_cases hb : (1 ≤ (xs X (i + 1)).toInt ∧ (xs X (i + 1)).toInt ≤ ((30 : Nat) : Int)) ∧ ((xs X (i + 2)).toInt = 0 ∨ (xs X (i + 2)).toInt = 1)
  · obtain ⟨c, h1c, hc, e1⟩ := iN1 hb.1
    refine ev_aload_n (pc := 455) dL_law_455 rfl ?_
    refine ev_aload_n (pc := 456) dL_law_456 rfl ?_
    refine ev_iload_n (pc := 457) dL_law_457 rfl ?_
    refine ev_iconst (pc := 458) (v := nI 1) dL_law_458 kc_1 ?_
    refine ev_iadd (pc := 459) dL_law_459 ?_
    (try rw [nI_add])
    refine ev_sld (pc := 460) dL_law_460 (nI_toInt (by omega)) (by omega) ?_
    rw [e1]
    refine ev_aload_n (pc := 461) dL_law_461 rfl ?_
    refine ev_iload_n (pc := 462) dL_law_462 rfl ?_
    refine ev_iconst (pc := 463) (v := nI 2) dL_law_463 kc_2 ?_
    refine ev_iadd (pc := 464) dL_law_464 ?_
    (try rw [nI_add])
    refine ev_sld (pc := 465) dL_law_465 (nI_toInt (by omega)) (by omega) ?_
    refine iv_L_76 (pc := 466) rfl dL_law_466 (by (try dsimp only); (repeat (first | rw [up_s] | rw [up_n (by omega)])) <;> first | rfl | assumption) (Nat.le_of_ble_eq_true rfl) (Nat.le_of_ble_eq_true rfl) (Nat.le_of_ble_eq_true rfl) (Nat.le_of_ble_eq_true rfl) (c_D_mind pc b9 (by omega) h1c hc hb.2) (ki (fun r S' hS => ?_))
    obtain ⟨h1, z1⟩ := S'
    obtain ⟨rfl, rfl, f1, p1⟩ := hS
    have pm1 := pm.fr (h' := h1) (fun q a b => f1 q (by omega))
    obtain ⟨fm1, hm1⟩ := pm1.obj
    refine ev_aload_n (pc := 469) dL_law_469 rfl ?_
    refine ev_aload_n (pc := 470) dL_law_470 rfl ?_
    refine ev_iload_n (pc := 471) dL_law_471 rfl ?_
    refine ev_iconst (pc := 472) (v := nI 1) dL_law_472 kc_1 ?_
    refine ev_iadd (pc := 473) dL_law_473 ?_
    (try rw [nI_add])
    refine ev_sld (pc := 474) dL_law_474 (nI_toInt (by omega)) (by omega) ?_
    rw [e1]
    refine ev_aload_n (pc := 475) dL_law_475 rfl ?_
    refine ev_iload_n (pc := 476) dL_law_476 rfl ?_
    refine ev_iconst (pc := 477) (v := nI 2) dL_law_477 kc_2 ?_
    refine ev_iadd (pc := 478) dL_law_478 ?_
    (try rw [nI_add])
    refine ev_sld (pc := 479) dL_law_479 (nI_toInt (by omega)) (by omega) ?_
    refine iv_L_79 (pc := 480) rfl dL_law_480 (by (try dsimp only); (repeat (first | rw [up_s] | rw [up_n (by omega)])) <;> first | rfl | assumption) (Nat.le_of_ble_eq_true rfl) (Nat.le_of_ble_eq_true rfl) (Nat.le_of_ble_eq_true rfl) (Nat.le_of_ble_eq_true rfl) (c_M_mind pm1 b9 (by omega) h1c hc hb.2) (ki (fun r S' hS => ?_))
    obtain ⟨h2, z2⟩ := S'
    obtain ⟨rfl, rfl, f2, p2⟩ := hS
    refine ev_icmp_eq (pc := 483) 776 dL_law_483 (by decide) (fun c_483 => ?_) (fun c_483 => ?_)
    · (try simp (disch := omega) only [i32_lti, i32_lei, i32_eqi, nI_toInt, i32z] at c_483)
      exact K h2 ⟨cs, B, N, P, I, J, wn, op, n, tr, p1.fr (fun q a b => f2 q (by omega)), p2, g.up⟩
    · exact absurd rfl c_483
  · skip
    refine ev_aload_n (pc := 455) dL_law_455 rfl ?_
    refine ev_aload_n (pc := 456) dL_law_456 rfl ?_
    refine ev_iload_n (pc := 457) dL_law_457 rfl ?_
    refine ev_iconst (pc := 458) (v := nI 1) dL_law_458 kc_1 ?_
    refine ev_iadd (pc := 459) dL_law_459 ?_
    (try rw [nI_add])
    refine ev_sld (pc := 460) dL_law_460 (nI_toInt (by omega)) (by omega) ?_
    refine ev_aload_n (pc := 461) dL_law_461 rfl ?_
    refine ev_iload_n (pc := 462) dL_law_462 rfl ?_
    refine ev_iconst (pc := 463) (v := nI 2) dL_law_463 kc_2 ?_
    refine ev_iadd (pc := 464) dL_law_464 ?_
    (try rw [nI_add])
    refine ev_sld (pc := 465) dL_law_465 (nI_toInt (by omega)) (by omega) ?_
    refine iv_L_76 (pc := 466) rfl dL_law_466 (by (try dsimp only); (repeat (first | rw [up_s] | rw [up_n (by omega)])) <;> first | rfl | assumption) (Nat.le_of_ble_eq_true rfl) (Nat.le_of_ble_eq_true rfl) (Nat.le_of_ble_eq_true rfl) (Nat.le_of_ble_eq_true rfl) (c_D_mind_bad hb) (kp ?_)
    refine ev_aload_n (pc := 469) dL_law_469 rfl ?_
    refine ev_aload_n (pc := 470) dL_law_470 rfl ?_
    refine ev_iload_n (pc := 471) dL_law_471 rfl ?_
    refine ev_iconst (pc := 472) (v := nI 1) dL_law_472 kc_1 ?_
    refine ev_iadd (pc := 473) dL_law_473 ?_
    (try rw [nI_add])
    refine ev_sld (pc := 474) dL_law_474 (nI_toInt (by omega)) (by omega) ?_
    refine ev_aload_n (pc := 475) dL_law_475 rfl ?_
    refine ev_iload_n (pc := 476) dL_law_476 rfl ?_
    refine ev_iconst (pc := 477) (v := nI 2) dL_law_477 kc_2 ?_
    refine ev_iadd (pc := 478) dL_law_478 ?_
    (try rw [nI_add])
    refine ev_sld (pc := 479) dL_law_479 (nI_toInt (by omega)) (by omega) ?_
    refine iv_L_79 (pc := 480) rfl dL_law_480 (by (try dsimp only); (repeat (first | rw [up_s] | rw [up_n (by omega)])) <;> first | rfl | assumption) (Nat.le_of_ble_eq_true rfl) (Nat.le_of_ble_eq_true rfl) (Nat.le_of_ble_eq_true rfl) (Nat.le_of_ble_eq_true rfl) (c_M_mind_bad hb) (kp ?_)
    refine ev_icmp_eq (pc := 483) 776 dL_law_483 (by decide) (fun c_483 => ?_) (fun c_483 => ?_)
    · (try simp (disch := omega) only [i32_lti, i32_lei, i32_eqi, nI_toInt, i32z] at c_483)
      exact K h ⟨cs, B, N, P, I, J, wn, op, n, tr, pc, pm, g.up⟩
    · exact absurd rfl c_483
theorem law_bars (S : lSt h d m k) (hk : k ≤ 64) (dm : d + 174 ≤ m) (hi : i + 4 ≤ xL X) (hL : xL X ≤ 256) (K : ∀ h' : Hp, lSt h' d m (k + 1) → Ev X (mi_L_law nm 10 600000 7302250) QL 191 14323 (h', z) 776 [.ref (xb X), .ref d, .ref m, .int (nI i)] []) : Ev X (mi_L_law nm 10 600000 7302250) QL 191 14323 (h, z) 488 [.ref (xb X), .ref d, .ref m, .int (nI i)] [] := by
  obtain ⟨cs, B, N, P, I, J, wn, op, n, tr, pc, pm, g⟩ := S
  obtain ⟨b9, gN, -⟩ := id g
  have h6 := b9.1
  have wN := gN.1.1
  have hd0 := pc.1
  unfold pDO at hd0
  obtain ⟨fm, hm0⟩ := pm.obj
  have b9g : wB (9 + k) B := ⟨b9.1, b9.2.1, b9.2.2.1, b9.2.2.2.1, b9.2.2.2.2.1, b9.2.2.2.2.2.1, fun x hx => Nat.le_trans (b9.2.2.2.2.2.2 x hx) (Nat.le_add_right _ _)⟩
  have gg : gT B (9 + k) N := ⟨gN.1.1, gN.1.2.1, by have := gN.1.2.2.1; omega, gN.1.2.2.2⟩
  by_cases hb : 1 ≤ (xs X (i + 1)).toInt ∧ (xs X (i + 1)).toInt ≤ ((30 : Nat) : Int)
  · obtain ⟨c, h1c, hc, e1⟩ := iN1 hb
    refine ev_aload_n (pc := 488) dL_law_488 rfl ?_
    refine ev_aload_n (pc := 489) dL_law_489 rfl ?_
    refine ev_iload_n (pc := 490) dL_law_490 rfl ?_
    refine ev_iconst (pc := 491) (v := nI 1) dL_law_491 kc_1 ?_
    refine ev_iadd (pc := 492) dL_law_492 ?_
    (try rw [nI_add])
    refine ev_sld (pc := 493) dL_law_493 (nI_toInt (by omega)) (by omega) ?_
    rw [e1]
    refine iv_L_80 (pc := 494) rfl dL_law_494 (by (try dsimp only); (repeat (first | rw [up_s] | rw [up_n (by omega)])) <;> first | rfl | assumption) (Nat.le_of_ble_eq_true rfl) (Nat.le_of_ble_eq_true rfl) (Nat.le_of_ble_eq_true rfl) (Nat.le_of_ble_eq_true rfl) (c_D_bars pc b9 (by omega) h1c hc) (ki (fun r S' hS => ?_))
    obtain ⟨h1, z1⟩ := S'
    obtain ⟨rfl, rfl, f1, p1⟩ := hS
    have pm1 := pm.fr (h' := h1) (fun q a b => f1 q (by omega))
    obtain ⟨fm1, hm1⟩ := pm1.obj
    refine ev_aload_n (pc := 497) dL_law_497 rfl ?_
    refine ev_aload_n (pc := 498) dL_law_498 rfl ?_
    refine ev_iload_n (pc := 499) dL_law_499 rfl ?_
    refine ev_iconst (pc := 500) (v := nI 1) dL_law_500 kc_1 ?_
    refine ev_iadd (pc := 501) dL_law_501 ?_
    (try rw [nI_add])
    refine ev_sld (pc := 502) dL_law_502 (nI_toInt (by omega)) (by omega) ?_
    rw [e1]
    refine iv_L_83 (pc := 503) rfl dL_law_503 (by (try dsimp only); (repeat (first | rw [up_s] | rw [up_n (by omega)])) <;> first | rfl | assumption) (Nat.le_of_ble_eq_true rfl) (Nat.le_of_ble_eq_true rfl) (Nat.le_of_ble_eq_true rfl) (Nat.le_of_ble_eq_true rfl) (c_M_bars pm1 b9 (by omega) h1c hc) (ki (fun r S' hS => ?_))
    obtain ⟨h2, z2⟩ := S'
    obtain ⟨rfl, rfl, f2, p2⟩ := hS
    refine ev_icmp_eq (pc := 506) 776 dL_law_506 (by decide) (fun c_506 => ?_) (fun c_506 => ?_)
    · (try simp (disch := omega) only [i32_lti, i32_lei, i32_eqi, nI_toInt, i32z] at c_506)
      exact K h2 ⟨cs, B, N, P, I, J, wn, op, n, tr, p1.fr (fun q a b => f2 q (by omega)), p2, g.up⟩
    · exact absurd rfl c_506
  · skip
    refine ev_aload_n (pc := 488) dL_law_488 rfl ?_
    refine ev_aload_n (pc := 489) dL_law_489 rfl ?_
    refine ev_iload_n (pc := 490) dL_law_490 rfl ?_
    refine ev_iconst (pc := 491) (v := nI 1) dL_law_491 kc_1 ?_
    refine ev_iadd (pc := 492) dL_law_492 ?_
    (try rw [nI_add])
    refine ev_sld (pc := 493) dL_law_493 (nI_toInt (by omega)) (by omega) ?_
    refine iv_L_80 (pc := 494) rfl dL_law_494 (by (try dsimp only); (repeat (first | rw [up_s] | rw [up_n (by omega)])) <;> first | rfl | assumption) (Nat.le_of_ble_eq_true rfl) (Nat.le_of_ble_eq_true rfl) (Nat.le_of_ble_eq_true rfl) (Nat.le_of_ble_eq_true rfl) (c_D_bars_bad hb) (kp ?_)
    refine ev_aload_n (pc := 497) dL_law_497 rfl ?_
    refine ev_aload_n (pc := 498) dL_law_498 rfl ?_
    refine ev_iload_n (pc := 499) dL_law_499 rfl ?_
    refine ev_iconst (pc := 500) (v := nI 1) dL_law_500 kc_1 ?_
    refine ev_iadd (pc := 501) dL_law_501 ?_
    (try rw [nI_add])
    refine ev_sld (pc := 502) dL_law_502 (nI_toInt (by omega)) (by omega) ?_
    refine iv_L_83 (pc := 503) rfl dL_law_503 (by (try dsimp only); (repeat (first | rw [up_s] | rw [up_n (by omega)])) <;> first | rfl | assumption) (Nat.le_of_ble_eq_true rfl) (Nat.le_of_ble_eq_true rfl) (Nat.le_of_ble_eq_true rfl) (Nat.le_of_ble_eq_true rfl) (c_M_bars_bad hb) (kp ?_)
    refine ev_icmp_eq (pc := 506) 776 dL_law_506 (by decide) (fun c_506 => ?_) (fun c_506 => ?_)
    · (try simp (disch := omega) only [i32_lti, i32_lei, i32_eqi, nI_toInt, i32z] at c_506)
      exact K h ⟨cs, B, N, P, I, J, wn, op, n, tr, pc, pm, g.up⟩
    · exact absurd rfl c_506
theorem law_longer (S : lSt h d m k) (hk : k ≤ 64) (dm : d + 174 ≤ m) (hi : i + 4 ≤ xL X) (hL : xL X ≤ 256) (K : ∀ h' : Hp, lSt h' d m (k + 1) → Ev X (mi_L_law nm 10 600000 7302250) QL 191 14323 (h', z) 776 [.ref (xb X), .ref d, .ref m, .int (nI i)] []) : Ev X (mi_L_law nm 10 600000 7302250) QL 191 14323 (h, z) 511 [.ref (xb X), .ref d, .ref m, .int (nI i)] [] := by
  obtain ⟨cs, B, N, P, I, J, wn, op, n, tr, pc, pm, g⟩ := S
  obtain ⟨b9, gN, -⟩ := id g
  have h6 := b9.1
  have wN := gN.1.1
  have hd0 := pc.1
  unfold pDO at hd0
  obtain ⟨fm, hm0⟩ := pm.obj
  have b9g : wB (9 + k) B := ⟨b9.1, b9.2.1, b9.2.2.1, b9.2.2.2.1, b9.2.2.2.2.1, b9.2.2.2.2.2.1, fun x hx => Nat.le_trans (b9.2.2.2.2.2.2 x hx) (Nat.le_add_right _ _)⟩
  have gg : gT B (9 + k) N := ⟨gN.1.1, gN.1.2.1, by have := gN.1.2.2.1; omega, gN.1.2.2.2⟩
  refine ev_aload_n (pc := 511) dL_law_511 rfl ?_
  refine iv_L_84 (pc := 512) rfl dL_law_512 (by (try dsimp only); (repeat (first | rw [up_s] | rw [up_n (by omega)])) <;> first | rfl | assumption) (Nat.le_of_ble_eq_true rfl) (Nat.le_of_ble_eq_true rfl) (Nat.le_of_ble_eq_true rfl) (Nat.le_of_ble_eq_true rfl) (c_D_longer pc b9 (by omega)) (ki (fun r S' hS => ?_))
  obtain ⟨h1, z1⟩ := S'
  obtain ⟨rfl, rfl, f1, p1⟩ := hS
  have pm1 := pm.fr (h' := h1) (fun q a b => f1 q (by omega))
  obtain ⟨fm1, hm1⟩ := pm1.obj
  refine ev_aload_n (pc := 515) dL_law_515 rfl ?_
  refine iv_L_87 (pc := 516) rfl dL_law_516 (by (try dsimp only); (repeat (first | rw [up_s] | rw [up_n (by omega)])) <;> first | rfl | assumption) (Nat.le_of_ble_eq_true rfl) (Nat.le_of_ble_eq_true rfl) (Nat.le_of_ble_eq_true rfl) (Nat.le_of_ble_eq_true rfl) (c_M_longer pm1 b9 (by omega) pc.2.2.1.2.2.2.2.2.2) (ki (fun r S' hS => ?_))
  obtain ⟨h2, z2⟩ := S'
  obtain ⟨rfl, rfl, f2, p2⟩ := hS
  refine ev_icmp_eq (pc := 519) 776 dL_law_519 (by decide) (fun c_519 => ?_) (fun c_519 => ?_)
  · (try simp (disch := omega) only [i32_lti, i32_lei, i32_eqi, nI_toInt, i32z] at c_519)
    exact K h2 ⟨cs, B, N, P, I, J, wn, op, n, tr, p1.fr (fun q a b => f2 q (by omega)), p2, g.up⟩
  · exact absurd rfl c_519
theorem law_heard (S : lSt h d m k) (hk : k ≤ 64) (dm : d + 174 ≤ m) (hi : i + 4 ≤ xL X) (hL : xL X ≤ 256) (K : ∀ h' : Hp, lSt h' d m (k + 1) → Ev X (mi_L_law nm 10 600000 7302250) QL 191 14323 (h', z) 776 [.ref (xb X), .ref d, .ref m, .int (nI i)] []) : Ev X (mi_L_law nm 10 600000 7302250) QL 191 14323 (h, z) 524 [.ref (xb X), .ref d, .ref m, .int (nI i)] [] := by
  obtain ⟨cs, B, N, P, I, J, wn, op, n, tr, pc, pm, g⟩ := S
  obtain ⟨b9, gN, -⟩ := id g
  have h6 := b9.1
  have wN := gN.1.1
  have hd0 := pc.1
  unfold pDO at hd0
  obtain ⟨fm, hm0⟩ := pm.obj
  have b9g : wB (9 + k) B := ⟨b9.1, b9.2.1, b9.2.2.1, b9.2.2.2.1, b9.2.2.2.2.1, b9.2.2.2.2.2.1, fun x hx => Nat.le_trans (b9.2.2.2.2.2.2 x hx) (Nat.le_add_right _ _)⟩
  have gg : gT B (9 + k) N := ⟨gN.1.1, gN.1.2.1, by have := gN.1.2.2.1; omega, gN.1.2.2.2⟩
  have hn6 : n ≤ 6 := pc.2.2.2.2.2.2.2.1.2.2.2.2.1
  by_cases hb : (1 ≤ (xs X (i + 1)).toInt ∧ (xs X (i + 1)).toInt ≤ ((30 : Nat) : Int)) ∧ (0 ≤ (xs X (i + 2)).toInt ∧ (xs X (i + 2)).toInt ≤ ((6 : Nat) : Int))
  by_cases hn : n < 6
  · obtain ⟨c, h1c, hc, e1⟩ := iN1 hb.1
    obtain ⟨y, hy, e2⟩ := iNb hb.2
    refine ev_aload_n (pc := 524) dL_law_524 rfl ?_
    refine ev_aload_n (pc := 525) dL_law_525 rfl ?_
    refine ev_iload_n (pc := 526) dL_law_526 rfl ?_
    refine ev_iconst (pc := 527) (v := nI 1) dL_law_527 kc_1 ?_
    refine ev_iadd (pc := 528) dL_law_528 ?_
    (try rw [nI_add])
    refine ev_sld (pc := 529) dL_law_529 (nI_toInt (by omega)) (by omega) ?_
    rw [e1]
    refine ev_aload_n (pc := 530) dL_law_530 rfl ?_
    refine ev_iload_n (pc := 531) dL_law_531 rfl ?_
    refine ev_iconst (pc := 532) (v := nI 2) dL_law_532 kc_2 ?_
    refine ev_iadd (pc := 533) dL_law_533 ?_
    (try rw [nI_add])
    refine ev_sld (pc := 534) dL_law_534 (nI_toInt (by omega)) (by omega) ?_
    rw [e2]
    refine iv_L_88 (pc := 535) rfl dL_law_535 (by (try dsimp only); (repeat (first | rw [up_s] | rw [up_n (by omega)])) <;> first | rfl | assumption) (Nat.le_of_ble_eq_true rfl) (Nat.le_of_ble_eq_true rfl) (Nat.le_of_ble_eq_true rfl) (Nat.le_of_ble_eq_true rfl) (c_D_heard pc ⟨h1c, hc⟩ hy hn) (ki (fun r S' hS => ?_))
    obtain ⟨h1, z1⟩ := S'
    obtain ⟨rfl, rfl, f1, p1⟩ := hS
    have pm1 := pm.fr (h' := h1) (fun q a b => f1 q (by omega))
    obtain ⟨fm1, hm1⟩ := pm1.obj
    refine ev_aload_n (pc := 538) dL_law_538 rfl ?_
    refine ev_aload_n (pc := 539) dL_law_539 rfl ?_
    refine ev_iload_n (pc := 540) dL_law_540 rfl ?_
    refine ev_iconst (pc := 541) (v := nI 1) dL_law_541 kc_1 ?_
    refine ev_iadd (pc := 542) dL_law_542 ?_
    (try rw [nI_add])
    refine ev_sld (pc := 543) dL_law_543 (nI_toInt (by omega)) (by omega) ?_
    rw [e1]
    refine ev_aload_n (pc := 544) dL_law_544 rfl ?_
    refine ev_iload_n (pc := 545) dL_law_545 rfl ?_
    refine ev_iconst (pc := 546) (v := nI 2) dL_law_546 kc_2 ?_
    refine ev_iadd (pc := 547) dL_law_547 ?_
    (try rw [nI_add])
    refine ev_sld (pc := 548) dL_law_548 (nI_toInt (by omega)) (by omega) ?_
    rw [e2]
    refine iv_L_91 (pc := 549) rfl dL_law_549 (by (try dsimp only); (repeat (first | rw [up_s] | rw [up_n (by omega)])) <;> first | rfl | assumption) (Nat.le_of_ble_eq_true rfl) (Nat.le_of_ble_eq_true rfl) (Nat.le_of_ble_eq_true rfl) (Nat.le_of_ble_eq_true rfl) (c_M_heard pm1 ⟨h1c, hc⟩ hy hn) (ki (fun r S' hS => ?_))
    obtain ⟨h2, z2⟩ := S'
    obtain ⟨rfl, rfl, f2, p2⟩ := hS
    refine ev_icmp_eq (pc := 552) 776 dL_law_552 (by decide) (fun c_552 => ?_) (fun c_552 => ?_)
    · (try simp (disch := omega) only [i32_lti, i32_lei, i32_eqi, nI_toInt, i32z] at c_552)
      exact K h2 ⟨cs, B, N, P, I, J, _, _, _, tr, p1.fr (fun q a b => f2 q (by omega)), p2, g.up⟩
    · exact absurd rfl c_552
  · obtain ⟨c, h1c, hc, e1⟩ := iN1 hb.1
    obtain ⟨y, hy, e2⟩ := iNb hb.2
    refine ev_aload_n (pc := 524) dL_law_524 rfl ?_
    refine ev_aload_n (pc := 525) dL_law_525 rfl ?_
    refine ev_iload_n (pc := 526) dL_law_526 rfl ?_
    refine ev_iconst (pc := 527) (v := nI 1) dL_law_527 kc_1 ?_
    refine ev_iadd (pc := 528) dL_law_528 ?_
    (try rw [nI_add])
    refine ev_sld (pc := 529) dL_law_529 (nI_toInt (by omega)) (by omega) ?_
    rw [e1]
    refine ev_aload_n (pc := 530) dL_law_530 rfl ?_
    refine ev_iload_n (pc := 531) dL_law_531 rfl ?_
    refine ev_iconst (pc := 532) (v := nI 2) dL_law_532 kc_2 ?_
    refine ev_iadd (pc := 533) dL_law_533 ?_
    (try rw [nI_add])
    refine ev_sld (pc := 534) dL_law_534 (nI_toInt (by omega)) (by omega) ?_
    rw [e2]
    refine iv_L_88 (pc := 535) rfl dL_law_535 (by (try dsimp only); (repeat (first | rw [up_s] | rw [up_n (by omega)])) <;> first | rfl | assumption) (Nat.le_of_ble_eq_true rfl) (Nat.le_of_ble_eq_true rfl) (Nat.le_of_ble_eq_true rfl) (Nat.le_of_ble_eq_true rfl) (c_D_heard_full pc ⟨h1c, hc⟩ hy (by omega)) (kp ?_)
    refine ev_aload_n (pc := 538) dL_law_538 rfl ?_
    refine ev_aload_n (pc := 539) dL_law_539 rfl ?_
    refine ev_iload_n (pc := 540) dL_law_540 rfl ?_
    refine ev_iconst (pc := 541) (v := nI 1) dL_law_541 kc_1 ?_
    refine ev_iadd (pc := 542) dL_law_542 ?_
    (try rw [nI_add])
    refine ev_sld (pc := 543) dL_law_543 (nI_toInt (by omega)) (by omega) ?_
    rw [e1]
    refine ev_aload_n (pc := 544) dL_law_544 rfl ?_
    refine ev_iload_n (pc := 545) dL_law_545 rfl ?_
    refine ev_iconst (pc := 546) (v := nI 2) dL_law_546 kc_2 ?_
    refine ev_iadd (pc := 547) dL_law_547 ?_
    (try rw [nI_add])
    refine ev_sld (pc := 548) dL_law_548 (nI_toInt (by omega)) (by omega) ?_
    rw [e2]
    refine iv_L_91 (pc := 549) rfl dL_law_549 (by (try dsimp only); (repeat (first | rw [up_s] | rw [up_n (by omega)])) <;> first | rfl | assumption) (Nat.le_of_ble_eq_true rfl) (Nat.le_of_ble_eq_true rfl) (Nat.le_of_ble_eq_true rfl) (Nat.le_of_ble_eq_true rfl) (c_M_heard_full pm ⟨h1c, hc⟩ hy (by omega)) (kp ?_)
    refine ev_icmp_eq (pc := 552) 776 dL_law_552 (by decide) (fun c_552 => ?_) (fun c_552 => ?_)
    · (try simp (disch := omega) only [i32_lti, i32_lei, i32_eqi, nI_toInt, i32z] at c_552)
      exact K h ⟨cs, B, N, P, I, J, wn, op, n, tr, pc, pm, g.up⟩
    · exact absurd rfl c_552
  · skip
    refine ev_aload_n (pc := 524) dL_law_524 rfl ?_
    refine ev_aload_n (pc := 525) dL_law_525 rfl ?_
    refine ev_iload_n (pc := 526) dL_law_526 rfl ?_
    refine ev_iconst (pc := 527) (v := nI 1) dL_law_527 kc_1 ?_
    refine ev_iadd (pc := 528) dL_law_528 ?_
    (try rw [nI_add])
    refine ev_sld (pc := 529) dL_law_529 (nI_toInt (by omega)) (by omega) ?_
    refine ev_aload_n (pc := 530) dL_law_530 rfl ?_
    refine ev_iload_n (pc := 531) dL_law_531 rfl ?_
    refine ev_iconst (pc := 532) (v := nI 2) dL_law_532 kc_2 ?_
    refine ev_iadd (pc := 533) dL_law_533 ?_
    (try rw [nI_add])
    refine ev_sld (pc := 534) dL_law_534 (nI_toInt (by omega)) (by omega) ?_
    refine iv_L_88 (pc := 535) rfl dL_law_535 (by (try dsimp only); (repeat (first | rw [up_s] | rw [up_n (by omega)])) <;> first | rfl | assumption) (Nat.le_of_ble_eq_true rfl) (Nat.le_of_ble_eq_true rfl) (Nat.le_of_ble_eq_true rfl) (Nat.le_of_ble_eq_true rfl) (c_D_heard_bad hb) (kp ?_)
    refine ev_aload_n (pc := 538) dL_law_538 rfl ?_
    refine ev_aload_n (pc := 539) dL_law_539 rfl ?_
    refine ev_iload_n (pc := 540) dL_law_540 rfl ?_
    refine ev_iconst (pc := 541) (v := nI 1) dL_law_541 kc_1 ?_
    refine ev_iadd (pc := 542) dL_law_542 ?_
    (try rw [nI_add])
    refine ev_sld (pc := 543) dL_law_543 (nI_toInt (by omega)) (by omega) ?_
    refine ev_aload_n (pc := 544) dL_law_544 rfl ?_
    refine ev_iload_n (pc := 545) dL_law_545 rfl ?_
    refine ev_iconst (pc := 546) (v := nI 2) dL_law_546 kc_2 ?_
    refine ev_iadd (pc := 547) dL_law_547 ?_
    (try rw [nI_add])
    refine ev_sld (pc := 548) dL_law_548 (nI_toInt (by omega)) (by omega) ?_
    refine iv_L_91 (pc := 549) rfl dL_law_549 (by (try dsimp only); (repeat (first | rw [up_s] | rw [up_n (by omega)])) <;> first | rfl | assumption) (Nat.le_of_ble_eq_true rfl) (Nat.le_of_ble_eq_true rfl) (Nat.le_of_ble_eq_true rfl) (Nat.le_of_ble_eq_true rfl) (c_M_heard_bad hb) (kp ?_)
    refine ev_icmp_eq (pc := 552) 776 dL_law_552 (by decide) (fun c_552 => ?_) (fun c_552 => ?_)
    · (try simp (disch := omega) only [i32_lti, i32_lei, i32_eqi, nI_toInt, i32z] at c_552)
      exact K h ⟨cs, B, N, P, I, J, wn, op, n, tr, pc, pm, g.up⟩
    · exact absurd rfl c_552
theorem law_forget (S : lSt h d m k) (hk : k ≤ 64) (dm : d + 174 ≤ m) (hi : i + 4 ≤ xL X) (hL : xL X ≤ 256) (K : ∀ h' : Hp, lSt h' d m (k + 1) → Ev X (mi_L_law nm 10 600000 7302250) QL 191 14323 (h', z) 776 [.ref (xb X), .ref d, .ref m, .int (nI i)] []) : Ev X (mi_L_law nm 10 600000 7302250) QL 191 14323 (h, z) 557 [.ref (xb X), .ref d, .ref m, .int (nI i)] [] := by
  obtain ⟨cs, B, N, P, I, J, wn, op, n, tr, pc, pm, g⟩ := S
  obtain ⟨b9, gN, -⟩ := id g
  have h6 := b9.1
  have wN := gN.1.1
  have hd0 := pc.1
  unfold pDO at hd0
  obtain ⟨fm, hm0⟩ := pm.obj
  have b9g : wB (9 + k) B := ⟨b9.1, b9.2.1, b9.2.2.1, b9.2.2.2.1, b9.2.2.2.2.1, b9.2.2.2.2.2.1, fun x hx => Nat.le_trans (b9.2.2.2.2.2.2 x hx) (Nat.le_add_right _ _)⟩
  have gg : gT B (9 + k) N := ⟨gN.1.1, gN.1.2.1, by have := gN.1.2.2.1; omega, gN.1.2.2.2⟩
  refine ev_aload_n (pc := 557) dL_law_557 rfl ?_
  refine iv_L_92 (pc := 558) rfl dL_law_558 (by (try dsimp only); (repeat (first | rw [up_s] | rw [up_n (by omega)])) <;> first | rfl | assumption) (Nat.le_of_ble_eq_true rfl) (Nat.le_of_ble_eq_true rfl) (Nat.le_of_ble_eq_true rfl) (Nat.le_of_ble_eq_true rfl) (c_D_forget pc) (ki (fun r S' hS => ?_))
  obtain ⟨h1, z1⟩ := S'
  obtain ⟨rfl, rfl, f1, p1⟩ := hS
  have pm1 := pm.fr (h' := h1) (fun q a b => f1 q (by omega))
  obtain ⟨fm1, hm1⟩ := pm1.obj
  refine ev_aload_n (pc := 561) dL_law_561 rfl ?_
  refine iv_L_95 (pc := 562) rfl dL_law_562 (by (try dsimp only); (repeat (first | rw [up_s] | rw [up_n (by omega)])) <;> first | rfl | assumption) (Nat.le_of_ble_eq_true rfl) (Nat.le_of_ble_eq_true rfl) (Nat.le_of_ble_eq_true rfl) (Nat.le_of_ble_eq_true rfl) (c_M_forget pm1) (ki (fun r S' hS => ?_))
  obtain ⟨h2, z2⟩ := S'
  obtain ⟨rfl, rfl, f2, p2⟩ := hS
  refine ev_icmp_eq (pc := 565) 776 dL_law_565 (by decide) (fun c_565 => ?_) (fun c_565 => ?_)
  · (try simp (disch := omega) only [i32_lti, i32_lei, i32_eqi, nI_toInt, i32z] at c_565)
    exact K h2 ⟨cs, B, N, P, I, J, wn, op, _, tr, p1.fr (fun q a b => f2 q (by omega)), p2, g.up⟩
  · exact absurd rfl c_565
theorem law_orders (S : lSt h d m k) (hk : k ≤ 64) (dm : d + 174 ≤ m) (hi : i + 4 ≤ xL X) (hL : xL X ≤ 256) (K : ∀ h' : Hp, lSt h' d m (k + 1) → Ev X (mi_L_law nm 10 600000 7302250) QL 191 14323 (h', z) 776 [.ref (xb X), .ref d, .ref m, .int (nI i)] []) : Ev X (mi_L_law nm 10 600000 7302250) QL 191 14323 (h, z) 570 [.ref (xb X), .ref d, .ref m, .int (nI i)] [] := by
  obtain ⟨cs, B, N, P, I, J, wn, op, n, tr, pc, pm, g⟩ := S
  obtain ⟨b9, gN, -⟩ := id g
  have h6 := b9.1
  have wN := gN.1.1
  have hd0 := pc.1
  unfold pDO at hd0
  obtain ⟨fm, hm0⟩ := pm.obj
  have b9g : wB (9 + k) B := ⟨b9.1, b9.2.1, b9.2.2.1, b9.2.2.2.1, b9.2.2.2.2.1, b9.2.2.2.2.2.1, fun x hx => Nat.le_trans (b9.2.2.2.2.2.2 x hx) (Nat.le_add_right _ _)⟩
  have gg : gT B (9 + k) N := ⟨gN.1.1, gN.1.2.1, by have := gN.1.2.2.1; omega, gN.1.2.2.2⟩
  by_cases hb : ((xs X (i + 1)).toInt = 0 ∨ (xs X (i + 1)).toInt = 1)
  · skip
    refine ev_aload_n (pc := 570) dL_law_570 rfl ?_
    refine ev_aload_n (pc := 571) dL_law_571 rfl ?_
    refine ev_iload_n (pc := 572) dL_law_572 rfl ?_
    refine ev_iconst (pc := 573) (v := nI 1) dL_law_573 kc_1 ?_
    refine ev_iadd (pc := 574) dL_law_574 ?_
    (try rw [nI_add])
    refine ev_sld (pc := 575) dL_law_575 (nI_toInt (by omega)) (by omega) ?_
    refine iv_L_96 (pc := 576) rfl dL_law_576 (by (try dsimp only); (repeat (first | rw [up_s] | rw [up_n (by omega)])) <;> first | rfl | assumption) (Nat.le_of_ble_eq_true rfl) (Nat.le_of_ble_eq_true rfl) (Nat.le_of_ble_eq_true rfl) (Nat.le_of_ble_eq_true rfl) (c_D_orders pc b9 (by omega) hb) (ki (fun r S' hS => ?_))
    obtain ⟨h1, z1⟩ := S'
    obtain ⟨rfl, rfl, f1, p1⟩ := hS
    have pm1 := pm.fr (h' := h1) (fun q a b => f1 q (by omega))
    obtain ⟨fm1, hm1⟩ := pm1.obj
    refine ev_aload_n (pc := 579) dL_law_579 rfl ?_
    refine ev_aload_n (pc := 580) dL_law_580 rfl ?_
    refine ev_iload_n (pc := 581) dL_law_581 rfl ?_
    refine ev_iconst (pc := 582) (v := nI 1) dL_law_582 kc_1 ?_
    refine ev_iadd (pc := 583) dL_law_583 ?_
    (try rw [nI_add])
    refine ev_sld (pc := 584) dL_law_584 (nI_toInt (by omega)) (by omega) ?_
    refine iv_L_99 (pc := 585) rfl dL_law_585 (by (try dsimp only); (repeat (first | rw [up_s] | rw [up_n (by omega)])) <;> first | rfl | assumption) (Nat.le_of_ble_eq_true rfl) (Nat.le_of_ble_eq_true rfl) (Nat.le_of_ble_eq_true rfl) (Nat.le_of_ble_eq_true rfl) (c_M_orders pm1 b9 (by omega) hb) (ki (fun r S' hS => ?_))
    obtain ⟨h2, z2⟩ := S'
    obtain ⟨rfl, rfl, f2, p2⟩ := hS
    refine ev_icmp_eq (pc := 588) 776 dL_law_588 (by decide) (fun c_588 => ?_) (fun c_588 => ?_)
    · (try simp (disch := omega) only [i32_lti, i32_lei, i32_eqi, nI_toInt, i32z] at c_588)
      exact K h2 ⟨cs, B, N, P, I, J, wn, op, n, tr, p1.fr (fun q a b => f2 q (by omega)), p2, g.up⟩
    · exact absurd rfl c_588
  · skip
    refine ev_aload_n (pc := 570) dL_law_570 rfl ?_
    refine ev_aload_n (pc := 571) dL_law_571 rfl ?_
    refine ev_iload_n (pc := 572) dL_law_572 rfl ?_
    refine ev_iconst (pc := 573) (v := nI 1) dL_law_573 kc_1 ?_
    refine ev_iadd (pc := 574) dL_law_574 ?_
    (try rw [nI_add])
    refine ev_sld (pc := 575) dL_law_575 (nI_toInt (by omega)) (by omega) ?_
    refine iv_L_96 (pc := 576) rfl dL_law_576 (by (try dsimp only); (repeat (first | rw [up_s] | rw [up_n (by omega)])) <;> first | rfl | assumption) (Nat.le_of_ble_eq_true rfl) (Nat.le_of_ble_eq_true rfl) (Nat.le_of_ble_eq_true rfl) (Nat.le_of_ble_eq_true rfl) (c_D_orders_bad hb) (kp ?_)
    refine ev_aload_n (pc := 579) dL_law_579 rfl ?_
    refine ev_aload_n (pc := 580) dL_law_580 rfl ?_
    refine ev_iload_n (pc := 581) dL_law_581 rfl ?_
    refine ev_iconst (pc := 582) (v := nI 1) dL_law_582 kc_1 ?_
    refine ev_iadd (pc := 583) dL_law_583 ?_
    (try rw [nI_add])
    refine ev_sld (pc := 584) dL_law_584 (nI_toInt (by omega)) (by omega) ?_
    refine iv_L_99 (pc := 585) rfl dL_law_585 (by (try dsimp only); (repeat (first | rw [up_s] | rw [up_n (by omega)])) <;> first | rfl | assumption) (Nat.le_of_ble_eq_true rfl) (Nat.le_of_ble_eq_true rfl) (Nat.le_of_ble_eq_true rfl) (Nat.le_of_ble_eq_true rfl) (c_M_orders_bad hb) (kp ?_)
    refine ev_icmp_eq (pc := 588) 776 dL_law_588 (by decide) (fun c_588 => ?_) (fun c_588 => ?_)
    · (try simp (disch := omega) only [i32_lti, i32_lei, i32_eqi, nI_toInt, i32z] at c_588)
      exact K h ⟨cs, B, N, P, I, J, wn, op, n, tr, pc, pm, g.up⟩
    · exact absurd rfl c_588
theorem law_surely (S : lSt h d m k) (hk : k ≤ 64) (dm : d + 174 ≤ m) (hi : i + 4 ≤ xL X) (hL : xL X ≤ 256) (K : ∀ h' : Hp, lSt h' d m (k + 1) → Ev X (mi_L_law nm 10 600000 7302250) QL 191 14323 (h', z) 776 [.ref (xb X), .ref d, .ref m, .int (nI i)] []) : Ev X (mi_L_law nm 10 600000 7302250) QL 191 14323 (h, z) 593 [.ref (xb X), .ref d, .ref m, .int (nI i)] [] := by
  obtain ⟨cs, B, N, P, I, J, wn, op, n, tr, pc, pm, g⟩ := S
  obtain ⟨b9, gN, -⟩ := id g
  have h6 := b9.1
  have wN := gN.1.1
  have hd0 := pc.1
  unfold pDO at hd0
  obtain ⟨fm, hm0⟩ := pm.obj
  have b9g : wB (9 + k) B := ⟨b9.1, b9.2.1, b9.2.2.1, b9.2.2.2.1, b9.2.2.2.2.1, b9.2.2.2.2.2.1, fun x hx => Nat.le_trans (b9.2.2.2.2.2.2 x hx) (Nat.le_add_right _ _)⟩
  have gg : gT B (9 + k) N := ⟨gN.1.1, gN.1.2.1, by have := gN.1.2.2.1; omega, gN.1.2.2.2⟩
  by_cases hb : 1 ≤ (xs X (i + 1)).toInt ∧ (xs X (i + 1)).toInt ≤ ((30 : Nat) : Int)
  · obtain ⟨c, h1c, hc, e1⟩ := iN1 hb
    refine ev_aload_n (pc := 593) dL_law_593 rfl ?_
    refine ev_aload_n (pc := 594) dL_law_594 rfl ?_
    refine ev_iload_n (pc := 595) dL_law_595 rfl ?_
    refine ev_iconst (pc := 596) (v := nI 1) dL_law_596 kc_1 ?_
    refine ev_iadd (pc := 597) dL_law_597 ?_
    (try rw [nI_add])
    refine ev_sld (pc := 598) dL_law_598 (nI_toInt (by omega)) (by omega) ?_
    rw [e1]
    refine iv_L_100 (pc := 599) rfl dL_law_599 (by (try dsimp only); (repeat (first | rw [up_s] | rw [up_n (by omega)])) <;> first | rfl | assumption) (Nat.le_of_ble_eq_true rfl) (Nat.le_of_ble_eq_true rfl) (Nat.le_of_ble_eq_true rfl) (Nat.le_of_ble_eq_true rfl) (c_D_surely pc b9 (by omega) h1c hc) (ki (fun r S' hS => ?_))
    obtain ⟨h1, z1⟩ := S'
    obtain ⟨rfl, rfl, f1, p1⟩ := hS
    have pm1 := pm.fr (h' := h1) (fun q a b => f1 q (by omega))
    obtain ⟨fm1, hm1⟩ := pm1.obj
    refine ev_aload_n (pc := 602) dL_law_602 rfl ?_
    refine ev_aload_n (pc := 603) dL_law_603 rfl ?_
    refine ev_iload_n (pc := 604) dL_law_604 rfl ?_
    refine ev_iconst (pc := 605) (v := nI 1) dL_law_605 kc_1 ?_
    refine ev_iadd (pc := 606) dL_law_606 ?_
    (try rw [nI_add])
    refine ev_sld (pc := 607) dL_law_607 (nI_toInt (by omega)) (by omega) ?_
    rw [e1]
    refine iv_L_103 (pc := 608) rfl dL_law_608 (by (try dsimp only); (repeat (first | rw [up_s] | rw [up_n (by omega)])) <;> first | rfl | assumption) (Nat.le_of_ble_eq_true rfl) (Nat.le_of_ble_eq_true rfl) (Nat.le_of_ble_eq_true rfl) (Nat.le_of_ble_eq_true rfl) (c_M_surely pm1 b9 (by omega) h1c hc) (ki (fun r S' hS => ?_))
    obtain ⟨h2, z2⟩ := S'
    obtain ⟨rfl, rfl, f2, p2⟩ := hS
    refine ev_icmp_eq (pc := 611) 776 dL_law_611 (by decide) (fun c_611 => ?_) (fun c_611 => ?_)
    · (try simp (disch := omega) only [i32_lti, i32_lei, i32_eqi, nI_toInt, i32z] at c_611)
      exact K h2 ⟨cs, B, N, P, I, J, wn, op, n, tr, p1.fr (fun q a b => f2 q (by omega)), p2, g.up⟩
    · exact absurd rfl c_611
  · skip
    refine ev_aload_n (pc := 593) dL_law_593 rfl ?_
    refine ev_aload_n (pc := 594) dL_law_594 rfl ?_
    refine ev_iload_n (pc := 595) dL_law_595 rfl ?_
    refine ev_iconst (pc := 596) (v := nI 1) dL_law_596 kc_1 ?_
    refine ev_iadd (pc := 597) dL_law_597 ?_
    (try rw [nI_add])
    refine ev_sld (pc := 598) dL_law_598 (nI_toInt (by omega)) (by omega) ?_
    refine iv_L_100 (pc := 599) rfl dL_law_599 (by (try dsimp only); (repeat (first | rw [up_s] | rw [up_n (by omega)])) <;> first | rfl | assumption) (Nat.le_of_ble_eq_true rfl) (Nat.le_of_ble_eq_true rfl) (Nat.le_of_ble_eq_true rfl) (Nat.le_of_ble_eq_true rfl) (c_D_surely_bad hb) (kp ?_)
    refine ev_aload_n (pc := 602) dL_law_602 rfl ?_
    refine ev_aload_n (pc := 603) dL_law_603 rfl ?_
    refine ev_iload_n (pc := 604) dL_law_604 rfl ?_
    refine ev_iconst (pc := 605) (v := nI 1) dL_law_605 kc_1 ?_
    refine ev_iadd (pc := 606) dL_law_606 ?_
    (try rw [nI_add])
    refine ev_sld (pc := 607) dL_law_607 (nI_toInt (by omega)) (by omega) ?_
    refine iv_L_103 (pc := 608) rfl dL_law_608 (by (try dsimp only); (repeat (first | rw [up_s] | rw [up_n (by omega)])) <;> first | rfl | assumption) (Nat.le_of_ble_eq_true rfl) (Nat.le_of_ble_eq_true rfl) (Nat.le_of_ble_eq_true rfl) (Nat.le_of_ble_eq_true rfl) (c_M_surely_bad hb) (kp ?_)
    refine ev_icmp_eq (pc := 611) 776 dL_law_611 (by decide) (fun c_611 => ?_) (fun c_611 => ?_)
    · (try simp (disch := omega) only [i32_lti, i32_lei, i32_eqi, nI_toInt, i32z] at c_611)
      exact K h ⟨cs, B, N, P, I, J, wn, op, n, tr, pc, pm, g.up⟩
    · exact absurd rfl c_611
theorem law_odds (S : lSt h d m k) (hk : k ≤ 64) (dm : d + 174 ≤ m) (hi : i + 4 ≤ xL X) (hL : xL X ≤ 256) (K : ∀ h' : Hp, lSt h' d m (k + 1) → Ev X (mi_L_law nm 10 600000 7302250) QL 191 14323 (h', z) 776 [.ref (xb X), .ref d, .ref m, .int (nI i)] []) : Ev X (mi_L_law nm 10 600000 7302250) QL 191 14323 (h, z) 616 [.ref (xb X), .ref d, .ref m, .int (nI i)] [] := by
  obtain ⟨cs, B, N, P, I, J, wn, op, n, tr, pc, pm, g⟩ := S
  obtain ⟨b9, gN, -⟩ := id g
  have h6 := b9.1
  have wN := gN.1.1
  have hd0 := pc.1
  unfold pDO at hd0
  obtain ⟨fm, hm0⟩ := pm.obj
  have b9g : wB (9 + k) B := ⟨b9.1, b9.2.1, b9.2.2.1, b9.2.2.2.1, b9.2.2.2.2.1, b9.2.2.2.2.2.1, fun x hx => Nat.le_trans (b9.2.2.2.2.2.2 x hx) (Nat.le_add_right _ _)⟩
  have gg : gT B (9 + k) N := ⟨gN.1.1, gN.1.2.1, by have := gN.1.2.2.1; omega, gN.1.2.2.2⟩
  by_cases hb : (0 ≤ (xs X (i + 1)).toInt ∧ (xs X (i + 1)).toInt ≤ ((10 : Nat) : Int)) ∧ (0 ≤ (xs X (i + 2)).toInt ∧ (xs X (i + 2)).toInt ≤ ((9 : Nat) : Int)) ∧ ((xs X (i + 3)).toInt = 0 ∨ (xs X (i + 3)).toInt = 1)
  · obtain ⟨c, hc, e1⟩ := iNb hb.1
    obtain ⟨y, hy, e2⟩ := iNb hb.2.1
    refine ev_aload_n (pc := 616) dL_law_616 rfl ?_
    refine ev_aload_n (pc := 617) dL_law_617 rfl ?_
    refine ev_iload_n (pc := 618) dL_law_618 rfl ?_
    refine ev_iconst (pc := 619) (v := nI 1) dL_law_619 kc_1 ?_
    refine ev_iadd (pc := 620) dL_law_620 ?_
    (try rw [nI_add])
    refine ev_sld (pc := 621) dL_law_621 (nI_toInt (by omega)) (by omega) ?_
    rw [e1]
    refine ev_aload_n (pc := 622) dL_law_622 rfl ?_
    refine ev_iload_n (pc := 623) dL_law_623 rfl ?_
    refine ev_iconst (pc := 624) (v := nI 2) dL_law_624 kc_2 ?_
    refine ev_iadd (pc := 625) dL_law_625 ?_
    (try rw [nI_add])
    refine ev_sld (pc := 626) dL_law_626 (nI_toInt (by omega)) (by omega) ?_
    rw [e2]
    refine ev_aload_n (pc := 627) dL_law_627 rfl ?_
    refine ev_iload_n (pc := 628) dL_law_628 rfl ?_
    refine ev_iconst (pc := 629) (v := nI 3) dL_law_629 kc_3 ?_
    refine ev_iadd (pc := 630) dL_law_630 ?_
    (try rw [nI_add])
    refine ev_sld (pc := 631) dL_law_631 (nI_toInt (by omega)) (by omega) ?_
    refine iv_L_104 (pc := 632) rfl dL_law_632 (by (try dsimp only); (repeat (first | rw [up_s] | rw [up_n (by omega)])) <;> first | rfl | assumption) (Nat.le_of_ble_eq_true rfl) (Nat.le_of_ble_eq_true rfl) (Nat.le_of_ble_eq_true rfl) (Nat.le_of_ble_eq_true rfl) (c_D_odds hc hy hb.2.2) (kp ?_)
    refine ev_aload_n (pc := 635) dL_law_635 rfl ?_
    refine ev_aload_n (pc := 636) dL_law_636 rfl ?_
    refine ev_iload_n (pc := 637) dL_law_637 rfl ?_
    refine ev_iconst (pc := 638) (v := nI 1) dL_law_638 kc_1 ?_
    refine ev_iadd (pc := 639) dL_law_639 ?_
    (try rw [nI_add])
    refine ev_sld (pc := 640) dL_law_640 (nI_toInt (by omega)) (by omega) ?_
    rw [e1]
    refine ev_aload_n (pc := 641) dL_law_641 rfl ?_
    refine ev_iload_n (pc := 642) dL_law_642 rfl ?_
    refine ev_iconst (pc := 643) (v := nI 2) dL_law_643 kc_2 ?_
    refine ev_iadd (pc := 644) dL_law_644 ?_
    (try rw [nI_add])
    refine ev_sld (pc := 645) dL_law_645 (nI_toInt (by omega)) (by omega) ?_
    rw [e2]
    refine ev_aload_n (pc := 646) dL_law_646 rfl ?_
    refine ev_iload_n (pc := 647) dL_law_647 rfl ?_
    refine ev_iconst (pc := 648) (v := nI 3) dL_law_648 kc_3 ?_
    refine ev_iadd (pc := 649) dL_law_649 ?_
    (try rw [nI_add])
    refine ev_sld (pc := 650) dL_law_650 (nI_toInt (by omega)) (by omega) ?_
    refine iv_L_108 (pc := 651) rfl dL_law_651 (by (try dsimp only); (repeat (first | rw [up_s] | rw [up_n (by omega)])) <;> first | rfl | assumption) (Nat.le_of_ble_eq_true rfl) (Nat.le_of_ble_eq_true rfl) (Nat.le_of_ble_eq_true rfl) (Nat.le_of_ble_eq_true rfl) (c_M_odds hc hy hb.2.2) (kp ?_)
    refine ev_lcmp (pc := 654) dL_law_654 ?_
    refine ev_if_eq (pc := 655) 776 dL_law_655 (by decide) (fun c_655 => ?_) (fun c_655 => ?_)
    · (try simp (disch := omega) only [i32_lti, i32_lei, i32_eqi, nI_toInt, i32z] at c_655)
      exact K h ⟨cs, B, N, P, I, J, wn, op, n, tr, pc, pm, g.up⟩
    · exfalso; exact c_655 (by rw [lgc_self])
  · skip
    refine ev_aload_n (pc := 616) dL_law_616 rfl ?_
    refine ev_aload_n (pc := 617) dL_law_617 rfl ?_
    refine ev_iload_n (pc := 618) dL_law_618 rfl ?_
    refine ev_iconst (pc := 619) (v := nI 1) dL_law_619 kc_1 ?_
    refine ev_iadd (pc := 620) dL_law_620 ?_
    (try rw [nI_add])
    refine ev_sld (pc := 621) dL_law_621 (nI_toInt (by omega)) (by omega) ?_
    refine ev_aload_n (pc := 622) dL_law_622 rfl ?_
    refine ev_iload_n (pc := 623) dL_law_623 rfl ?_
    refine ev_iconst (pc := 624) (v := nI 2) dL_law_624 kc_2 ?_
    refine ev_iadd (pc := 625) dL_law_625 ?_
    (try rw [nI_add])
    refine ev_sld (pc := 626) dL_law_626 (nI_toInt (by omega)) (by omega) ?_
    refine ev_aload_n (pc := 627) dL_law_627 rfl ?_
    refine ev_iload_n (pc := 628) dL_law_628 rfl ?_
    refine ev_iconst (pc := 629) (v := nI 3) dL_law_629 kc_3 ?_
    refine ev_iadd (pc := 630) dL_law_630 ?_
    (try rw [nI_add])
    refine ev_sld (pc := 631) dL_law_631 (nI_toInt (by omega)) (by omega) ?_
    refine iv_L_104 (pc := 632) rfl dL_law_632 (by (try dsimp only); (repeat (first | rw [up_s] | rw [up_n (by omega)])) <;> first | rfl | assumption) (Nat.le_of_ble_eq_true rfl) (Nat.le_of_ble_eq_true rfl) (Nat.le_of_ble_eq_true rfl) (Nat.le_of_ble_eq_true rfl) (c_D_odds_bad hb) (kp ?_)
    refine ev_aload_n (pc := 635) dL_law_635 rfl ?_
    refine ev_aload_n (pc := 636) dL_law_636 rfl ?_
    refine ev_iload_n (pc := 637) dL_law_637 rfl ?_
    refine ev_iconst (pc := 638) (v := nI 1) dL_law_638 kc_1 ?_
    refine ev_iadd (pc := 639) dL_law_639 ?_
    (try rw [nI_add])
    refine ev_sld (pc := 640) dL_law_640 (nI_toInt (by omega)) (by omega) ?_
    refine ev_aload_n (pc := 641) dL_law_641 rfl ?_
    refine ev_iload_n (pc := 642) dL_law_642 rfl ?_
    refine ev_iconst (pc := 643) (v := nI 2) dL_law_643 kc_2 ?_
    refine ev_iadd (pc := 644) dL_law_644 ?_
    (try rw [nI_add])
    refine ev_sld (pc := 645) dL_law_645 (nI_toInt (by omega)) (by omega) ?_
    refine ev_aload_n (pc := 646) dL_law_646 rfl ?_
    refine ev_iload_n (pc := 647) dL_law_647 rfl ?_
    refine ev_iconst (pc := 648) (v := nI 3) dL_law_648 kc_3 ?_
    refine ev_iadd (pc := 649) dL_law_649 ?_
    (try rw [nI_add])
    refine ev_sld (pc := 650) dL_law_650 (nI_toInt (by omega)) (by omega) ?_
    refine iv_L_108 (pc := 651) rfl dL_law_651 (by (try dsimp only); (repeat (first | rw [up_s] | rw [up_n (by omega)])) <;> first | rfl | assumption) (Nat.le_of_ble_eq_true rfl) (Nat.le_of_ble_eq_true rfl) (Nat.le_of_ble_eq_true rfl) (Nat.le_of_ble_eq_true rfl) (c_M_odds_bad hb) (kp ?_)
    refine ev_lcmp (pc := 654) dL_law_654 ?_
    refine ev_if_eq (pc := 655) 776 dL_law_655 (by decide) (fun c_655 => ?_) (fun c_655 => ?_)
    · (try simp (disch := omega) only [i32_lti, i32_lei, i32_eqi, nI_toInt, i32z] at c_655)
      exact K h ⟨cs, B, N, P, I, J, wn, op, n, tr, pc, pm, g.up⟩
    · exfalso; exact c_655 (by rw [lgc_self])
theorem law_mark (S : lSt h d m k) (hk : k ≤ 64) (dm : d + 174 ≤ m) (hi : i + 4 ≤ xL X) (hL : xL X ≤ 256) (K : ∀ h' : Hp, lSt h' d m (k + 1) → Ev X (mi_L_law nm 10 600000 7302250) QL 191 14323 (h', z) 776 [.ref (xb X), .ref d, .ref m, .int (nI i)] []) : Ev X (mi_L_law nm 10 600000 7302250) QL 191 14323 (h, z) 660 [.ref (xb X), .ref d, .ref m, .int (nI i)] [] := by
  obtain ⟨cs, B, N, P, I, J, wn, op, n, tr, pc, pm, g⟩ := S
  obtain ⟨b9, gN, -⟩ := id g
  have h6 := b9.1
  have wN := gN.1.1
  have hd0 := pc.1
  unfold pDO at hd0
  obtain ⟨fm, hm0⟩ := pm.obj
  have b9g : wB (9 + k) B := ⟨b9.1, b9.2.1, b9.2.2.1, b9.2.2.2.1, b9.2.2.2.2.1, b9.2.2.2.2.2.1, fun x hx => Nat.le_trans (b9.2.2.2.2.2.2 x hx) (Nat.le_add_right _ _)⟩
  have gg : gT B (9 + k) N := ⟨gN.1.1, gN.1.2.1, by have := gN.1.2.2.1; omega, gN.1.2.2.2⟩
  by_cases hb : (0 ≤ (xs X (i + 1)).toInt ∧ (xs X (i + 1)).toInt < 6) ∧ iTn (bT B) (xs X (i + 2)) = true
  · obtain ⟨c, hc, e1⟩ := iNb (b := 5) (show 0 ≤ (xs X (i + 1)).toInt ∧ (xs X (i + 1)).toInt ≤ ((5 : Nat) : Int) by omega)
    obtain ⟨t, ht, -, e2⟩ := iTn_t hb.2
    have h5 : c = 0 ∨ c = 1 ∨ c = 2 ∨ c = 3 ∨ c = 4 ∨ c = 5 := by omega
    rcases h5 with q | q | q | q | q | q <;> subst q
    · skip
      refine ev_aload_n (pc := 660) dL_law_660 rfl ?_
      refine ev_aload_n (pc := 661) dL_law_661 rfl ?_
      refine ev_iload_n (pc := 662) dL_law_662 rfl ?_
      refine ev_iconst (pc := 663) (v := nI 1) dL_law_663 kc_1 ?_
      refine ev_iadd (pc := 664) dL_law_664 ?_
      (try rw [nI_add])
      refine ev_sld (pc := 665) dL_law_665 (nI_toInt (by omega)) (by omega) ?_
      rw [e1]
      refine ev_aload_n (pc := 666) dL_law_666 rfl ?_
      refine ev_iload_n (pc := 667) dL_law_667 rfl ?_
      refine ev_iconst (pc := 668) (v := nI 2) dL_law_668 kc_2 ?_
      refine ev_iadd (pc := 669) dL_law_669 ?_
      (try rw [nI_add])
      refine ev_sld (pc := 670) dL_law_670 (nI_toInt (by omega)) (by omega) ?_
      rw [e2]
      refine iv_L_109 (pc := 671) rfl dL_law_671 (by (try dsimp only); (repeat (first | rw [up_s] | rw [up_n (by omega)])) <;> first | rfl | assumption) (Nat.le_of_ble_eq_true rfl) (Nat.le_of_ble_eq_true rfl) (Nat.le_of_ble_eq_true rfl) (Nat.le_of_ble_eq_true rfl) (c_D_mark0 pc b9 wN ht) (ki (fun r S' hS => ?_))
      obtain ⟨h1, z1⟩ := S'
      obtain ⟨rfl, rfl, f1, p1⟩ := hS
      have pm1 := pm.fr (h' := h1) (fun q a b => f1 q (by omega))
      obtain ⟨fm1, hm1⟩ := pm1.obj
      refine ev_aload_n (pc := 674) dL_law_674 rfl ?_
      refine ev_aload_n (pc := 675) dL_law_675 rfl ?_
      refine ev_iload_n (pc := 676) dL_law_676 rfl ?_
      refine ev_iconst (pc := 677) (v := nI 1) dL_law_677 kc_1 ?_
      refine ev_iadd (pc := 678) dL_law_678 ?_
      (try rw [nI_add])
      refine ev_sld (pc := 679) dL_law_679 (nI_toInt (by omega)) (by omega) ?_
      rw [e1]
      refine ev_aload_n (pc := 680) dL_law_680 rfl ?_
      refine ev_iload_n (pc := 681) dL_law_681 rfl ?_
      refine ev_iconst (pc := 682) (v := nI 2) dL_law_682 kc_2 ?_
      refine ev_iadd (pc := 683) dL_law_683 ?_
      (try rw [nI_add])
      refine ev_sld (pc := 684) dL_law_684 (nI_toInt (by omega)) (by omega) ?_
      rw [e2]
      refine iv_L_112 (pc := 685) rfl dL_law_685 (by (try dsimp only); (repeat (first | rw [up_s] | rw [up_n (by omega)])) <;> first | rfl | assumption) (Nat.le_of_ble_eq_true rfl) (Nat.le_of_ble_eq_true rfl) (Nat.le_of_ble_eq_true rfl) (Nat.le_of_ble_eq_true rfl) (c_M_mark0 pm1 b9 wN ht) (ki (fun r S' hS => ?_))
      obtain ⟨h2, z2⟩ := S'
      obtain ⟨rfl, rfl, f2, p2⟩ := hS
      refine ev_icmp_eq (pc := 688) 776 dL_law_688 (by decide) (fun c_688 => ?_) (fun c_688 => ?_)
      · (try simp (disch := omega) only [i32_lti, i32_lei, i32_eqi, nI_toInt, i32z] at c_688)
        exact K h2 ⟨cs, B, N, P, I, J, wn, op, n, _, p1.fr (fun q a b => f2 q (by omega)), p2, g.up⟩
      · exact absurd rfl c_688
    · skip
      refine ev_aload_n (pc := 660) dL_law_660 rfl ?_
      refine ev_aload_n (pc := 661) dL_law_661 rfl ?_
      refine ev_iload_n (pc := 662) dL_law_662 rfl ?_
      refine ev_iconst (pc := 663) (v := nI 1) dL_law_663 kc_1 ?_
      refine ev_iadd (pc := 664) dL_law_664 ?_
      (try rw [nI_add])
      refine ev_sld (pc := 665) dL_law_665 (nI_toInt (by omega)) (by omega) ?_
      rw [e1]
      refine ev_aload_n (pc := 666) dL_law_666 rfl ?_
      refine ev_iload_n (pc := 667) dL_law_667 rfl ?_
      refine ev_iconst (pc := 668) (v := nI 2) dL_law_668 kc_2 ?_
      refine ev_iadd (pc := 669) dL_law_669 ?_
      (try rw [nI_add])
      refine ev_sld (pc := 670) dL_law_670 (nI_toInt (by omega)) (by omega) ?_
      rw [e2]
      refine iv_L_109 (pc := 671) rfl dL_law_671 (by (try dsimp only); (repeat (first | rw [up_s] | rw [up_n (by omega)])) <;> first | rfl | assumption) (Nat.le_of_ble_eq_true rfl) (Nat.le_of_ble_eq_true rfl) (Nat.le_of_ble_eq_true rfl) (Nat.le_of_ble_eq_true rfl) (c_D_mark1 pc b9 wN ht) (ki (fun r S' hS => ?_))
      obtain ⟨h1, z1⟩ := S'
      obtain ⟨rfl, rfl, f1, p1⟩ := hS
      have pm1 := pm.fr (h' := h1) (fun q a b => f1 q (by omega))
      obtain ⟨fm1, hm1⟩ := pm1.obj
      refine ev_aload_n (pc := 674) dL_law_674 rfl ?_
      refine ev_aload_n (pc := 675) dL_law_675 rfl ?_
      refine ev_iload_n (pc := 676) dL_law_676 rfl ?_
      refine ev_iconst (pc := 677) (v := nI 1) dL_law_677 kc_1 ?_
      refine ev_iadd (pc := 678) dL_law_678 ?_
      (try rw [nI_add])
      refine ev_sld (pc := 679) dL_law_679 (nI_toInt (by omega)) (by omega) ?_
      rw [e1]
      refine ev_aload_n (pc := 680) dL_law_680 rfl ?_
      refine ev_iload_n (pc := 681) dL_law_681 rfl ?_
      refine ev_iconst (pc := 682) (v := nI 2) dL_law_682 kc_2 ?_
      refine ev_iadd (pc := 683) dL_law_683 ?_
      (try rw [nI_add])
      refine ev_sld (pc := 684) dL_law_684 (nI_toInt (by omega)) (by omega) ?_
      rw [e2]
      refine iv_L_112 (pc := 685) rfl dL_law_685 (by (try dsimp only); (repeat (first | rw [up_s] | rw [up_n (by omega)])) <;> first | rfl | assumption) (Nat.le_of_ble_eq_true rfl) (Nat.le_of_ble_eq_true rfl) (Nat.le_of_ble_eq_true rfl) (Nat.le_of_ble_eq_true rfl) (c_M_mark1 pm1 b9 wN ht) (ki (fun r S' hS => ?_))
      obtain ⟨h2, z2⟩ := S'
      obtain ⟨rfl, rfl, f2, p2⟩ := hS
      refine ev_icmp_eq (pc := 688) 776 dL_law_688 (by decide) (fun c_688 => ?_) (fun c_688 => ?_)
      · (try simp (disch := omega) only [i32_lti, i32_lei, i32_eqi, nI_toInt, i32z] at c_688)
        exact K h2 ⟨cs, B, N, P, I, J, wn, op, n, _, p1.fr (fun q a b => f2 q (by omega)), p2, g.up⟩
      · exact absurd rfl c_688
    · skip
      refine ev_aload_n (pc := 660) dL_law_660 rfl ?_
      refine ev_aload_n (pc := 661) dL_law_661 rfl ?_
      refine ev_iload_n (pc := 662) dL_law_662 rfl ?_
      refine ev_iconst (pc := 663) (v := nI 1) dL_law_663 kc_1 ?_
      refine ev_iadd (pc := 664) dL_law_664 ?_
      (try rw [nI_add])
      refine ev_sld (pc := 665) dL_law_665 (nI_toInt (by omega)) (by omega) ?_
      rw [e1]
      refine ev_aload_n (pc := 666) dL_law_666 rfl ?_
      refine ev_iload_n (pc := 667) dL_law_667 rfl ?_
      refine ev_iconst (pc := 668) (v := nI 2) dL_law_668 kc_2 ?_
      refine ev_iadd (pc := 669) dL_law_669 ?_
      (try rw [nI_add])
      refine ev_sld (pc := 670) dL_law_670 (nI_toInt (by omega)) (by omega) ?_
      rw [e2]
      refine iv_L_109 (pc := 671) rfl dL_law_671 (by (try dsimp only); (repeat (first | rw [up_s] | rw [up_n (by omega)])) <;> first | rfl | assumption) (Nat.le_of_ble_eq_true rfl) (Nat.le_of_ble_eq_true rfl) (Nat.le_of_ble_eq_true rfl) (Nat.le_of_ble_eq_true rfl) (c_D_mark2 pc b9 wN ht) (ki (fun r S' hS => ?_))
      obtain ⟨h1, z1⟩ := S'
      obtain ⟨rfl, rfl, f1, p1⟩ := hS
      have pm1 := pm.fr (h' := h1) (fun q a b => f1 q (by omega))
      obtain ⟨fm1, hm1⟩ := pm1.obj
      refine ev_aload_n (pc := 674) dL_law_674 rfl ?_
      refine ev_aload_n (pc := 675) dL_law_675 rfl ?_
      refine ev_iload_n (pc := 676) dL_law_676 rfl ?_
      refine ev_iconst (pc := 677) (v := nI 1) dL_law_677 kc_1 ?_
      refine ev_iadd (pc := 678) dL_law_678 ?_
      (try rw [nI_add])
      refine ev_sld (pc := 679) dL_law_679 (nI_toInt (by omega)) (by omega) ?_
      rw [e1]
      refine ev_aload_n (pc := 680) dL_law_680 rfl ?_
      refine ev_iload_n (pc := 681) dL_law_681 rfl ?_
      refine ev_iconst (pc := 682) (v := nI 2) dL_law_682 kc_2 ?_
      refine ev_iadd (pc := 683) dL_law_683 ?_
      (try rw [nI_add])
      refine ev_sld (pc := 684) dL_law_684 (nI_toInt (by omega)) (by omega) ?_
      rw [e2]
      refine iv_L_112 (pc := 685) rfl dL_law_685 (by (try dsimp only); (repeat (first | rw [up_s] | rw [up_n (by omega)])) <;> first | rfl | assumption) (Nat.le_of_ble_eq_true rfl) (Nat.le_of_ble_eq_true rfl) (Nat.le_of_ble_eq_true rfl) (Nat.le_of_ble_eq_true rfl) (c_M_mark2 pm1 b9 wN ht) (ki (fun r S' hS => ?_))
      obtain ⟨h2, z2⟩ := S'
      obtain ⟨rfl, rfl, f2, p2⟩ := hS
      refine ev_icmp_eq (pc := 688) 776 dL_law_688 (by decide) (fun c_688 => ?_) (fun c_688 => ?_)
      · (try simp (disch := omega) only [i32_lti, i32_lei, i32_eqi, nI_toInt, i32z] at c_688)
        exact K h2 ⟨cs, B, N, P, I, J, wn, op, n, _, p1.fr (fun q a b => f2 q (by omega)), p2, g.up⟩
      · exact absurd rfl c_688
    · skip
      refine ev_aload_n (pc := 660) dL_law_660 rfl ?_
      refine ev_aload_n (pc := 661) dL_law_661 rfl ?_
      refine ev_iload_n (pc := 662) dL_law_662 rfl ?_
      refine ev_iconst (pc := 663) (v := nI 1) dL_law_663 kc_1 ?_
      refine ev_iadd (pc := 664) dL_law_664 ?_
      (try rw [nI_add])
      refine ev_sld (pc := 665) dL_law_665 (nI_toInt (by omega)) (by omega) ?_
      rw [e1]
      refine ev_aload_n (pc := 666) dL_law_666 rfl ?_
      refine ev_iload_n (pc := 667) dL_law_667 rfl ?_
      refine ev_iconst (pc := 668) (v := nI 2) dL_law_668 kc_2 ?_
      refine ev_iadd (pc := 669) dL_law_669 ?_
      (try rw [nI_add])
      refine ev_sld (pc := 670) dL_law_670 (nI_toInt (by omega)) (by omega) ?_
      rw [e2]
      refine iv_L_109 (pc := 671) rfl dL_law_671 (by (try dsimp only); (repeat (first | rw [up_s] | rw [up_n (by omega)])) <;> first | rfl | assumption) (Nat.le_of_ble_eq_true rfl) (Nat.le_of_ble_eq_true rfl) (Nat.le_of_ble_eq_true rfl) (Nat.le_of_ble_eq_true rfl) (c_D_mark3 pc b9 wN ht) (ki (fun r S' hS => ?_))
      obtain ⟨h1, z1⟩ := S'
      obtain ⟨rfl, rfl, f1, p1⟩ := hS
      have pm1 := pm.fr (h' := h1) (fun q a b => f1 q (by omega))
      obtain ⟨fm1, hm1⟩ := pm1.obj
      refine ev_aload_n (pc := 674) dL_law_674 rfl ?_
      refine ev_aload_n (pc := 675) dL_law_675 rfl ?_
      refine ev_iload_n (pc := 676) dL_law_676 rfl ?_
      refine ev_iconst (pc := 677) (v := nI 1) dL_law_677 kc_1 ?_
      refine ev_iadd (pc := 678) dL_law_678 ?_
      (try rw [nI_add])
      refine ev_sld (pc := 679) dL_law_679 (nI_toInt (by omega)) (by omega) ?_
      rw [e1]
      refine ev_aload_n (pc := 680) dL_law_680 rfl ?_
      refine ev_iload_n (pc := 681) dL_law_681 rfl ?_
      refine ev_iconst (pc := 682) (v := nI 2) dL_law_682 kc_2 ?_
      refine ev_iadd (pc := 683) dL_law_683 ?_
      (try rw [nI_add])
      refine ev_sld (pc := 684) dL_law_684 (nI_toInt (by omega)) (by omega) ?_
      rw [e2]
      refine iv_L_112 (pc := 685) rfl dL_law_685 (by (try dsimp only); (repeat (first | rw [up_s] | rw [up_n (by omega)])) <;> first | rfl | assumption) (Nat.le_of_ble_eq_true rfl) (Nat.le_of_ble_eq_true rfl) (Nat.le_of_ble_eq_true rfl) (Nat.le_of_ble_eq_true rfl) (c_M_mark3 pm1 b9 wN ht) (ki (fun r S' hS => ?_))
      obtain ⟨h2, z2⟩ := S'
      obtain ⟨rfl, rfl, f2, p2⟩ := hS
      refine ev_icmp_eq (pc := 688) 776 dL_law_688 (by decide) (fun c_688 => ?_) (fun c_688 => ?_)
      · (try simp (disch := omega) only [i32_lti, i32_lei, i32_eqi, nI_toInt, i32z] at c_688)
        exact K h2 ⟨cs, B, N, P, I, J, wn, op, n, _, p1.fr (fun q a b => f2 q (by omega)), p2, g.up⟩
      · exact absurd rfl c_688
    · skip
      refine ev_aload_n (pc := 660) dL_law_660 rfl ?_
      refine ev_aload_n (pc := 661) dL_law_661 rfl ?_
      refine ev_iload_n (pc := 662) dL_law_662 rfl ?_
      refine ev_iconst (pc := 663) (v := nI 1) dL_law_663 kc_1 ?_
      refine ev_iadd (pc := 664) dL_law_664 ?_
      (try rw [nI_add])
      refine ev_sld (pc := 665) dL_law_665 (nI_toInt (by omega)) (by omega) ?_
      rw [e1]
      refine ev_aload_n (pc := 666) dL_law_666 rfl ?_
      refine ev_iload_n (pc := 667) dL_law_667 rfl ?_
      refine ev_iconst (pc := 668) (v := nI 2) dL_law_668 kc_2 ?_
      refine ev_iadd (pc := 669) dL_law_669 ?_
      (try rw [nI_add])
      refine ev_sld (pc := 670) dL_law_670 (nI_toInt (by omega)) (by omega) ?_
      rw [e2]
      refine iv_L_109 (pc := 671) rfl dL_law_671 (by (try dsimp only); (repeat (first | rw [up_s] | rw [up_n (by omega)])) <;> first | rfl | assumption) (Nat.le_of_ble_eq_true rfl) (Nat.le_of_ble_eq_true rfl) (Nat.le_of_ble_eq_true rfl) (Nat.le_of_ble_eq_true rfl) (c_D_mark4 pc b9 wN ht) (ki (fun r S' hS => ?_))
      obtain ⟨h1, z1⟩ := S'
      obtain ⟨rfl, rfl, f1, p1⟩ := hS
      have pm1 := pm.fr (h' := h1) (fun q a b => f1 q (by omega))
      obtain ⟨fm1, hm1⟩ := pm1.obj
      refine ev_aload_n (pc := 674) dL_law_674 rfl ?_
      refine ev_aload_n (pc := 675) dL_law_675 rfl ?_
      refine ev_iload_n (pc := 676) dL_law_676 rfl ?_
      refine ev_iconst (pc := 677) (v := nI 1) dL_law_677 kc_1 ?_
      refine ev_iadd (pc := 678) dL_law_678 ?_
      (try rw [nI_add])
      refine ev_sld (pc := 679) dL_law_679 (nI_toInt (by omega)) (by omega) ?_
      rw [e1]
      refine ev_aload_n (pc := 680) dL_law_680 rfl ?_
      refine ev_iload_n (pc := 681) dL_law_681 rfl ?_
      refine ev_iconst (pc := 682) (v := nI 2) dL_law_682 kc_2 ?_
      refine ev_iadd (pc := 683) dL_law_683 ?_
      (try rw [nI_add])
      refine ev_sld (pc := 684) dL_law_684 (nI_toInt (by omega)) (by omega) ?_
      rw [e2]
      refine iv_L_112 (pc := 685) rfl dL_law_685 (by (try dsimp only); (repeat (first | rw [up_s] | rw [up_n (by omega)])) <;> first | rfl | assumption) (Nat.le_of_ble_eq_true rfl) (Nat.le_of_ble_eq_true rfl) (Nat.le_of_ble_eq_true rfl) (Nat.le_of_ble_eq_true rfl) (c_M_mark4 pm1 b9 wN ht) (ki (fun r S' hS => ?_))
      obtain ⟨h2, z2⟩ := S'
      obtain ⟨rfl, rfl, f2, p2⟩ := hS
      refine ev_icmp_eq (pc := 688) 776 dL_law_688 (by decide) (fun c_688 => ?_) (fun c_688 => ?_)
      · (try simp (disch := omega) only [i32_lti, i32_lei, i32_eqi, nI_toInt, i32z] at c_688)
        exact K h2 ⟨cs, B, N, P, I, J, wn, op, n, _, p1.fr (fun q a b => f2 q (by omega)), p2, g.up⟩
      · exact absurd rfl c_688
    · skip
      refine ev_aload_n (pc := 660) dL_law_660 rfl ?_
      refine ev_aload_n (pc := 661) dL_law_661 rfl ?_
      refine ev_iload_n (pc := 662) dL_law_662 rfl ?_
      refine ev_iconst (pc := 663) (v := nI 1) dL_law_663 kc_1 ?_
      refine ev_iadd (pc := 664) dL_law_664 ?_
      (try rw [nI_add])
      refine ev_sld (pc := 665) dL_law_665 (nI_toInt (by omega)) (by omega) ?_
      rw [e1]
      refine ev_aload_n (pc := 666) dL_law_666 rfl ?_
      refine ev_iload_n (pc := 667) dL_law_667 rfl ?_
      refine ev_iconst (pc := 668) (v := nI 2) dL_law_668 kc_2 ?_
      refine ev_iadd (pc := 669) dL_law_669 ?_
      (try rw [nI_add])
      refine ev_sld (pc := 670) dL_law_670 (nI_toInt (by omega)) (by omega) ?_
      rw [e2]
      refine iv_L_109 (pc := 671) rfl dL_law_671 (by (try dsimp only); (repeat (first | rw [up_s] | rw [up_n (by omega)])) <;> first | rfl | assumption) (Nat.le_of_ble_eq_true rfl) (Nat.le_of_ble_eq_true rfl) (Nat.le_of_ble_eq_true rfl) (Nat.le_of_ble_eq_true rfl) (c_D_mark5 pc b9 wN ht) (ki (fun r S' hS => ?_))
      obtain ⟨h1, z1⟩ := S'
      obtain ⟨rfl, rfl, f1, p1⟩ := hS
      have pm1 := pm.fr (h' := h1) (fun q a b => f1 q (by omega))
      obtain ⟨fm1, hm1⟩ := pm1.obj
      refine ev_aload_n (pc := 674) dL_law_674 rfl ?_
      refine ev_aload_n (pc := 675) dL_law_675 rfl ?_
      refine ev_iload_n (pc := 676) dL_law_676 rfl ?_
      refine ev_iconst (pc := 677) (v := nI 1) dL_law_677 kc_1 ?_
      refine ev_iadd (pc := 678) dL_law_678 ?_
      (try rw [nI_add])
      refine ev_sld (pc := 679) dL_law_679 (nI_toInt (by omega)) (by omega) ?_
      rw [e1]
      refine ev_aload_n (pc := 680) dL_law_680 rfl ?_
      refine ev_iload_n (pc := 681) dL_law_681 rfl ?_
      refine ev_iconst (pc := 682) (v := nI 2) dL_law_682 kc_2 ?_
      refine ev_iadd (pc := 683) dL_law_683 ?_
      (try rw [nI_add])
      refine ev_sld (pc := 684) dL_law_684 (nI_toInt (by omega)) (by omega) ?_
      rw [e2]
      refine iv_L_112 (pc := 685) rfl dL_law_685 (by (try dsimp only); (repeat (first | rw [up_s] | rw [up_n (by omega)])) <;> first | rfl | assumption) (Nat.le_of_ble_eq_true rfl) (Nat.le_of_ble_eq_true rfl) (Nat.le_of_ble_eq_true rfl) (Nat.le_of_ble_eq_true rfl) (c_M_mark5 pm1 b9 wN ht) (ki (fun r S' hS => ?_))
      obtain ⟨h2, z2⟩ := S'
      obtain ⟨rfl, rfl, f2, p2⟩ := hS
      refine ev_icmp_eq (pc := 688) 776 dL_law_688 (by decide) (fun c_688 => ?_) (fun c_688 => ?_)
      · (try simp (disch := omega) only [i32_lti, i32_lei, i32_eqi, nI_toInt, i32z] at c_688)
        exact K h2 ⟨cs, B, N, P, I, J, wn, op, n, _, p1.fr (fun q a b => f2 q (by omega)), p2, g.up⟩
      · exact absurd rfl c_688
  · skip
    refine ev_aload_n (pc := 660) dL_law_660 rfl ?_
    refine ev_aload_n (pc := 661) dL_law_661 rfl ?_
    refine ev_iload_n (pc := 662) dL_law_662 rfl ?_
    refine ev_iconst (pc := 663) (v := nI 1) dL_law_663 kc_1 ?_
    refine ev_iadd (pc := 664) dL_law_664 ?_
    (try rw [nI_add])
    refine ev_sld (pc := 665) dL_law_665 (nI_toInt (by omega)) (by omega) ?_
    refine ev_aload_n (pc := 666) dL_law_666 rfl ?_
    refine ev_iload_n (pc := 667) dL_law_667 rfl ?_
    refine ev_iconst (pc := 668) (v := nI 2) dL_law_668 kc_2 ?_
    refine ev_iadd (pc := 669) dL_law_669 ?_
    (try rw [nI_add])
    refine ev_sld (pc := 670) dL_law_670 (nI_toInt (by omega)) (by omega) ?_
    refine iv_L_109 (pc := 671) rfl dL_law_671 (by (try dsimp only); (repeat (first | rw [up_s] | rw [up_n (by omega)])) <;> first | rfl | assumption) (Nat.le_of_ble_eq_true rfl) (Nat.le_of_ble_eq_true rfl) (Nat.le_of_ble_eq_true rfl) (Nat.le_of_ble_eq_true rfl) (c_D_mark_bad pc b9 hb) (kp ?_)
    refine ev_aload_n (pc := 674) dL_law_674 rfl ?_
    refine ev_aload_n (pc := 675) dL_law_675 rfl ?_
    refine ev_iload_n (pc := 676) dL_law_676 rfl ?_
    refine ev_iconst (pc := 677) (v := nI 1) dL_law_677 kc_1 ?_
    refine ev_iadd (pc := 678) dL_law_678 ?_
    (try rw [nI_add])
    refine ev_sld (pc := 679) dL_law_679 (nI_toInt (by omega)) (by omega) ?_
    refine ev_aload_n (pc := 680) dL_law_680 rfl ?_
    refine ev_iload_n (pc := 681) dL_law_681 rfl ?_
    refine ev_iconst (pc := 682) (v := nI 2) dL_law_682 kc_2 ?_
    refine ev_iadd (pc := 683) dL_law_683 ?_
    (try rw [nI_add])
    refine ev_sld (pc := 684) dL_law_684 (nI_toInt (by omega)) (by omega) ?_
    refine iv_L_112 (pc := 685) rfl dL_law_685 (by (try dsimp only); (repeat (first | rw [up_s] | rw [up_n (by omega)])) <;> first | rfl | assumption) (Nat.le_of_ble_eq_true rfl) (Nat.le_of_ble_eq_true rfl) (Nat.le_of_ble_eq_true rfl) (Nat.le_of_ble_eq_true rfl) (c_M_mark_bad pm b9 hb) (kp ?_)
    refine ev_icmp_eq (pc := 688) 776 dL_law_688 (by decide) (fun c_688 => ?_) (fun c_688 => ?_)
    · (try simp (disch := omega) only [i32_lti, i32_lei, i32_eqi, nI_toInt, i32z] at c_688)
      exact K h ⟨cs, B, N, P, I, J, wn, op, n, tr, pc, pm, g.up⟩
    · exact absurd rfl c_688
theorem law_keep (S : lSt h d m k) (hk : k ≤ 64) (dm : d + 174 ≤ m) (hi : i + 4 ≤ xL X) (hL : xL X ≤ 256) (K : ∀ h' : Hp, lSt h' d m (k + 1) → Ev X (mi_L_law nm 10 600000 7302250) QL 191 14323 (h', z) 776 [.ref (xb X), .ref d, .ref m, .int (nI i)] []) : Ev X (mi_L_law nm 10 600000 7302250) QL 191 14323 (h, z) 693 [.ref (xb X), .ref d, .ref m, .int (nI i)] [] := by
  obtain ⟨cs, B, N, P, I, J, wn, op, n, tr, pc, pm, g⟩ := S
  obtain ⟨b9, gN, -⟩ := id g
  have h6 := b9.1
  have wN := gN.1.1
  have hd0 := pc.1
  unfold pDO at hd0
  obtain ⟨fm, hm0⟩ := pm.obj
  have b9g : wB (9 + k) B := ⟨b9.1, b9.2.1, b9.2.2.1, b9.2.2.2.1, b9.2.2.2.2.1, b9.2.2.2.2.2.1, fun x hx => Nat.le_trans (b9.2.2.2.2.2.2 x hx) (Nat.le_add_right _ _)⟩
  have gg : gT B (9 + k) N := ⟨gN.1.1, gN.1.2.1, by have := gN.1.2.2.1; omega, gN.1.2.2.2⟩
  by_cases hb : 0 ≤ (xs X (i + 1)).toInt ∧ (xs X (i + 1)).toInt < 2
  by_cases e10 : (xs X (i + 1)) = nI 0
  · skip
    refine ev_aload_n (pc := 693) dL_law_693 rfl ?_
    refine ev_aload_n (pc := 694) dL_law_694 rfl ?_
    refine ev_iload_n (pc := 695) dL_law_695 rfl ?_
    refine ev_iconst (pc := 696) (v := nI 1) dL_law_696 kc_1 ?_
    refine ev_iadd (pc := 697) dL_law_697 ?_
    (try rw [nI_add])
    refine ev_sld (pc := 698) dL_law_698 (nI_toInt (by omega)) (by omega) ?_
    rw [e10]
    refine iv_L_113 (pc := 699) rfl dL_law_699 (by (try dsimp only); (repeat (first | rw [up_s] | rw [up_n (by omega)])) <;> first | rfl | assumption) (Nat.le_of_ble_eq_true rfl) (Nat.le_of_ble_eq_true rfl) (Nat.le_of_ble_eq_true rfl) (Nat.le_of_ble_eq_true rfl) (c_D_keep0 pc) (ki (fun r S' hS => ?_))
    obtain ⟨h1, z1⟩ := S'
    obtain ⟨rfl, rfl, f1, p1⟩ := hS
    have pm1 := pm.fr (h' := h1) (fun q a b => f1 q (by omega))
    obtain ⟨fm1, hm1⟩ := pm1.obj
    refine ev_aload_n (pc := 702) dL_law_702 rfl ?_
    refine ev_aload_n (pc := 703) dL_law_703 rfl ?_
    refine ev_iload_n (pc := 704) dL_law_704 rfl ?_
    refine ev_iconst (pc := 705) (v := nI 1) dL_law_705 kc_1 ?_
    refine ev_iadd (pc := 706) dL_law_706 ?_
    (try rw [nI_add])
    refine ev_sld (pc := 707) dL_law_707 (nI_toInt (by omega)) (by omega) ?_
    rw [e10]
    refine iv_L_116 (pc := 708) rfl dL_law_708 (by (try dsimp only); (repeat (first | rw [up_s] | rw [up_n (by omega)])) <;> first | rfl | assumption) (Nat.le_of_ble_eq_true rfl) (Nat.le_of_ble_eq_true rfl) (Nat.le_of_ble_eq_true rfl) (Nat.le_of_ble_eq_true rfl) (c_M_keep pm1 (i := 0) (by omega)) (ki (fun r S' hS => ?_))
    obtain ⟨h2, z2⟩ := S'
    obtain ⟨rfl, rfl, f2, p2⟩ := hS
    refine ev_icmp_eq (pc := 711) 776 dL_law_711 (by decide) (fun c_711 => ?_) (fun c_711 => ?_)
    · (try simp (disch := omega) only [i32_lti, i32_lei, i32_eqi, nI_toInt, i32z] at c_711)
      exact K h2 ⟨cs, B, N, P, _, _, wn, op, n, tr, p1.fr (fun q a b => f2 q (by omega)), p2, g.keep0⟩
    · exact absurd rfl c_711
  · have e11 : (xs X (i + 1)) = nI 1 := by
        obtain ⟨c, hc, ec⟩ := iNb (b := 1) (show 0 ≤ (xs X (i + 1)).toInt ∧ (xs X (i + 1)).toInt ≤ ((1 : Nat) : Int) by omega)
        have h5 : c = 0 ∨ c = 1 := by omega
        rcases h5 with q | q <;> subst q
        · exact absurd ec e10
        · exact ec
    refine ev_aload_n (pc := 693) dL_law_693 rfl ?_
    refine ev_aload_n (pc := 694) dL_law_694 rfl ?_
    refine ev_iload_n (pc := 695) dL_law_695 rfl ?_
    refine ev_iconst (pc := 696) (v := nI 1) dL_law_696 kc_1 ?_
    refine ev_iadd (pc := 697) dL_law_697 ?_
    (try rw [nI_add])
    refine ev_sld (pc := 698) dL_law_698 (nI_toInt (by omega)) (by omega) ?_
    rw [e11]
    refine iv_L_113 (pc := 699) rfl dL_law_699 (by (try dsimp only); (repeat (first | rw [up_s] | rw [up_n (by omega)])) <;> first | rfl | assumption) (Nat.le_of_ble_eq_true rfl) (Nat.le_of_ble_eq_true rfl) (Nat.le_of_ble_eq_true rfl) (Nat.le_of_ble_eq_true rfl) (c_D_keep1 pc) (ki (fun r S' hS => ?_))
    obtain ⟨h1, z1⟩ := S'
    obtain ⟨rfl, rfl, f1, p1⟩ := hS
    have pm1 := pm.fr (h' := h1) (fun q a b => f1 q (by omega))
    obtain ⟨fm1, hm1⟩ := pm1.obj
    refine ev_aload_n (pc := 702) dL_law_702 rfl ?_
    refine ev_aload_n (pc := 703) dL_law_703 rfl ?_
    refine ev_iload_n (pc := 704) dL_law_704 rfl ?_
    refine ev_iconst (pc := 705) (v := nI 1) dL_law_705 kc_1 ?_
    refine ev_iadd (pc := 706) dL_law_706 ?_
    (try rw [nI_add])
    refine ev_sld (pc := 707) dL_law_707 (nI_toInt (by omega)) (by omega) ?_
    rw [e11]
    refine iv_L_116 (pc := 708) rfl dL_law_708 (by (try dsimp only); (repeat (first | rw [up_s] | rw [up_n (by omega)])) <;> first | rfl | assumption) (Nat.le_of_ble_eq_true rfl) (Nat.le_of_ble_eq_true rfl) (Nat.le_of_ble_eq_true rfl) (Nat.le_of_ble_eq_true rfl) (c_M_keep pm1 (i := 1) (by omega)) (ki (fun r S' hS => ?_))
    obtain ⟨h2, z2⟩ := S'
    obtain ⟨rfl, rfl, f2, p2⟩ := hS
    refine ev_icmp_eq (pc := 711) 776 dL_law_711 (by decide) (fun c_711 => ?_) (fun c_711 => ?_)
    · (try simp (disch := omega) only [i32_lti, i32_lei, i32_eqi, nI_toInt, i32z] at c_711)
      exact K h2 ⟨cs, B, N, P, _, _, wn, op, n, tr, p1.fr (fun q a b => f2 q (by omega)), p2, g.keep1⟩
    · exact absurd rfl c_711
  · skip
    refine ev_aload_n (pc := 693) dL_law_693 rfl ?_
    refine ev_aload_n (pc := 694) dL_law_694 rfl ?_
    refine ev_iload_n (pc := 695) dL_law_695 rfl ?_
    refine ev_iconst (pc := 696) (v := nI 1) dL_law_696 kc_1 ?_
    refine ev_iadd (pc := 697) dL_law_697 ?_
    (try rw [nI_add])
    refine ev_sld (pc := 698) dL_law_698 (nI_toInt (by omega)) (by omega) ?_
    refine iv_L_113 (pc := 699) rfl dL_law_699 (by (try dsimp only); (repeat (first | rw [up_s] | rw [up_n (by omega)])) <;> first | rfl | assumption) (Nat.le_of_ble_eq_true rfl) (Nat.le_of_ble_eq_true rfl) (Nat.le_of_ble_eq_true rfl) (Nat.le_of_ble_eq_true rfl) (c_D_keep_bad hb) (kp ?_)
    refine ev_aload_n (pc := 702) dL_law_702 rfl ?_
    refine ev_aload_n (pc := 703) dL_law_703 rfl ?_
    refine ev_iload_n (pc := 704) dL_law_704 rfl ?_
    refine ev_iconst (pc := 705) (v := nI 1) dL_law_705 kc_1 ?_
    refine ev_iadd (pc := 706) dL_law_706 ?_
    (try rw [nI_add])
    refine ev_sld (pc := 707) dL_law_707 (nI_toInt (by omega)) (by omega) ?_
    refine iv_L_116 (pc := 708) rfl dL_law_708 (by (try dsimp only); (repeat (first | rw [up_s] | rw [up_n (by omega)])) <;> first | rfl | assumption) (Nat.le_of_ble_eq_true rfl) (Nat.le_of_ble_eq_true rfl) (Nat.le_of_ble_eq_true rfl) (Nat.le_of_ble_eq_true rfl) (c_M_keep_bad hb) (kp ?_)
    refine ev_icmp_eq (pc := 711) 776 dL_law_711 (by decide) (fun c_711 => ?_) (fun c_711 => ?_)
    · (try simp (disch := omega) only [i32_lti, i32_lei, i32_eqi, nI_toInt, i32z] at c_711)
      exact K h ⟨cs, B, N, P, I, J, wn, op, n, tr, pc, pm, g.up⟩
    · exact absurd rfl c_711
theorem law_back (S : lSt h d m k) (hk : k ≤ 64) (dm : d + 174 ≤ m) (hi : i + 4 ≤ xL X) (hL : xL X ≤ 256) (K : ∀ h' : Hp, lSt h' d m (k + 1) → Ev X (mi_L_law nm 10 600000 7302250) QL 191 14323 (h', z) 776 [.ref (xb X), .ref d, .ref m, .int (nI i)] []) : Ev X (mi_L_law nm 10 600000 7302250) QL 191 14323 (h, z) 716 [.ref (xb X), .ref d, .ref m, .int (nI i)] [] := by
  obtain ⟨cs, B, N, P, I, J, wn, op, n, tr, pc, pm, g⟩ := S
  obtain ⟨b9, gN, -⟩ := id g
  have h6 := b9.1
  have wN := gN.1.1
  have hd0 := pc.1
  unfold pDO at hd0
  obtain ⟨fm, hm0⟩ := pm.obj
  have b9g : wB (9 + k) B := ⟨b9.1, b9.2.1, b9.2.2.1, b9.2.2.2.1, b9.2.2.2.2.1, b9.2.2.2.2.2.1, fun x hx => Nat.le_trans (b9.2.2.2.2.2.2 x hx) (Nat.le_add_right _ _)⟩
  have gg : gT B (9 + k) N := ⟨gN.1.1, gN.1.2.1, by have := gN.1.2.2.1; omega, gN.1.2.2.2⟩
  by_cases hb : 0 ≤ (xs X (i + 1)).toInt ∧ (xs X (i + 1)).toInt < 2
  · by_cases e10 : (xs X (i + 1)) = nI 0
    · cases I with
      | none =>
        refine ev_aload_n (pc := 716) dL_law_716 rfl ?_
        refine ev_aload_n (pc := 717) dL_law_717 rfl ?_
        refine ev_iload_n (pc := 718) dL_law_718 rfl ?_
        refine ev_iconst (pc := 719) (v := nI 1) dL_law_719 kc_1 ?_
        refine ev_iadd (pc := 720) dL_law_720 ?_
        (try rw [nI_add])
        refine ev_sld (pc := 721) dL_law_721 (nI_toInt (by omega)) (by omega) ?_
        rw [e10]
        refine iv_L_117 (pc := 722) rfl dL_law_722 (by (try dsimp only); (repeat (first | rw [up_s] | rw [up_n (by omega)])) <;> first | rfl | assumption) (Nat.le_of_ble_eq_true rfl) (Nat.le_of_ble_eq_true rfl) (Nat.le_of_ble_eq_true rfl) (Nat.le_of_ble_eq_true rfl) (c_D_back0_no pc) (kp ?_)
        refine ev_aload_n (pc := 725) dL_law_725 rfl ?_
        refine ev_aload_n (pc := 726) dL_law_726 rfl ?_
        refine ev_iload_n (pc := 727) dL_law_727 rfl ?_
        refine ev_iconst (pc := 728) (v := nI 1) dL_law_728 kc_1 ?_
        refine ev_iadd (pc := 729) dL_law_729 ?_
        (try rw [nI_add])
        refine ev_sld (pc := 730) dL_law_730 (nI_toInt (by omega)) (by omega) ?_
        rw [e10]
        refine iv_L_120 (pc := 731) rfl dL_law_731 (by (try dsimp only); (repeat (first | rw [up_s] | rw [up_n (by omega)])) <;> first | rfl | assumption) (Nat.le_of_ble_eq_true rfl) (Nat.le_of_ble_eq_true rfl) (Nat.le_of_ble_eq_true rfl) (Nat.le_of_ble_eq_true rfl) (c_M_back_no pm (i := 0) (by omega) rfl) (kp ?_)
        refine ev_icmp_eq (pc := 734) 776 dL_law_734 (by decide) (fun c_734 => ?_) (fun c_734 => ?_)
        · (try simp (disch := omega) only [i32_lti, i32_lei, i32_eqi, nI_toInt, i32z] at c_734)
          exact K h ⟨cs, B, N, P, none, J, wn, op, n, tr, pc, pm, g.up⟩
        · exact absurd rfl c_734
      | some S0 =>
        obtain ⟨N', P'⟩ := S0
        refine ev_aload_n (pc := 716) dL_law_716 rfl ?_
        refine ev_aload_n (pc := 717) dL_law_717 rfl ?_
        refine ev_iload_n (pc := 718) dL_law_718 rfl ?_
        refine ev_iconst (pc := 719) (v := nI 1) dL_law_719 kc_1 ?_
        refine ev_iadd (pc := 720) dL_law_720 ?_
        (try rw [nI_add])
        refine ev_sld (pc := 721) dL_law_721 (nI_toInt (by omega)) (by omega) ?_
        rw [e10]
        refine iv_L_117 (pc := 722) rfl dL_law_722 (by (try dsimp only); (repeat (first | rw [up_s] | rw [up_n (by omega)])) <;> first | rfl | assumption) (Nat.le_of_ble_eq_true rfl) (Nat.le_of_ble_eq_true rfl) (Nat.le_of_ble_eq_true rfl) (Nat.le_of_ble_eq_true rfl) (c_D_back0 pc) (ki (fun r S' hS => ?_))
        obtain ⟨h1, z1⟩ := S'
        obtain ⟨rfl, rfl, f1, p1⟩ := hS
        have pm1 := pm.fr (h' := h1) (fun q a b => f1 q (by omega))
        obtain ⟨fm1, hm1⟩ := pm1.obj
        refine ev_aload_n (pc := 725) dL_law_725 rfl ?_
        refine ev_aload_n (pc := 726) dL_law_726 rfl ?_
        refine ev_iload_n (pc := 727) dL_law_727 rfl ?_
        refine ev_iconst (pc := 728) (v := nI 1) dL_law_728 kc_1 ?_
        refine ev_iadd (pc := 729) dL_law_729 ?_
        (try rw [nI_add])
        refine ev_sld (pc := 730) dL_law_730 (nI_toInt (by omega)) (by omega) ?_
        rw [e10]
        refine iv_L_120 (pc := 731) rfl dL_law_731 (by (try dsimp only); (repeat (first | rw [up_s] | rw [up_n (by omega)])) <;> first | rfl | assumption) (Nat.le_of_ble_eq_true rfl) (Nat.le_of_ble_eq_true rfl) (Nat.le_of_ble_eq_true rfl) (Nat.le_of_ble_eq_true rfl) (c_M_back pm1 (i := 0) (by omega) (N' := N') (P' := P') rfl) (ki (fun r S' hS => ?_))
        obtain ⟨h2, z2⟩ := S'
        obtain ⟨rfl, rfl, f2, p2⟩ := hS
        refine ev_icmp_eq (pc := 734) 776 dL_law_734 (by decide) (fun c_734 => ?_) (fun c_734 => ?_)
        · (try simp (disch := omega) only [i32_lti, i32_lei, i32_eqi, nI_toInt, i32z] at c_734)
          exact K h2 ⟨cs, B, _, _, _, J, wn, op, n, tr, p1.fr (fun q a b => f2 q (by omega)), p2, g.back0⟩
        · exact absurd rfl c_734
    · have e11 : (xs X (i + 1)) = nI 1 := by
        obtain ⟨c, hc, ec⟩ := iNb (b := 1) (show 0 ≤ (xs X (i + 1)).toInt ∧ (xs X (i + 1)).toInt ≤ ((1 : Nat) : Int) by omega)
        have h5 : c = 0 ∨ c = 1 := by omega
        rcases h5 with q | q <;> subst q
        · exact absurd ec e10
        · exact ec
      cases J with
      | none =>
        refine ev_aload_n (pc := 716) dL_law_716 rfl ?_
        refine ev_aload_n (pc := 717) dL_law_717 rfl ?_
        refine ev_iload_n (pc := 718) dL_law_718 rfl ?_
        refine ev_iconst (pc := 719) (v := nI 1) dL_law_719 kc_1 ?_
        refine ev_iadd (pc := 720) dL_law_720 ?_
        (try rw [nI_add])
        refine ev_sld (pc := 721) dL_law_721 (nI_toInt (by omega)) (by omega) ?_
        rw [e11]
        refine iv_L_117 (pc := 722) rfl dL_law_722 (by (try dsimp only); (repeat (first | rw [up_s] | rw [up_n (by omega)])) <;> first | rfl | assumption) (Nat.le_of_ble_eq_true rfl) (Nat.le_of_ble_eq_true rfl) (Nat.le_of_ble_eq_true rfl) (Nat.le_of_ble_eq_true rfl) (c_D_back1_no pc) (kp ?_)
        refine ev_aload_n (pc := 725) dL_law_725 rfl ?_
        refine ev_aload_n (pc := 726) dL_law_726 rfl ?_
        refine ev_iload_n (pc := 727) dL_law_727 rfl ?_
        refine ev_iconst (pc := 728) (v := nI 1) dL_law_728 kc_1 ?_
        refine ev_iadd (pc := 729) dL_law_729 ?_
        (try rw [nI_add])
        refine ev_sld (pc := 730) dL_law_730 (nI_toInt (by omega)) (by omega) ?_
        rw [e11]
        refine iv_L_120 (pc := 731) rfl dL_law_731 (by (try dsimp only); (repeat (first | rw [up_s] | rw [up_n (by omega)])) <;> first | rfl | assumption) (Nat.le_of_ble_eq_true rfl) (Nat.le_of_ble_eq_true rfl) (Nat.le_of_ble_eq_true rfl) (Nat.le_of_ble_eq_true rfl) (c_M_back_no pm (i := 1) (by omega) rfl) (kp ?_)
        refine ev_icmp_eq (pc := 734) 776 dL_law_734 (by decide) (fun c_734 => ?_) (fun c_734 => ?_)
        · (try simp (disch := omega) only [i32_lti, i32_lei, i32_eqi, nI_toInt, i32z] at c_734)
          exact K h ⟨cs, B, N, P, I, none, wn, op, n, tr, pc, pm, g.up⟩
        · exact absurd rfl c_734
      | some S0 =>
        obtain ⟨N', P'⟩ := S0
        refine ev_aload_n (pc := 716) dL_law_716 rfl ?_
        refine ev_aload_n (pc := 717) dL_law_717 rfl ?_
        refine ev_iload_n (pc := 718) dL_law_718 rfl ?_
        refine ev_iconst (pc := 719) (v := nI 1) dL_law_719 kc_1 ?_
        refine ev_iadd (pc := 720) dL_law_720 ?_
        (try rw [nI_add])
        refine ev_sld (pc := 721) dL_law_721 (nI_toInt (by omega)) (by omega) ?_
        rw [e11]
        refine iv_L_117 (pc := 722) rfl dL_law_722 (by (try dsimp only); (repeat (first | rw [up_s] | rw [up_n (by omega)])) <;> first | rfl | assumption) (Nat.le_of_ble_eq_true rfl) (Nat.le_of_ble_eq_true rfl) (Nat.le_of_ble_eq_true rfl) (Nat.le_of_ble_eq_true rfl) (c_D_back1 pc) (ki (fun r S' hS => ?_))
        obtain ⟨h1, z1⟩ := S'
        obtain ⟨rfl, rfl, f1, p1⟩ := hS
        have pm1 := pm.fr (h' := h1) (fun q a b => f1 q (by omega))
        obtain ⟨fm1, hm1⟩ := pm1.obj
        refine ev_aload_n (pc := 725) dL_law_725 rfl ?_
        refine ev_aload_n (pc := 726) dL_law_726 rfl ?_
        refine ev_iload_n (pc := 727) dL_law_727 rfl ?_
        refine ev_iconst (pc := 728) (v := nI 1) dL_law_728 kc_1 ?_
        refine ev_iadd (pc := 729) dL_law_729 ?_
        (try rw [nI_add])
        refine ev_sld (pc := 730) dL_law_730 (nI_toInt (by omega)) (by omega) ?_
        rw [e11]
        refine iv_L_120 (pc := 731) rfl dL_law_731 (by (try dsimp only); (repeat (first | rw [up_s] | rw [up_n (by omega)])) <;> first | rfl | assumption) (Nat.le_of_ble_eq_true rfl) (Nat.le_of_ble_eq_true rfl) (Nat.le_of_ble_eq_true rfl) (Nat.le_of_ble_eq_true rfl) (c_M_back pm1 (i := 1) (by omega) (N' := N') (P' := P') rfl) (ki (fun r S' hS => ?_))
        obtain ⟨h2, z2⟩ := S'
        obtain ⟨rfl, rfl, f2, p2⟩ := hS
        refine ev_icmp_eq (pc := 734) 776 dL_law_734 (by decide) (fun c_734 => ?_) (fun c_734 => ?_)
        · (try simp (disch := omega) only [i32_lti, i32_lei, i32_eqi, nI_toInt, i32z] at c_734)
          exact K h2 ⟨cs, B, _, _, I, _, wn, op, n, tr, p1.fr (fun q a b => f2 q (by omega)), p2, g.back1⟩
        · exact absurd rfl c_734
  · skip
    refine ev_aload_n (pc := 716) dL_law_716 rfl ?_
    refine ev_aload_n (pc := 717) dL_law_717 rfl ?_
    refine ev_iload_n (pc := 718) dL_law_718 rfl ?_
    refine ev_iconst (pc := 719) (v := nI 1) dL_law_719 kc_1 ?_
    refine ev_iadd (pc := 720) dL_law_720 ?_
    (try rw [nI_add])
    refine ev_sld (pc := 721) dL_law_721 (nI_toInt (by omega)) (by omega) ?_
    refine iv_L_117 (pc := 722) rfl dL_law_722 (by (try dsimp only); (repeat (first | rw [up_s] | rw [up_n (by omega)])) <;> first | rfl | assumption) (Nat.le_of_ble_eq_true rfl) (Nat.le_of_ble_eq_true rfl) (Nat.le_of_ble_eq_true rfl) (Nat.le_of_ble_eq_true rfl) (c_D_back_bad hb) (kp ?_)
    refine ev_aload_n (pc := 725) dL_law_725 rfl ?_
    refine ev_aload_n (pc := 726) dL_law_726 rfl ?_
    refine ev_iload_n (pc := 727) dL_law_727 rfl ?_
    refine ev_iconst (pc := 728) (v := nI 1) dL_law_728 kc_1 ?_
    refine ev_iadd (pc := 729) dL_law_729 ?_
    (try rw [nI_add])
    refine ev_sld (pc := 730) dL_law_730 (nI_toInt (by omega)) (by omega) ?_
    refine iv_L_120 (pc := 731) rfl dL_law_731 (by (try dsimp only); (repeat (first | rw [up_s] | rw [up_n (by omega)])) <;> first | rfl | assumption) (Nat.le_of_ble_eq_true rfl) (Nat.le_of_ble_eq_true rfl) (Nat.le_of_ble_eq_true rfl) (Nat.le_of_ble_eq_true rfl) (c_M_back_bad hb) (kp ?_)
    refine ev_icmp_eq (pc := 734) 776 dL_law_734 (by decide) (fun c_734 => ?_) (fun c_734 => ?_)
    · (try simp (disch := omega) only [i32_lti, i32_lei, i32_eqi, nI_toInt, i32z] at c_734)
      exact K h ⟨cs, B, N, P, I, J, wn, op, n, tr, pc, pm, g.up⟩
    · exact absurd rfl c_734
theorem law_count (S : lSt h d m k) (hk : k ≤ 64) (dm : d + 174 ≤ m) (hi : i + 4 ≤ xL X) (hL : xL X ≤ 256) (K : ∀ h' : Hp, lSt h' d m (k + 1) → Ev X (mi_L_law nm 10 600000 7302250) QL 191 14323 (h', z) 776 [.ref (xb X), .ref d, .ref m, .int (nI i)] []) : Ev X (mi_L_law nm 10 600000 7302250) QL 191 14323 (h, z) 739 [.ref (xb X), .ref d, .ref m, .int (nI i)] [] := by
  obtain ⟨cs, B, N, P, I, J, wn, op, n, tr, pc, pm, g⟩ := S
  obtain ⟨b9, gN, -⟩ := id g
  have h6 := b9.1
  have wN := gN.1.1
  have hd0 := pc.1
  unfold pDO at hd0
  obtain ⟨fm, hm0⟩ := pm.obj
  have b9g : wB (9 + k) B := ⟨b9.1, b9.2.1, b9.2.2.1, b9.2.2.2.1, b9.2.2.2.2.1, b9.2.2.2.2.2.1, fun x hx => Nat.le_trans (b9.2.2.2.2.2.2 x hx) (Nat.le_add_right _ _)⟩
  have gg : gT B (9 + k) N := ⟨gN.1.1, gN.1.2.1, by have := gN.1.2.2.1; omega, gN.1.2.2.2⟩
  refine ev_aload_n (pc := 739) dL_law_739 rfl ?_
  refine ev_aload_n (pc := 740) dL_law_740 rfl ?_
  refine ev_iload_n (pc := 741) dL_law_741 rfl ?_
  refine ev_iconst (pc := 742) (v := nI 1) dL_law_742 kc_1 ?_
  refine ev_iadd (pc := 743) dL_law_743 ?_
  (try rw [nI_add])
  refine ev_sld (pc := 744) dL_law_744 (nI_toInt (by omega)) (by omega) ?_
  refine iv_L_121 (pc := 745) rfl dL_law_745 (by (try dsimp only); (repeat (first | rw [up_s] | rw [up_n (by omega)])) <;> first | rfl | assumption) (Nat.le_of_ble_eq_true rfl) (Nat.le_of_ble_eq_true rfl) (Nat.le_of_ble_eq_true rfl) (Nat.le_of_ble_eq_true rfl) (c_D_count pc _) (kp ?_)
  refine ev_aload_n (pc := 748) dL_law_748 rfl ?_
  refine ev_aload_n (pc := 749) dL_law_749 rfl ?_
  refine ev_iload_n (pc := 750) dL_law_750 rfl ?_
  refine ev_iconst (pc := 751) (v := nI 1) dL_law_751 kc_1 ?_
  refine ev_iadd (pc := 752) dL_law_752 ?_
  (try rw [nI_add])
  refine ev_sld (pc := 753) dL_law_753 (nI_toInt (by omega)) (by omega) ?_
  refine iv_L_124 (pc := 754) rfl dL_law_754 (by (try dsimp only); (repeat (first | rw [up_s] | rw [up_n (by omega)])) <;> first | rfl | assumption) (Nat.le_of_ble_eq_true rfl) (Nat.le_of_ble_eq_true rfl) (Nat.le_of_ble_eq_true rfl) (Nat.le_of_ble_eq_true rfl) (c_M_count pm _) (kp ?_)
  refine ev_icmp_eq (pc := 757) 776 dL_law_757 (by decide) (fun c_757 => ?_) (fun c_757 => ?_)
  · (try simp (disch := omega) only [i32_lti, i32_lei, i32_eqi, nI_toInt, i32z] at c_757)
    exact K h ⟨cs, B, N, P, I, J, wn, op, n, tr, pc, pm, g.up⟩
  · exact absurd rfl c_757
theorem law_trace (S : lSt h d m k) (hk : k ≤ 64) (dm : d + 174 ≤ m) (hi : i + 4 ≤ xL X) (hL : xL X ≤ 256) (K : ∀ h' : Hp, lSt h' d m (k + 1) → Ev X (mi_L_law nm 10 600000 7302250) QL 191 14323 (h', z) 776 [.ref (xb X), .ref d, .ref m, .int (nI i)] []) : Ev X (mi_L_law nm 10 600000 7302250) QL 191 14323 (h, z) 762 [.ref (xb X), .ref d, .ref m, .int (nI i)] [] := by
  obtain ⟨cs, B, N, P, I, J, wn, op, n, tr, pc, pm, g⟩ := S
  obtain ⟨b9, gN, -⟩ := id g
  have h6 := b9.1
  have wN := gN.1.1
  have hd0 := pc.1
  unfold pDO at hd0
  obtain ⟨fm, hm0⟩ := pm.obj
  have b9g : wB (9 + k) B := ⟨b9.1, b9.2.1, b9.2.2.1, b9.2.2.2.1, b9.2.2.2.2.1, b9.2.2.2.2.2.1, fun x hx => Nat.le_trans (b9.2.2.2.2.2.2 x hx) (Nat.le_add_right _ _)⟩
  have gg : gT B (9 + k) N := ⟨gN.1.1, gN.1.2.1, by have := gN.1.2.2.1; omega, gN.1.2.2.2⟩
  refine ev_aload_n (pc := 762) dL_law_762 rfl ?_
  refine iv_L_125 (pc := 763) rfl dL_law_763 (by (try dsimp only); (repeat (first | rw [up_s] | rw [up_n (by omega)])) <;> first | rfl | assumption) (Nat.le_of_ble_eq_true rfl) (Nat.le_of_ble_eq_true rfl) (Nat.le_of_ble_eq_true rfl) (Nat.le_of_ble_eq_true rfl) (c_D_trace pc) (kp ?_)
  refine ev_aload_n (pc := 766) dL_law_766 rfl ?_
  refine iv_L_129 (pc := 767) rfl dL_law_767 (by (try dsimp only); (repeat (first | rw [up_s] | rw [up_n (by omega)])) <;> first | rfl | assumption) (Nat.le_of_ble_eq_true rfl) (Nat.le_of_ble_eq_true rfl) (Nat.le_of_ble_eq_true rfl) (Nat.le_of_ble_eq_true rfl) (c_M_trace pm) (kp ?_)
  refine ev_lcmp (pc := 770) dL_law_770 ?_
  refine ev_if_eq (pc := 771) 776 dL_law_771 (by decide) (fun c_771 => ?_) (fun c_771 => ?_)
  · (try simp (disch := omega) only [i32_lti, i32_lei, i32_eqi, nI_toInt, i32z] at c_771)
    exact K h ⟨cs, B, N, P, I, J, wn, op, n, tr, pc, pm, g.up⟩
  · exfalso; exact c_771 (by rw [lgc_self])
end CASES
