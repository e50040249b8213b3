/-! ===== Rows: an hour more ===== -/
theorem wB.long {m : Nat} {B : Bk} (w : wB m B) : wB (m + 1) (bLong B 8) := by
  obtain ⟨w1, w2, w3, w4, w5, w6, w7⟩ := w
  refine ⟨w1, w2, w3, w4, w5, w6, ?_⟩
  intro k hk
  have h1 := w7 k hk
  show gN ((bH B).mapIdx (fun i x => if i < 8 then x + 1 else x)) k ≤ m + 1
  simp only [gN, List.getD_eq_getElem?_getD, List.getElem?_mapIdx] at h1 ⊢
  cases e : (bH B)[k]? with
  | none => simp
  | some x =>
    rw [e] at h1
    simp only [Option.map_some, Option.getD_some] at h1 ⊢
    split <;> omega
theorem allW_pos (n k : Nat) : 0 < (allW n k).length := by
  have h1 := allW_le n (Nat.zero_le k)
  exact Nat.lt_of_lt_of_le (by simp [allW, preW, lev]) h1
section LONGER
variable {X : Cx} {h : Hp} {z r b m : Nat} {kn : Bool} {B : Bk}
theorem c_bestIfLonger (p : pRows h r B kn) (b9 : wB m B) (hm : m < 99) (q : pBook h b B) (d : b + 4 ≤ r ∨ r + 15 ≤ b) : Ct X 5 mt_X5_bestIfLonger [.ref r, .ref b] (h, z) 0 0 (Qi (fun v S' => v = nI (bestN (bLong B 8)) ∧ S'.2 = z ∧ hfr h S'.1 r 15 ∧ ∃ kn' : Bool, pRows S'.1 r B kn')) := by
  obtain ⟨size, full, lb, osz, nx, p1, ⟨rs, r1, r2⟩, t1, a1, ⟨L, l1⟩, k1, k2⟩ := id p
  have p1' := p1
  unfold pRO at p1'
  have bl := b9.long
  have hpos := allW_pos (bT B) (bT B)
  have h1957 := allW_len (bT B) (by have := b9.1; omega)
  have hW : ∀ w ∈ allW (bT B) (bT B), ∀ t ∈ w, t < bT (bLong B 8) := fun w hw => (allW_mem hw).2.2
  have hb30 : bestN (bLong B 8) ≤ 30 := by
    unfold bestN
    have hx := bIx_lt (fun i => (outW (bLong B 8) (rW (bLong B 8) i)).length) (nW (bLong B 8)) hpos
    have hg := gW_get (W := allW (bT B) (bT B)) hx
    exact (walkW_ok bl (by omega) (hW _ (List.mem_of_getElem? hg)) 30 (startT (bLong B 8), 0) ⟨wT.start bl (by omega), wF.start bl, Nat.zero_le _⟩ (by show 0 + 30 < 1000; omega)).1
  refine mk_X5_bestIfLonger (Nat.le_of_ble_eq_true rfl) (L := [.ref r, .ref b]) rfl ?_
  by_cases hlb : lb = -9
  · subst hlb
    obtain ⟨hl0, -⟩ := id l1
    refine ev_aload_n (pc := 0) dX5_bestIfLonger_0 rfl ?_
    refine gf_X5_116 (pc := 1) rfl dX5_bestIfLonger_1 (by (try dsimp only); (repeat (first | rw [up_s] | rw [up_n (by omega)])) <;> first | rfl | assumption) ?_
    refine ev_bipush (pc := 4) (v := (-9)) dX5_bestIfLonger_4 kb_m9 ?_
    refine ev_icmp_ne (pc := 6) 49 dX5_bestIfLonger_6 (by decide) (fun c_6 => ?_) (fun c_6 => ?_)
    · exact absurd rfl c_6
    · (try simp (disch := omega) only [i32_lti, i32_lei, i32_eqi, nI_toInt, i32z] at c_6)
      refine ev_aload_n (pc := 9) dX5_bestIfLonger_9 rfl ?_
      refine gf_X5_43 (pc := 10) rfl dX5_bestIfLonger_10 (by (try dsimp only); (repeat (first | rw [up_s] | rw [up_n (by omega)])) <;> first | rfl | assumption) ?_
      refine ev_aload_n (pc := 13) dX5_bestIfLonger_13 rfl ?_
      refine iv_X5_158 (pc := 14) rfl dX5_bestIfLonger_14 (by (try dsimp only); (repeat (first | rw [up_s] | rw [up_n (by omega)])) <;> first | rfl | assumption) (Nat.le_of_ble_eq_true rfl) (Nat.le_of_ble_eq_true rfl) (Nat.le_of_ble_eq_true rfl) (Nat.le_of_ble_eq_true rfl) (c_copyFrom l1 q (by omega)) (kv (fun S' hS => ?_))
      obtain ⟨h2, z'⟩ := S'
      obtain ⟨rfl, f2, l2⟩ := hS
      have p2 := (f2 r (by omega)).trans p1'
      obtain ⟨hl2, -⟩ := id l2
      refine ev_aload_n (pc := 17) dX5_bestIfLonger_17 rfl ?_
      refine gf_X5_43 (pc := 18) rfl dX5_bestIfLonger_18 (by (try dsimp only); (repeat (first | rw [up_s] | rw [up_n (by omega)])) <;> first | rfl | assumption) ?_
      refine iv_X5_160 (pc := 21) rfl dX5_bestIfLonger_21 (by (try dsimp only); (repeat (first | rw [up_s] | rw [up_n (by omega)])) <;> first | rfl | assumption) (Nat.le_of_ble_eq_true rfl) (Nat.le_of_ble_eq_true rfl) (Nat.le_of_ble_eq_true rfl) (Nat.le_of_ble_eq_true rfl) (c_lengthen l2) (kv (fun S' hS => ?_))
      obtain ⟨h3, z'⟩ := S'
      obtain ⟨rfl, f3, l3⟩ := hS
      have p3 := (f3 r (by omega)).trans p2
      have f13 : ∀ y : Nat, y < r + 11 → h3 y = h y := fun y e => (f3 y (by omega)).trans (f2 y (by omega))
      refine ev_aload_n (pc := 24) dX5_bestIfLonger_24 rfl ?_
      refine ev_aload_n (pc := 25) dX5_bestIfLonger_25 rfl ?_
      refine gf_X5_43 (pc := 26) rfl dX5_bestIfLonger_26 (by (try dsimp only); (repeat (first | rw [up_s] | rw [up_n (by omega)])) <;> first | rfl | assumption) ?_
      refine iv_X5_119 (pc := 29) rfl dX5_bestIfLonger_29 (by (try dsimp only); (repeat (first | rw [up_s] | rw [up_n (by omega)])) <;> first | rfl | assumption) (Nat.le_of_ble_eq_true rfl) (Nat.le_of_ble_eq_true rfl) (Nat.le_of_ble_eq_true rfl) (Nat.le_of_ble_eq_true rfl) (c_walkAll bl (by omega) l3 (by omega) p3 ⟨rs, (f13 _ (by omega)).trans r1, r2⟩ ((t1.fr (fun y e1 e2 => f13 y (by omega))).zero [] _) (a1.fr (fun y e1 e2 => f13 y (by omega)))) (kv (fun S' hS => ?_))
      obtain ⟨h4, z'⟩ := S'
      obtain ⟨rfl, f4, ⟨o4, x4, p4⟩, q4, t4, a4⟩ := hS
      have p4' := p4
      unfold pRO at p4'
      have u4 := t4.out bl (by omega) hW (Nat.le_refl _)
      have hx := bIx_lt (fun i => (outW (bLong B 8) (gW (allW (bT B) (bT B)) i)).length) (allW (bT B) (bT B)).length hpos
      obtain ⟨rs5, g1, g2, -⟩ := id q4
      refine ev_aload_n (pc := 32) dX5_bestIfLonger_32 rfl ?_
      refine ev_aload_n (pc := 33) dX5_bestIfLonger_33 rfl ?_
      refine ev_aload_n (pc := 34) dX5_bestIfLonger_34 rfl ?_
      refine iv_X5_163 (pc := 35) rfl dX5_bestIfLonger_35 (by (try dsimp only); (repeat (first | rw [up_s] | rw [up_n (by omega)])) <;> first | rfl | assumption) (Nat.le_of_ble_eq_true rfl) (Nat.le_of_ble_eq_true rfl) (Nat.le_of_ble_eq_true rfl) (Nat.le_of_ble_eq_true rfl) (c_bestPlace p4 u4 rfl hpos h1957) (kp ?_)
      refine iv_X5_167 (pc := 38) rfl dX5_bestIfLonger_38 (by (try dsimp only); (repeat (first | rw [up_s] | rw [up_n (by omega)])) <;> first | rfl | assumption) (Nat.le_of_ble_eq_true rfl) (Nat.le_of_ble_eq_true rfl) (Nat.le_of_ble_eq_true rfl) (Nat.le_of_ble_eq_true rfl) (c_savedBy p4 u4 (gW_get hx) (Nat.lt_of_lt_of_le hx h1957)) (kp ?_)
      refine pf_X5_116 (pc := 41) rfl dX5_bestIfLonger_41 (by (try dsimp only); (repeat (first | rw [up_s] | rw [up_n (by omega)])) <;> first | rfl | assumption) ?_
      refine ev_aload_n (pc := 44) dX5_bestIfLonger_44 rfl ?_
      refine ev_iconst (pc := 45) (v := nI 0) dX5_bestIfLonger_45 kc_0 ?_
      refine pf_X5_112 (pc := 46) rfl dX5_bestIfLonger_46 (by first | exact Or.inl rfl | exact Or.inr rfl) (by (try dsimp only); (repeat (first | rw [up_s] | rw [up_n (by omega)])) <;> first | rfl | assumption) ?_
      refine ev_aload_n (pc := 49) dX5_bestIfLonger_49 rfl ?_
      refine gf_X5_116 (pc := 50) rfl dX5_bestIfLonger_50 (by (try dsimp only); (repeat (first | rw [up_s] | rw [up_n (by omega)])) <;> first | rfl | assumption) ?_
      refine ev_iret (pc := 53) dX5_bestIfLonger_53 rfl rfl (Nat.le_of_ble_eq_true rfl) (Nat.le_of_ble_eq_true rfl) ?_
      exact ⟨_, rfl, rfl, rfl, (by intro y e; dsimp only; rw [up_n (by omega), up_n (by omega)]; exact (f4 y (by omega)).trans ((f3 y (by omega)).trans (f2 y (by omega)))), false, _, _, _, o4, x4, (by unfold pRO; (try dsimp only); (repeat (first | rw [up_s] | rw [up_n (by omega)])) <;> first | rfl | assumption), ⟨rs5, (by (try dsimp only); (repeat (first | rw [up_s] | rw [up_n (by omega)])) <;> first | rfl | assumption), g2⟩, (t4.fr (fun q h1 h2 => by dsimp only; rw [up_n (by omega), up_n (by omega)])).zero _ _, a4.fr (fun q h1 h2 => by dsimp only; rw [up_n (by omega), up_n (by omega)]), ⟨_, l3.fr (fun q h1 h2 => by dsimp only; rw [up_n (by omega), up_n (by omega)]; exact f4 q (by omega))⟩, (fun q => by cases q), Or.inr rfl⟩
  · have e : lb = nI (bestN (bLong B 8)) := by
      rcases k2 with q | q
      · exact absurd q hlb
      · exact q
    rw [e] at p1'
    refine ev_aload_n (pc := 0) dX5_bestIfLonger_0 rfl ?_
    refine gf_X5_116 (pc := 1) rfl dX5_bestIfLonger_1 (by (try dsimp only); (repeat (first | rw [up_s] | rw [up_n (by omega)])) <;> first | rfl | assumption) ?_
    refine ev_bipush (pc := 4) (v := (-9)) dX5_bestIfLonger_4 kb_m9 ?_
    refine ev_icmp_ne (pc := 6) 49 dX5_bestIfLonger_6 (by decide) (fun c_6 => ?_) (fun c_6 => ?_)
    · (try simp (disch := omega) only [i32_lti, i32_lei, i32_eqi, nI_toInt, i32z] at c_6)
      refine ev_aload_n (pc := 49) dX5_bestIfLonger_49 rfl ?_
      refine gf_X5_116 (pc := 50) rfl dX5_bestIfLonger_50 (by (try dsimp only); (repeat (first | rw [up_s] | rw [up_n (by omega)])) <;> first | rfl | assumption) ?_
      refine ev_iret (pc := 53) dX5_bestIfLonger_53 rfl rfl (Nat.le_of_ble_eq_true rfl) (Nat.le_of_ble_eq_true rfl) ?_
      exact ⟨_, rfl, rfl, rfl, hfr.rf _ _ _, kn, p⟩
    · exact absurd (e.trans c_6) hlb
end LONGER
