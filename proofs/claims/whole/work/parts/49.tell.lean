/-! ===== DawnTales: its calls (telling) ===== -/
/-- a part of the innermost tale is told -/
def tlT (T : Tl) : Tl := match (tO T).getLast? with
  | none => T
  | some t => tPart T t 1
def siT (T : Tl) : Tl := (tN T, tH T - 1, tS T, tV T, tB T, tO T, tF T, tA T)
section PUB2
variable {X : Cx} {h : Hp} {z d n m : Nat} {cs : List Nat} {B : Bk} {N : Tl} {P : List Tl} {I J : Im} {wn op : List Nat} {tr : Int64}
theorem c_D_begins_bad (p : pC h d cs B N P I J wn op n tr) (b9 : wB m B) {t : Int32} (ht : iTn (bT B) t = false) : Ct X 3 mt_X11_begins [.ref d, .int t] (h, z) 0 0 (QP (.int (-1)) (h, z)) := by
  obtain ⟨po, -, pb, -, ps, -⟩ := id p
  unfold pDO at po
  have hb := pb.1
  refine mk_X11_begins (Nat.le_of_ble_eq_true rfl) (L := [.ref d, .int t]) rfl ?_
  refine ev_aload_n (pc := 0) dX11_begins_0 rfl ?_
  refine gf_X11_19 (pc := 1) rfl dX11_begins_1 (by (try dsimp only); (repeat (first | rw [up_s] | rw [up_n (by omega)])) <;> first | rfl | assumption) ?_
  refine ev_iload_n (pc := 4) dX11_begins_4 rfl ?_
  refine iv_X11_99 (pc := 5) rfl dX11_begins_5 (by (try dsimp only); (repeat (first | rw [up_s] | rw [up_n (by omega)])) <;> first | rfl | assumption) (Nat.le_of_ble_eq_true rfl) (Nat.le_of_ble_eq_true rfl) (Nat.le_of_ble_eq_true rfl) (Nat.le_of_ble_eq_true rfl) (c_isTale pb b9.1 t) (kp ?_)
  rw [ht]
  refine ev_if_ne (pc := 8) 13 dX11_begins_8 (by decide) (fun c_8 => ?_) (fun c_8 => ?_)
  · exact absurd rfl c_8
  · (try simp (disch := omega) only [i32_lti, i32_lei, i32_eqi, nI_toInt, i32z] at c_8)
    refine ev_iconst (pc := 11) (v := (-1)) dX11_begins_11 kc_m1 ?_
    refine ev_iret (pc := 12) dX11_begins_12 rfl rfl (Nat.le_of_ble_eq_true rfl) (Nat.le_of_ble_eq_true rfl) ?_
    exact ⟨rfl, rfl⟩
theorem c_D_begins_no (p : pC h d cs B N P I J wn op n tr) (b9 : wB m B) (g : gT B m N) {k : Nat} (hk : k < bT B) (hn : mayN B N k = false) : Ct X 3 mt_X11_begins [.ref d, .int (nI k)] (h, z) 0 0 (QP (.int (-2)) (h, z)) := by
  obtain ⟨po, -, pb, -, ps, -⟩ := id p
  unfold pDO at po
  have h6 := b9.1
  have hb := pb.1
  have hs := ps.obj
  have pn := ps.now
  have hn0 := pn.1
  refine mk_X11_begins (Nat.le_of_ble_eq_true rfl) (L := [.ref d, .int (nI k)]) rfl ?_
  refine ev_aload_n (pc := 0) dX11_begins_0 rfl ?_
  refine gf_X11_19 (pc := 1) rfl dX11_begins_1 (by (try dsimp only); (repeat (first | rw [up_s] | rw [up_n (by omega)])) <;> first | rfl | assumption) ?_
  refine ev_iload_n (pc := 4) dX11_begins_4 rfl ?_
  refine iv_X11_99 (pc := 5) rfl dX11_begins_5 (by (try dsimp only); (repeat (first | rw [up_s] | rw [up_n (by omega)])) <;> first | rfl | assumption) (Nat.le_of_ble_eq_true rfl) (Nat.le_of_ble_eq_true rfl) (Nat.le_of_ble_eq_true rfl) (Nat.le_of_ble_eq_true rfl) (c_isTale pb b9.1 (nI k)) (kp ?_)
  rw [iTn_nI (by omega), decide_eq_true hk]
  refine ev_if_ne (pc := 8) 13 dX11_begins_8 (by decide) (fun c_8 => ?_) (fun c_8 => ?_)
  · (try simp (disch := omega) only [i32_lti, i32_lei, i32_eqi, nI_toInt, i32z] at c_8)
    refine ev_aload_n (pc := 13) dX11_begins_13 rfl ?_
    refine gf_X11_29 (pc := 14) rfl dX11_begins_14 (by (try dsimp only); (repeat (first | rw [up_s] | rw [up_n (by omega)])) <;> first | rfl | assumption) ?_
    refine gf_X11_102 (pc := 17) rfl dX11_begins_17 (by (try dsimp only); (repeat (first | rw [up_s] | rw [up_n (by omega)])) <;> first | rfl | assumption) ?_
    refine ev_aload_n (pc := 20) dX11_begins_20 rfl ?_
    refine gf_X11_19 (pc := 21) rfl dX11_begins_21 (by (try dsimp only); (repeat (first | rw [up_s] | rw [up_n (by omega)])) <;> first | rfl | assumption) ?_
    refine ev_iload_n (pc := 24) dX11_begins_24 rfl ?_
    refine iv_X11_130 (pc := 25) rfl dX11_begins_25 (by (try dsimp only); (repeat (first | rw [up_s] | rw [up_n (by omega)])) <;> first | rfl | assumption) (Nat.le_of_ble_eq_true rfl) (Nat.le_of_ble_eq_true rfl) (Nat.le_of_ble_eq_true rfl) (Nat.le_of_ble_eq_true rfl) (c_mayBegin pn g.1 pb b9.1 b9.2.2.2.2.1 b9.w hk) (kp ?_)
    rw [hn]
    refine ev_if_ne (pc := 28) 34 dX11_begins_28 (by decide) (fun c_28 => ?_) (fun c_28 => ?_)
    · exact absurd rfl c_28
    · (try simp (disch := omega) only [i32_lti, i32_lei, i32_eqi, nI_toInt, i32z] at c_28)
      refine ev_bipush (pc := 31) (v := (-2)) dX11_begins_31 kb_m2 ?_
      refine ev_iret (pc := 33) dX11_begins_33 rfl rfl (Nat.le_of_ble_eq_true rfl) (Nat.le_of_ble_eq_true rfl) ?_
      exact ⟨rfl, rfl⟩
  · exact absurd c_8 (by decide)
theorem c_D_begins (p : pC h d cs B N P I J wn op n tr) (b9 : wB m B) (g : gT B m N) {k : Nat} (hk : k < bT B) (hn : mayN B N k = true) : Ct X 3 mt_X11_begins [.ref d, .int (nI k)] (h, z) 0 0 (Qi (fun r S' => r = nI (tH (tBeg N k)) ∧ S'.2 = z ∧ hfr h S'.1 d 174 ∧ pC S'.1 d cs B (tBeg N k) (remP P N) I J wn op n tr)) := by
  obtain ⟨po, -, pb, -, ps, -⟩ := id p
  unfold pDO at po
  have h6 := b9.1
  have hb := pb.1
  have hs := ps.obj
  have pn := ps.now
  have hn0 := pn.1
  obtain ⟨u1, u2, u3, u4, u5⟩ := mayN_t hn
  refine mk_X11_begins (Nat.le_of_ble_eq_true rfl) (L := [.ref d, .int (nI k)]) rfl ?_
  refine ev_aload_n (pc := 0) dX11_begins_0 rfl ?_
  refine gf_X11_19 (pc := 1) rfl dX11_begins_1 (by (try dsimp only); (repeat (first | rw [up_s] | rw [up_n (by omega)])) <;> first | rfl | assumption) ?_
  refine ev_iload_n (pc := 4) dX11_begins_4 rfl ?_
  refine iv_X11_99 (pc := 5) rfl dX11_begins_5 (by (try dsimp only); (repeat (first | rw [up_s] | rw [up_n (by omega)])) <;> first | rfl | assumption) (Nat.le_of_ble_eq_true rfl) (Nat.le_of_ble_eq_true rfl) (Nat.le_of_ble_eq_true rfl) (Nat.le_of_ble_eq_true rfl) (c_isTale pb b9.1 (nI k)) (kp ?_)
  rw [iTn_nI (by omega), decide_eq_true hk]
  refine ev_if_ne (pc := 8) 13 dX11_begins_8 (by decide) (fun c_8 => ?_) (fun c_8 => ?_)
  · (try simp (disch := omega) only [i32_lti, i32_lei, i32_eqi, nI_toInt, i32z] at c_8)
    refine ev_aload_n (pc := 13) dX11_begins_13 rfl ?_
    refine gf_X11_29 (pc := 14) rfl dX11_begins_14 (by (try dsimp only); (repeat (first | rw [up_s] | rw [up_n (by omega)])) <;> first | rfl | assumption) ?_
    refine gf_X11_102 (pc := 17) rfl dX11_begins_17 (by (try dsimp only); (repeat (first | rw [up_s] | rw [up_n (by omega)])) <;> first | rfl | assumption) ?_
    refine ev_aload_n (pc := 20) dX11_begins_20 rfl ?_
    refine gf_X11_19 (pc := 21) rfl dX11_begins_21 (by (try dsimp only); (repeat (first | rw [up_s] | rw [up_n (by omega)])) <;> first | rfl | assumption) ?_
    refine ev_iload_n (pc := 24) dX11_begins_24 rfl ?_
    refine iv_X11_130 (pc := 25) rfl dX11_begins_25 (by (try dsimp only); (repeat (first | rw [up_s] | rw [up_n (by omega)])) <;> first | rfl | assumption) (Nat.le_of_ble_eq_true rfl) (Nat.le_of_ble_eq_true rfl) (Nat.le_of_ble_eq_true rfl) (Nat.le_of_ble_eq_true rfl) (c_mayBegin pn g.1 pb b9.1 b9.2.2.2.2.1 b9.w hk) (kp ?_)
    rw [hn]
    refine ev_if_ne (pc := 28) 34 dX11_begins_28 (by decide) (fun c_28 => ?_) (fun c_28 => ?_)
    · (try simp (disch := omega) only [i32_lti, i32_lei, i32_eqi, nI_toInt, i32z] at c_28)
      refine ev_aload_n (pc := 34) dX11_begins_34 rfl ?_
      refine gf_X11_29 (pc := 35) rfl dX11_begins_35 (by (try dsimp only); (repeat (first | rw [up_s] | rw [up_n (by omega)])) <;> first | rfl | assumption) ?_
      refine iv_X11_134 (pc := 38) rfl dX11_begins_38 (by (try dsimp only); (repeat (first | rw [up_s] | rw [up_n (by omega)])) <;> first | rfl | assumption) (Nat.le_of_ble_eq_true rfl) (Nat.le_of_ble_eq_true rfl) (Nat.le_of_ble_eq_true rfl) (Nat.le_of_ble_eq_true rfl) (c_remember ps) (kv (fun S' hS => ?_))
      obtain ⟨h1, z'⟩ := S'
      obtain ⟨rfl, f1, s1⟩ := hS
      have po1 := (f1 d (by omega)).trans po
      have hs1 := s1.obj
      have hn1 := s1.now.1
      refine ev_aload_n (pc := 41) dX11_begins_41 rfl ?_
      refine gf_X11_29 (pc := 42) rfl dX11_begins_42 (by (try dsimp only); (repeat (first | rw [up_s] | rw [up_n (by omega)])) <;> first | rfl | assumption) ?_
      refine gf_X11_102 (pc := 45) rfl dX11_begins_45 (by (try dsimp only); (repeat (first | rw [up_s] | rw [up_n (by omega)])) <;> first | rfl | assumption) ?_
      refine ev_iload_n (pc := 48) dX11_begins_48 rfl ?_
      refine iv_X11_137 (pc := 49) rfl dX11_begins_49 (by (try dsimp only); (repeat (first | rw [up_s] | rw [up_n (by omega)])) <;> first | rfl | assumption) (Nat.le_of_ble_eq_true rfl) (Nat.le_of_ble_eq_true rfl) (Nat.le_of_ble_eq_true rfl) (Nat.le_of_ble_eq_true rfl) (c_beginTale s1.now g.1 (by omega) u3 (g.1.len (by omega) u3) (g.2.1 k hk u3) u2) (kv (fun S' hS => ?_))
      obtain ⟨h2, z'⟩ := S'
      obtain ⟨rfl, f2, t2⟩ := hS
      have po2 := (f2 d (by omega)).trans po1
      have s2 := s1.setNow f2 t2
      have hs2 := s2.obj
      have hn2 := s2.now.1
      refine ev_aload_n (pc := 52) dX11_begins_52 rfl ?_
      refine gf_X11_29 (pc := 53) rfl dX11_begins_53 (by (try dsimp only); (repeat (first | rw [up_s] | rw [up_n (by omega)])) <;> first | rfl | assumption) ?_
      refine gf_X11_102 (pc := 56) rfl dX11_begins_56 (by (try dsimp only); (repeat (first | rw [up_s] | rw [up_n (by omega)])) <;> first | rfl | assumption) ?_
      refine gf_X11_141 (pc := 59) rfl dX11_begins_59 (by (try dsimp only); (repeat (first | rw [up_s] | rw [up_n (by omega)])) <;> first | rfl | assumption) ?_
      refine ev_iret (pc := 62) dX11_begins_62 rfl rfl (Nat.le_of_ble_eq_true rfl) (Nat.le_of_ble_eq_true rfl) ?_
      exact ⟨_, rfl, rfl, rfl, (fun q a => (f2 q (by omega)).trans (f1 q (by omega))), p.sd (fun q a => (f2 q (by omega)).trans (f1 q (by omega))) s2⟩
    · exact absurd c_28 (by decide)
  · exact absurd c_8 (by decide)
theorem c_D_tells_no (p : pC h d cs B N P I J wn op n tr) (w : wT N) (hn : ¬ ((tV N && decide (0 < tH N)) = true ∧ 0 < (tO N).length)) : Ct X 3 mt_X11_tells [.ref d] (h, z) 0 0 (QP (.int (-2)) (h, z)) := by
  obtain ⟨po, -, pb, -, ps, -⟩ := id p
  unfold pDO at po
  have hs := ps.obj
  have pn := ps.now
  have hn0 := pn.1
  have hl := w.2.2.2.1
  refine mk_X11_tells (Nat.le_of_ble_eq_true rfl) (L := [.ref d]) rfl ?_
  refine ev_aload_n (pc := 0) dX11_tells_0 rfl ?_
  refine gf_X11_29 (pc := 1) rfl dX11_tells_1 (by (try dsimp only); (repeat (first | rw [up_s] | rw [up_n (by omega)])) <;> first | rfl | assumption) ?_
  refine gf_X11_102 (pc := 4) rfl dX11_tells_4 (by (try dsimp only); (repeat (first | rw [up_s] | rw [up_n (by omega)])) <;> first | rfl | assumption) ?_
  refine iv_X11_144 (pc := 7) rfl dX11_tells_7 (by (try dsimp only); (repeat (first | rw [up_s] | rw [up_n (by omega)])) <;> first | rfl | assumption) (Nat.le_of_ble_eq_true rfl) (Nat.le_of_ble_eq_true rfl) (Nat.le_of_ble_eq_true rfl) (Nat.le_of_ble_eq_true rfl) (c_hasHour pn w.2.2.2.2.2.1) (kp ?_)
  refine ev_if_eq (pc := 10) 26 dX11_tells_10 (by decide) (fun c_10 => ?_) (fun c_10 => ?_)
  · simp only [b2i_e0, Bool.not_eq_false] at c_10
    refine ev_bipush (pc := 26) (v := (-2)) dX11_tells_26 kb_m2 ?_
    refine ev_iret (pc := 28) dX11_tells_28 rfl rfl (Nat.le_of_ble_eq_true rfl) (Nat.le_of_ble_eq_true rfl) ?_
    exact ⟨rfl, rfl⟩
  · simp only [b2i_e0, Bool.not_eq_false] at c_10
    refine ev_aload_n (pc := 13) dX11_tells_13 rfl ?_
    refine gf_X11_29 (pc := 14) rfl dX11_tells_14 (by (try dsimp only); (repeat (first | rw [up_s] | rw [up_n (by omega)])) <;> first | rfl | assumption) ?_
    refine gf_X11_102 (pc := 17) rfl dX11_tells_17 (by (try dsimp only); (repeat (first | rw [up_s] | rw [up_n (by omega)])) <;> first | rfl | assumption) ?_
    refine gf_X11_148 (pc := 20) rfl dX11_tells_20 (by (try dsimp only); (repeat (first | rw [up_s] | rw [up_n (by omega)])) <;> first | rfl | assumption) ?_
    refine ev_if_ne (pc := 23) 29 dX11_tells_23 (by decide) (fun c_23 => ?_) (fun c_23 => ?_)
    · exfalso; (try simp (disch := omega) only [i32_lti, i32_lei, i32_eqi, nI_toInt, i32z] at c_23); exact hn ⟨c_10, by omega⟩
    · (try simp (disch := omega) only [i32_lti, i32_lei, i32_eqi, nI_toInt, i32z] at c_23)
      refine ev_bipush (pc := 26) (v := (-2)) dX11_tells_26 kb_m2 ?_
      refine ev_iret (pc := 28) dX11_tells_28 rfl rfl (Nat.le_of_ble_eq_true rfl) (Nat.le_of_ble_eq_true rfl) ?_
      exact ⟨rfl, rfl⟩
theorem c_D_tells (p : pC h d cs B N P I J wn op n tr) (w : wT N) (h1 : (tV N && decide (0 < tH N)) = true) (h2 : 0 < (tO N).length) : Ct X 3 mt_X11_tells [.ref d] (h, z) 0 0 (Qi (fun r S' => r = nI (tH (tlT N)) ∧ S'.2 = z ∧ hfr h S'.1 d 174 ∧ pC S'.1 d cs B (tlT N) (remP P N) I J wn op n tr)) := by
  obtain ⟨po, -, pb, -, ps, -⟩ := id p
  unfold pDO at po
  have hs := ps.obj
  have pn := ps.now
  have hn0 := pn.1
  have hl := w.2.2.2.1
  have hv : tV N = true ∧ 0 < tH N := by simpa using h1
  have ⟨t, ht⟩ : ∃ t, (tO N).getLast? = some t := by
    cases e : (tO N).getLast? with
    | none => rw [List.getLast?_eq_none_iff] at e; rw [e] at h2; cases h2
    | some t => exact ⟨t, rfl⟩
  have ei : inn N = nI t := by unfold inn; rw [ht]
  have et : tlT N = tPart N t 1 := by unfold tlT; rw [ht]
  have hm := w.2.1 t (w.mem ht)
  rw [et]
  refine mk_X11_tells (Nat.le_of_ble_eq_true rfl) (L := [.ref d]) rfl ?_
  refine ev_aload_n (pc := 0) dX11_tells_0 rfl ?_
  refine gf_X11_29 (pc := 1) rfl dX11_tells_1 (by (try dsimp only); (repeat (first | rw [up_s] | rw [up_n (by omega)])) <;> first | rfl | assumption) ?_
  refine gf_X11_102 (pc := 4) rfl dX11_tells_4 (by (try dsimp only); (repeat (first | rw [up_s] | rw [up_n (by omega)])) <;> first | rfl | assumption) ?_
  refine iv_X11_144 (pc := 7) rfl dX11_tells_7 (by (try dsimp only); (repeat (first | rw [up_s] | rw [up_n (by omega)])) <;> first | rfl | assumption) (Nat.le_of_ble_eq_true rfl) (Nat.le_of_ble_eq_true rfl) (Nat.le_of_ble_eq_true rfl) (Nat.le_of_ble_eq_true rfl) (c_hasHour pn w.2.2.2.2.2.1) (kp ?_)
  rw [h1]
  refine ev_if_eq (pc := 10) 26 dX11_tells_10 (by decide) (fun c_10 => ?_) (fun c_10 => ?_)
  · exact absurd c_10 (by decide)
  · (try simp (disch := omega) only [i32_lti, i32_lei, i32_eqi, nI_toInt, i32z] at c_10)
    refine ev_aload_n (pc := 13) dX11_tells_13 rfl ?_
    refine gf_X11_29 (pc := 14) rfl dX11_tells_14 (by (try dsimp only); (repeat (first | rw [up_s] | rw [up_n (by omega)])) <;> first | rfl | assumption) ?_
    refine gf_X11_102 (pc := 17) rfl dX11_tells_17 (by (try dsimp only); (repeat (first | rw [up_s] | rw [up_n (by omega)])) <;> first | rfl | assumption) ?_
    refine gf_X11_148 (pc := 20) rfl dX11_tells_20 (by (try dsimp only); (repeat (first | rw [up_s] | rw [up_n (by omega)])) <;> first | rfl | assumption) ?_
    refine ev_if_ne (pc := 23) 29 dX11_tells_23 (by decide) (fun c_23 => ?_) (fun c_23 => ?_)
    · (try simp (disch := omega) only [i32_lti, i32_lei, i32_eqi, nI_toInt, i32z] at c_23)
      refine ev_aload_n (pc := 29) dX11_tells_29 rfl ?_
      refine gf_X11_29 (pc := 30) rfl dX11_tells_30 (by (try dsimp only); (repeat (first | rw [up_s] | rw [up_n (by omega)])) <;> first | rfl | assumption) ?_
      refine iv_X11_134 (pc := 33) rfl dX11_tells_33 (by (try dsimp only); (repeat (first | rw [up_s] | rw [up_n (by omega)])) <;> first | rfl | assumption) (Nat.le_of_ble_eq_true rfl) (Nat.le_of_ble_eq_true rfl) (Nat.le_of_ble_eq_true rfl) (Nat.le_of_ble_eq_true rfl) (c_remember ps) (kv (fun S' hS => ?_))
      obtain ⟨h1, z'⟩ := S'
      obtain ⟨rfl, f1, s1⟩ := hS
      have po1 := (f1 d (by omega)).trans po
      have hs1 := s1.obj
      have hn1 := s1.now.1
      refine ev_aload_n (pc := 36) dX11_tells_36 rfl ?_
      refine gf_X11_29 (pc := 37) rfl dX11_tells_37 (by (try dsimp only); (repeat (first | rw [up_s] | rw [up_n (by omega)])) <;> first | rfl | assumption) ?_
      refine gf_X11_102 (pc := 40) rfl dX11_tells_40 (by (try dsimp only); (repeat (first | rw [up_s] | rw [up_n (by omega)])) <;> first | rfl | assumption) ?_
      refine ev_aload_n (pc := 43) dX11_tells_43 rfl ?_
      refine gf_X11_29 (pc := 44) rfl dX11_tells_44 (by (try dsimp only); (repeat (first | rw [up_s] | rw [up_n (by omega)])) <;> first | rfl | assumption) ?_
      refine gf_X11_102 (pc := 47) rfl dX11_tells_47 (by (try dsimp only); (repeat (first | rw [up_s] | rw [up_n (by omega)])) <;> first | rfl | assumption) ?_
      refine iv_X11_151 (pc := 50) rfl dX11_tells_50 (by (try dsimp only); (repeat (first | rw [up_s] | rw [up_n (by omega)])) <;> first | rfl | assumption) (Nat.le_of_ble_eq_true rfl) (Nat.le_of_ble_eq_true rfl) (Nat.le_of_ble_eq_true rfl) (Nat.le_of_ble_eq_true rfl) (c_innermost s1.now hl) (kp ?_)
      rw [ei]
      refine ev_iconst (pc := 53) (v := nI 1) dX11_tells_53 kc_1 ?_
      refine iv_X11_154 (pc := 54) rfl dX11_tells_54 (by (try dsimp only); (repeat (first | rw [up_s] | rw [up_n (by omega)])) <;> first | rfl | assumption) (Nat.le_of_ble_eq_true rfl) (Nat.le_of_ble_eq_true rfl) (Nat.le_of_ble_eq_true rfl) (Nat.le_of_ble_eq_true rfl) (c_tellParts s1.now w ht (by omega) (by omega) (by omega)) (kv (fun S' hS => ?_))
      obtain ⟨h2, z'⟩ := S'
      obtain ⟨rfl, f2, t2⟩ := hS
      have po2 := (f2 d (by omega)).trans po1
      have s2 := s1.setNow f2 t2
      have hs2 := s2.obj
      have hn2 := s2.now.1
      refine ev_aload_n (pc := 57) dX11_tells_57 rfl ?_
      refine gf_X11_29 (pc := 58) rfl dX11_tells_58 (by (try dsimp only); (repeat (first | rw [up_s] | rw [up_n (by omega)])) <;> first | rfl | assumption) ?_
      refine gf_X11_102 (pc := 61) rfl dX11_tells_61 (by (try dsimp only); (repeat (first | rw [up_s] | rw [up_n (by omega)])) <;> first | rfl | assumption) ?_
      refine gf_X11_141 (pc := 64) rfl dX11_tells_64 (by (try dsimp only); (repeat (first | rw [up_s] | rw [up_n (by omega)])) <;> first | rfl | assumption) ?_
      refine ev_iret (pc := 67) dX11_tells_67 rfl rfl (Nat.le_of_ble_eq_true rfl) (Nat.le_of_ble_eq_true rfl) ?_
      exact ⟨_, rfl, rfl, rfl, (fun q a => (f2 q (by omega)).trans (f1 q (by omega))), p.sd (fun q a => (f2 q (by omega)).trans (f1 q (by omega))) s2⟩
    · exfalso; (try simp (disch := omega) only [i32_lti, i32_lei, i32_eqi, nI_toInt, i32z] at c_23); omega
theorem c_D_silent_no (p : pC h d cs B N P I J wn op n tr) (w : wT N) (hn : (tV N && decide (0 < tH N)) = false) : Ct X 3 mt_X11_silent [.ref d] (h, z) 0 0 (QP (.int (-2)) (h, z)) := by
  obtain ⟨po, -, pb, -, ps, -⟩ := id p
  unfold pDO at po
  have hs := ps.obj
  have pn := ps.now
  have hn0 := pn.1
  refine mk_X11_silent (Nat.le_of_ble_eq_true rfl) (L := [.ref d]) rfl ?_
  refine ev_aload_n (pc := 0) dX11_silent_0 rfl ?_
  refine gf_X11_29 (pc := 1) rfl dX11_silent_1 (by (try dsimp only); (repeat (first | rw [up_s] | rw [up_n (by omega)])) <;> first | rfl | assumption) ?_
  refine gf_X11_102 (pc := 4) rfl dX11_silent_4 (by (try dsimp only); (repeat (first | rw [up_s] | rw [up_n (by omega)])) <;> first | rfl | assumption) ?_
  refine iv_X11_144 (pc := 7) rfl dX11_silent_7 (by (try dsimp only); (repeat (first | rw [up_s] | rw [up_n (by omega)])) <;> first | rfl | assumption) (Nat.le_of_ble_eq_true rfl) (Nat.le_of_ble_eq_true rfl) (Nat.le_of_ble_eq_true rfl) (Nat.le_of_ble_eq_true rfl) (c_hasHour pn w.2.2.2.2.2.1) (kp ?_)
  rw [hn]
  refine ev_if_ne (pc := 10) 16 dX11_silent_10 (by decide) (fun c_10 => ?_) (fun c_10 => ?_)
  · exact absurd rfl c_10
  · (try simp (disch := omega) only [i32_lti, i32_lei, i32_eqi, nI_toInt, i32z] at c_10)
    refine ev_bipush (pc := 13) (v := (-2)) dX11_silent_13 kb_m2 ?_
    refine ev_iret (pc := 15) dX11_silent_15 rfl rfl (Nat.le_of_ble_eq_true rfl) (Nat.le_of_ble_eq_true rfl) ?_
    exact ⟨rfl, rfl⟩
theorem c_D_silent (p : pC h d cs B N P I J wn op n tr) (w : wT N) (h1 : (tV N && decide (0 < tH N)) = true) : Ct X 3 mt_X11_silent [.ref d] (h, z) 0 0 (Qi (fun r S' => r = nI (tH (siT N)) ∧ S'.2 = z ∧ hfr h S'.1 d 174 ∧ pC S'.1 d cs B (siT N) (remP P N) I J wn op n tr)) := by
  obtain ⟨po, -, pb, -, ps, -⟩ := id p
  unfold pDO at po
  have hs := ps.obj
  have pn := ps.now
  have hn0 := pn.1
  have hv : tV N = true ∧ 0 < tH N := by simpa using h1
  refine mk_X11_silent (Nat.le_of_ble_eq_true rfl) (L := [.ref d]) rfl ?_
  refine ev_aload_n (pc := 0) dX11_silent_0 rfl ?_
  refine gf_X11_29 (pc := 1) rfl dX11_silent_1 (by (try dsimp only); (repeat (first | rw [up_s] | rw [up_n (by omega)])) <;> first | rfl | assumption) ?_
  refine gf_X11_102 (pc := 4) rfl dX11_silent_4 (by (try dsimp only); (repeat (first | rw [up_s] | rw [up_n (by omega)])) <;> first | rfl | assumption) ?_
  refine iv_X11_144 (pc := 7) rfl dX11_silent_7 (by (try dsimp only); (repeat (first | rw [up_s] | rw [up_n (by omega)])) <;> first | rfl | assumption) (Nat.le_of_ble_eq_true rfl) (Nat.le_of_ble_eq_true rfl) (Nat.le_of_ble_eq_true rfl) (Nat.le_of_ble_eq_true rfl) (c_hasHour pn w.2.2.2.2.2.1) (kp ?_)
  rw [h1]
  refine ev_if_ne (pc := 10) 16 dX11_silent_10 (by decide) (fun c_10 => ?_) (fun c_10 => ?_)
  · (try simp (disch := omega) only [i32_lti, i32_lei, i32_eqi, nI_toInt, i32z] at c_10)
    refine ev_aload_n (pc := 16) dX11_silent_16 rfl ?_
    refine gf_X11_29 (pc := 17) rfl dX11_silent_17 (by (try dsimp only); (repeat (first | rw [up_s] | rw [up_n (by omega)])) <;> first | rfl | assumption) ?_
    refine iv_X11_134 (pc := 20) rfl dX11_silent_20 (by (try dsimp only); (repeat (first | rw [up_s] | rw [up_n (by omega)])) <;> first | rfl | assumption) (Nat.le_of_ble_eq_true rfl) (Nat.le_of_ble_eq_true rfl) (Nat.le_of_ble_eq_true rfl) (Nat.le_of_ble_eq_true rfl) (c_remember ps) (kv (fun S' hS => ?_))
    obtain ⟨h1, z'⟩ := S'
    obtain ⟨rfl, f1, s1⟩ := hS
    have po1 := (f1 d (by omega)).trans po
    have hs1 := s1.obj
    have hn1 := s1.now.1
    refine ev_aload_n (pc := 23) dX11_silent_23 rfl ?_
    refine gf_X11_29 (pc := 24) rfl dX11_silent_24 (by (try dsimp only); (repeat (first | rw [up_s] | rw [up_n (by omega)])) <;> first | rfl | assumption) ?_
    refine gf_X11_102 (pc := 27) rfl dX11_silent_27 (by (try dsimp only); (repeat (first | rw [up_s] | rw [up_n (by omega)])) <;> first | rfl | assumption) ?_
    refine iv_X11_158 (pc := 30) rfl dX11_silent_30 (by (try dsimp only); (repeat (first | rw [up_s] | rw [up_n (by omega)])) <;> first | rfl | assumption) (Nat.le_of_ble_eq_true rfl) (Nat.le_of_ble_eq_true rfl) (Nat.le_of_ble_eq_true rfl) (Nat.le_of_ble_eq_true rfl) (c_passHour s1.now (by omega)) (kv (fun S' hS => ?_))
    obtain ⟨h2, z'⟩ := S'
    obtain ⟨rfl, f2, t2⟩ := hS
    have po2 := (f2 d (by omega)).trans po1
    have s2 := s1.setNow f2 t2
    have hs2 := s2.obj
    have hn2 := s2.now.1
    refine ev_aload_n (pc := 33) dX11_silent_33 rfl ?_
    refine gf_X11_29 (pc := 34) rfl dX11_silent_34 (by (try dsimp only); (repeat (first | rw [up_s] | rw [up_n (by omega)])) <;> first | rfl | assumption) ?_
    refine gf_X11_102 (pc := 37) rfl dX11_silent_37 (by (try dsimp only); (repeat (first | rw [up_s] | rw [up_n (by omega)])) <;> first | rfl | assumption) ?_
    refine gf_X11_141 (pc := 40) rfl dX11_silent_40 (by (try dsimp only); (repeat (first | rw [up_s] | rw [up_n (by omega)])) <;> first | rfl | assumption) ?_
    refine ev_iret (pc := 43) dX11_silent_43 rfl rfl (Nat.le_of_ble_eq_true rfl) (Nat.le_of_ble_eq_true rfl) ?_
    exact ⟨_, rfl, rfl, rfl, (fun q a => (f2 q (by omega)).trans (f1 q (by omega))), p.sd (fun q a => (f2 q (by omega)).trans (f1 q (by omega))) s2⟩
  · exact absurd c_10 (by decide)
theorem c_D_dawn_no (p : pC h d cs B N P I J wn op n tr) (w : wT N) (hn : (tV N && (decide (tH N = 0) && decide (tN N < 99))) = false) : Ct X 3 mt_X11_dawn [.ref d] (h, z) 0 0 (QP (.int (-2)) (h, z)) := by
  obtain ⟨po, -, pb, -, ps, -⟩ := id p
  unfold pDO at po
  have hs := ps.obj
  have pn := ps.now
  have hn0 := pn.1
  refine mk_X11_dawn (Nat.le_of_ble_eq_true rfl) (L := [.ref d]) rfl ?_
  refine ev_aload_n (pc := 0) dX11_dawn_0 rfl ?_
  refine gf_X11_29 (pc := 1) rfl dX11_dawn_1 (by (try dsimp only); (repeat (first | rw [up_s] | rw [up_n (by omega)])) <;> first | rfl | assumption) ?_
  refine gf_X11_102 (pc := 4) rfl dX11_dawn_4 (by (try dsimp only); (repeat (first | rw [up_s] | rw [up_n (by omega)])) <;> first | rfl | assumption) ?_
  refine iv_X11_161 (pc := 7) rfl dX11_dawn_7 (by (try dsimp only); (repeat (first | rw [up_s] | rw [up_n (by omega)])) <;> first | rfl | assumption) (Nat.le_of_ble_eq_true rfl) (Nat.le_of_ble_eq_true rfl) (Nat.le_of_ble_eq_true rfl) (Nat.le_of_ble_eq_true rfl) (c_mayDawn pn w.2.2.2.2.2.1 w.2.2.2.2.2.2.1) (kp ?_)
  rw [hn]
  refine ev_if_ne (pc := 10) 16 dX11_dawn_10 (by decide) (fun c_10 => ?_) (fun c_10 => ?_)
  · exact absurd rfl c_10
  · (try simp (disch := omega) only [i32_lti, i32_lei, i32_eqi, nI_toInt, i32z] at c_10)
    refine ev_bipush (pc := 13) (v := (-2)) dX11_dawn_13 kb_m2 ?_
    refine ev_iret (pc := 15) dX11_dawn_15 rfl rfl (Nat.le_of_ble_eq_true rfl) (Nat.le_of_ble_eq_true rfl) ?_
    exact ⟨rfl, rfl⟩
theorem c_D_dawn (p : pC h d cs B N P I J wn op n tr) (b9 : wB m B) (w : wT N) (h1 : (tV N && (decide (tH N = 0) && decide (tN N < 99))) = true) : Ct X 3 mt_X11_dawn [.ref d] (h, z) 0 0 (Qi (fun r S' => r = b2i (dawnOk B N) ∧ S'.2 = z ∧ hfr h S'.1 d 174 ∧ pC S'.1 d cs B (dawnT B N) (remP P N) I J wn op n tr)) := by
  obtain ⟨po, -, pb, -, ps, -⟩ := id p
  unfold pDO at po
  have hs := ps.obj
  have pn := ps.now
  have hn0 := pn.1
  refine mk_X11_dawn (Nat.le_of_ble_eq_true rfl) (L := [.ref d]) rfl ?_
  refine ev_aload_n (pc := 0) dX11_dawn_0 rfl ?_
  refine gf_X11_29 (pc := 1) rfl dX11_dawn_1 (by (try dsimp only); (repeat (first | rw [up_s] | rw [up_n (by omega)])) <;> first | rfl | assumption) ?_
  refine gf_X11_102 (pc := 4) rfl dX11_dawn_4 (by (try dsimp only); (repeat (first | rw [up_s] | rw [up_n (by omega)])) <;> first | rfl | assumption) ?_
  refine iv_X11_161 (pc := 7) rfl dX11_dawn_7 (by (try dsimp only); (repeat (first | rw [up_s] | rw [up_n (by omega)])) <;> first | rfl | assumption) (Nat.le_of_ble_eq_true rfl) (Nat.le_of_ble_eq_true rfl) (Nat.le_of_ble_eq_true rfl) (Nat.le_of_ble_eq_true rfl) (c_mayDawn pn w.2.2.2.2.2.1 w.2.2.2.2.2.2.1) (kp ?_)
  rw [h1]
  refine ev_if_ne (pc := 10) 16 dX11_dawn_10 (by decide) (fun c_10 => ?_) (fun c_10 => ?_)
  · (try simp (disch := omega) only [i32_lti, i32_lei, i32_eqi, nI_toInt, i32z] at c_10)
    refine ev_aload_n (pc := 16) dX11_dawn_16 rfl ?_
    refine gf_X11_29 (pc := 17) rfl dX11_dawn_17 (by (try dsimp only); (repeat (first | rw [up_s] | rw [up_n (by omega)])) <;> first | rfl | assumption) ?_
    refine iv_X11_134 (pc := 20) rfl dX11_dawn_20 (by (try dsimp only); (repeat (first | rw [up_s] | rw [up_n (by omega)])) <;> first | rfl | assumption) (Nat.le_of_ble_eq_true rfl) (Nat.le_of_ble_eq_true rfl) (Nat.le_of_ble_eq_true rfl) (Nat.le_of_ble_eq_true rfl) (c_remember ps) (kv (fun S' hS => ?_))
    obtain ⟨h1, z'⟩ := S'
    obtain ⟨rfl, f1, s1⟩ := hS
    have po1 := (f1 d (by omega)).trans po
    have hs1 := s1.obj
    have hn1 := s1.now.1
    have pb1 := pb.fr (fun q a b => f1 q (by omega))
    refine ev_aload_n (pc := 23) dX11_dawn_23 rfl ?_
    refine gf_X11_29 (pc := 24) rfl dX11_dawn_24 (by (try dsimp only); (repeat (first | rw [up_s] | rw [up_n (by omega)])) <;> first | rfl | assumption) ?_
    refine gf_X11_102 (pc := 27) rfl dX11_dawn_27 (by (try dsimp only); (repeat (first | rw [up_s] | rw [up_n (by omega)])) <;> first | rfl | assumption) ?_
    refine ev_aload_n (pc := 30) dX11_dawn_30 rfl ?_
    refine gf_X11_19 (pc := 31) rfl dX11_dawn_31 (by (try dsimp only); (repeat (first | rw [up_s] | rw [up_n (by omega)])) <;> first | rfl | assumption) ?_
    refine iv_X11_164 (pc := 34) rfl dX11_dawn_34 (by (try dsimp only); (repeat (first | rw [up_s] | rw [up_n (by omega)])) <;> first | rfl | assumption) (Nat.le_of_ble_eq_true rfl) (Nat.le_of_ble_eq_true rfl) (Nat.le_of_ble_eq_true rfl) (Nat.le_of_ble_eq_true rfl) (c_meetDawn s1.now w pb1 b9.2.2.2.1 b9.2.1 b9.2.2.1 (by omega)) (ki (fun r S' hS => ?_))
    obtain ⟨h2, z'⟩ := S'
    obtain ⟨rfl, rfl, f2, t2⟩ := hS
    have s2 := s1.setNow f2 t2
    refine ev_if_eq (pc := 37) 44 dX11_dawn_37 (by decide) (fun c_37 => ?_) (fun c_37 => ?_)
    · simp only [b2i_e0, Bool.not_eq_false] at c_37
      refine ev_iconst (pc := 44) (v := nI 0) dX11_dawn_44 kc_0 ?_
      refine ev_iret (pc := 45) dX11_dawn_45 rfl rfl (Nat.le_of_ble_eq_true rfl) (Nat.le_of_ble_eq_true rfl) ?_
      exact ⟨_, rfl, by rw [c_37]; rfl, rfl, (fun q a => (f2 q (by omega)).trans (f1 q (by omega))), p.sd (fun q a => (f2 q (by omega)).trans (f1 q (by omega))) s2⟩
    · simp only [b2i_e0, Bool.not_eq_false] at c_37
      refine ev_iconst (pc := 40) (v := nI 1) dX11_dawn_40 kc_1 ?_
      refine ev_goto (pc := 41) 45 dX11_dawn_41 (by decide) ?_
      refine ev_iret (pc := 45) dX11_dawn_45 rfl rfl (Nat.le_of_ble_eq_true rfl) (Nat.le_of_ble_eq_true rfl) ?_
      exact ⟨_, rfl, by rw [c_37]; rfl, rfl, (fun q a => (f2 q (by omega)).trans (f1 q (by omega))), p.sd (fun q a => (f2 q (by omega)).trans (f1 q (by omega))) s2⟩
  · exact absurd c_10 (by decide)
theorem c_D_undo (p : pC h d cs B N P I J wn op n tr) : Ct X 3 mt_X11_undo [.ref d] (h, z) 0 0 (Qi (fun r S' => r = (if 0 < P.length then nI (P.length - 1) else -2) ∧ S'.2 = z ∧ hfr h S'.1 d 174 ∧ pC S'.1 d cs B (P.getLast?.getD N) P.dropLast I J wn op n tr)) := by
  obtain ⟨po, -, pb, -, ps, -⟩ := id p
  unfold pDO at po
  have hs := ps.obj
  refine mk_X11_undo (Nat.le_of_ble_eq_true rfl) (L := [.ref d]) rfl ?_
  refine ev_aload_n (pc := 0) dX11_undo_0 rfl ?_
  refine gf_X11_29 (pc := 1) rfl dX11_undo_1 (by (try dsimp only); (repeat (first | rw [up_s] | rw [up_n (by omega)])) <;> first | rfl | assumption) ?_
  refine iv_X11_168 (pc := 4) rfl dX11_undo_4 (by (try dsimp only); (repeat (first | rw [up_s] | rw [up_n (by omega)])) <;> first | rfl | assumption) (Nat.le_of_ble_eq_true rfl) (Nat.le_of_ble_eq_true rfl) (Nat.le_of_ble_eq_true rfl) (Nat.le_of_ble_eq_true rfl) (c_takeBack ps) (ki (fun r S' hS => ?_))
  obtain ⟨h1, z'⟩ := S'
  obtain ⟨rfl, rfl, f1, s1⟩ := hS
  have po1 := (f1 d (by omega)).trans po
  have hs1 := s1.obj
  have fin := p.sd (fun q a => f1 q (by omega)) s1
  refine ev_if_eq (pc := 7) 20 dX11_undo_7 (by decide) (fun c_7 => ?_) (fun c_7 => ?_)
  · simp only [b2i_e0, Bool.not_eq_false] at c_7
    rw [decide_eq_false_iff_not] at c_7
    refine ev_bipush (pc := 20) (v := (-2)) dX11_undo_20 kb_m2 ?_
    refine ev_iret (pc := 22) dX11_undo_22 rfl rfl (Nat.le_of_ble_eq_true rfl) (Nat.le_of_ble_eq_true rfl) ?_
    first | exact ⟨_, rfl, by rw [if_pos c_7, List.length_dropLast], rfl, (fun q a => f1 q (by omega)), fin⟩ | exact ⟨_, rfl, by rw [if_neg c_7], rfl, (fun q a => f1 q (by omega)), fin⟩
  · simp only [b2i_e0, Bool.not_eq_false] at c_7
    rw [decide_eq_true_eq] at c_7
    refine ev_aload_n (pc := 10) dX11_undo_10 rfl ?_
    refine gf_X11_29 (pc := 11) rfl dX11_undo_11 (by (try dsimp only); (repeat (first | rw [up_s] | rw [up_n (by omega)])) <;> first | rfl | assumption) ?_
    refine gf_X11_171 (pc := 14) rfl dX11_undo_14 (by (try dsimp only); (repeat (first | rw [up_s] | rw [up_n (by omega)])) <;> first | rfl | assumption) ?_
    refine ev_goto (pc := 17) 22 dX11_undo_17 (by decide) ?_
    refine ev_iret (pc := 22) dX11_undo_22 rfl rfl (Nat.le_of_ble_eq_true rfl) (Nat.le_of_ble_eq_true rfl) ?_
    first | exact ⟨_, rfl, by rw [if_pos c_7, List.length_dropLast], rfl, (fun q a => f1 q (by omega)), fin⟩ | exact ⟨_, rfl, by rw [if_neg c_7], rfl, (fun q a => f1 q (by omega)), fin⟩
theorem c_D_heard_bad {x y : Int32} (hx : ¬ ((1 ≤ x.toInt ∧ x.toInt ≤ 30) ∧ 0 ≤ y.toInt ∧ y.toInt ≤ 6)) : Ct X 1 mt_X11_heard [.ref d, .int x, .int y] (h, z) 0 0 (QP (.int (-1)) (h, z)) := by
  refine mk_X11_heard (Nat.le_of_ble_eq_true rfl) (L := [.ref d, .int x, .int y]) rfl ?_
  refine ev_iload_n (pc := 0) dX11_heard_0 rfl ?_
  refine iv_X11_225 (pc := 1) rfl dX11_heard_1 (Nat.le_of_ble_eq_true rfl) (Nat.le_of_ble_eq_true rfl) (Nat.le_of_ble_eq_true rfl) (Nat.le_of_ble_eq_true rfl) (c_isDawn x) (kp ?_)
  refine ev_if_eq (pc := 4) 17 dX11_heard_4 (by decide) (fun c_4 => ?_) (fun c_4 => ?_)
  · simp only [b2i_e0, Bool.not_eq_false] at c_4
    refine ev_iconst (pc := 17) (v := (-1)) dX11_heard_17 kc_m1 ?_
    refine ev_iret (pc := 18) dX11_heard_18 rfl rfl (Nat.le_of_ble_eq_true rfl) (Nat.le_of_ble_eq_true rfl) ?_
    exact ⟨rfl, rfl⟩
  · simp only [b2i_e0, Bool.not_eq_false] at c_4
    rw [decide_eq_true_eq] at c_4
    refine ev_iload_n (pc := 7) dX11_heard_7 rfl ?_
    refine ev_if_lt (pc := 8) 17 dX11_heard_8 (by decide) (fun c_8 => ?_) (fun c_8 => ?_)
    · (try simp (disch := omega) only [i32_lti, i32_lei, i32_eqi, nI_toInt, i32z] at c_8)
      refine ev_iconst (pc := 17) (v := (-1)) dX11_heard_17 kc_m1 ?_
      refine ev_iret (pc := 18) dX11_heard_18 rfl rfl (Nat.le_of_ble_eq_true rfl) (Nat.le_of_ble_eq_true rfl) ?_
      exact ⟨rfl, rfl⟩
    · (try simp (disch := omega) only [i32_lti, i32_lei, i32_eqi, nI_toInt, i32z] at c_8)
      refine ev_iload_n (pc := 11) dX11_heard_11 rfl ?_
      refine ev_bipush (pc := 12) (v := nI 6) dX11_heard_12 kb_6 ?_
      refine ev_icmp_le (pc := 14) 19 dX11_heard_14 (by decide) (fun c_14 => ?_) (fun c_14 => ?_)
      · exfalso; (try simp (disch := omega) only [i32_lti, i32_lei, i32_eqi, nI_toInt, i32z] at c_14); omega
      · (try simp (disch := omega) only [i32_lti, i32_lei, i32_eqi, nI_toInt, i32z] at c_14)
        refine ev_iconst (pc := 17) (v := (-1)) dX11_heard_17 kc_m1 ?_
        refine ev_iret (pc := 18) dX11_heard_18 rfl rfl (Nat.le_of_ble_eq_true rfl) (Nat.le_of_ble_eq_true rfl) ?_
        exact ⟨rfl, rfl⟩
theorem c_D_heard_full (p : pC h d cs B N P I J wn op n tr) {x y : Nat} (hx : 1 ≤ x ∧ x ≤ 30) (hy : y ≤ 6) (hn : n = 6) : Ct X 1 mt_X11_heard [.ref d, .int (nI x), .int (nI y)] (h, z) 0 0 (QP (.int (-3)) (h, z)) := by
  obtain ⟨po, -⟩ := id p
  unfold pDO at po
  subst hn
  refine mk_X11_heard (Nat.le_of_ble_eq_true rfl) (L := [.ref d, .int (nI x), .int (nI y)]) rfl ?_
  refine ev_iload_n (pc := 0) dX11_heard_0 rfl ?_
  refine iv_X11_225 (pc := 1) rfl dX11_heard_1 (Nat.le_of_ble_eq_true rfl) (Nat.le_of_ble_eq_true rfl) (Nat.le_of_ble_eq_true rfl) (Nat.le_of_ble_eq_true rfl) (c_isDawn (nI x)) (kp ?_)
  rw [decide_eq_true (by rw [nI_toInt (by omega)]; omega)]
  refine ev_if_eq (pc := 4) 17 dX11_heard_4 (by decide) (fun c_4 => ?_) (fun c_4 => ?_)
  · exact absurd c_4 (by decide)
  · (try simp (disch := omega) only [i32_lti, i32_lei, i32_eqi, nI_toInt, i32z] at c_4)
    refine ev_iload_n (pc := 7) dX11_heard_7 rfl ?_
    refine ev_if_lt (pc := 8) 17 dX11_heard_8 (by decide) (fun c_8 => ?_) (fun c_8 => ?_)
    · exfalso; (try simp (disch := omega) only [i32_lti, i32_lei, i32_eqi, nI_toInt, i32z] at c_8); omega
    · (try simp (disch := omega) only [i32_lti, i32_lei, i32_eqi, nI_toInt, i32z] at c_8)
      refine ev_iload_n (pc := 11) dX11_heard_11 rfl ?_
      refine ev_bipush (pc := 12) (v := nI 6) dX11_heard_12 kb_6 ?_
      refine ev_icmp_le (pc := 14) 19 dX11_heard_14 (by decide) (fun c_14 => ?_) (fun c_14 => ?_)
      · (try simp (disch := omega) only [i32_lti, i32_lei, i32_eqi, nI_toInt, i32z] at c_14)
        refine ev_aload_n (pc := 19) dX11_heard_19 rfl ?_
        refine gf_X11_244 (pc := 20) rfl dX11_heard_20 (by (try dsimp only); (repeat (first | rw [up_s] | rw [up_n (by omega)])) <;> first | rfl | assumption) ?_
        refine ev_if_lt (pc := 23) 35 dX11_heard_23 (by decide) (fun c_23 => ?_) (fun c_23 => ?_)
        · (try simp (disch := omega) only [i32_lti, i32_lei, i32_eqi, nI_toInt, i32z] at c_23)
          refine ev_bipush (pc := 35) (v := (-3)) dX11_heard_35 kb_m3 ?_
          refine ev_iret (pc := 37) dX11_heard_37 rfl rfl (Nat.le_of_ble_eq_true rfl) (Nat.le_of_ble_eq_true rfl) ?_
          exact ⟨rfl, rfl⟩
        · (try simp (disch := omega) only [i32_lti, i32_lei, i32_eqi, nI_toInt, i32z] at c_23)
          refine ev_aload_n (pc := 26) dX11_heard_26 rfl ?_
          refine gf_X11_244 (pc := 27) rfl dX11_heard_27 (by (try dsimp only); (repeat (first | rw [up_s] | rw [up_n (by omega)])) <;> first | rfl | assumption) ?_
          refine ev_bipush (pc := 30) (v := nI 6) dX11_heard_30 kb_6 ?_
          refine ev_icmp_lt (pc := 32) 38 dX11_heard_32 (by decide) (fun c_32 => ?_) (fun c_32 => ?_)
          · exfalso; (try simp (disch := omega) only [i32_lti, i32_lei, i32_eqi, nI_toInt, i32z] at c_32); omega
          · (try simp (disch := omega) only [i32_lti, i32_lei, i32_eqi, nI_toInt, i32z] at c_32)
            refine ev_bipush (pc := 35) (v := (-3)) dX11_heard_35 kb_m3 ?_
            refine ev_iret (pc := 37) dX11_heard_37 rfl rfl (Nat.le_of_ble_eq_true rfl) (Nat.le_of_ble_eq_true rfl) ?_
            exact ⟨rfl, rfl⟩
      · exfalso; (try simp (disch := omega) only [i32_lti, i32_lei, i32_eqi, nI_toInt, i32z] at c_14); omega
theorem pC.hd {wn' op' : List Nat} {n' : Nat} {h' : Hp} (p : pC h d cs B N P I J wn op n tr) (e : ∀ q : Nat, q ≠ d → (q < d + 73 ∨ d + 75 ≤ q) → h' q = h q) (o : pDO h' d (nI (kI I J)) (nI n')) (x : pHeard h' d wn' op' n') : pC h' d cs B N P I J wn' op' n' tr := by
  obtain ⟨po, px, pb, ⟨B2, pd⟩, ps, pia, ⟨kn, pr⟩, ph, pka, pkd, pi, pj⟩ := p
  exact ⟨o, px.fr (fun q a b => e q (by omega) (by omega)), pb.fr (fun q a b => e q (by omega) (by omega)), ⟨B2, pd.fr (fun q a b => e q (by omega) (by omega))⟩, ps.fr (fun q a b => e q (by omega) (by omega)), (e _ (by omega) (by omega)).trans pia, ⟨kn, pr.fr (fun q a b => e q (by omega) (by omega))⟩, x, (e _ (by omega) (by omega)).trans pka, pkd.fr (fun q a b => e q (by omega) (by omega)), pi.fr (fun q a b => e q (by omega) (by omega)), pj.fr (fun q a b => e q (by omega) (by omega))⟩
theorem c_D_heard (p : pC h d cs B N P I J wn op n tr) {x y : Nat} (hx : 1 ≤ x ∧ x ≤ 30) (hy : y ≤ 6) (hn : n < 6) : Ct X 1 mt_X11_heard [.ref d, .int (nI x), .int (nI y)] (h, z) 0 0 (Qi (fun r S' => r = nI (n + 1) ∧ S'.2 = z ∧ hfr h S'.1 d 174 ∧ pC S'.1 d cs B N P I J (wn.set n x) (op.set n y) (n + 1) tr)) := by
  obtain ⟨po, -, -, -, -, -, -, ph, -⟩ := id p
  unfold pDO at po
  obtain ⟨p1, l1, p2, l2, hn6, ho⟩ := id ph
  refine mk_X11_heard (Nat.le_of_ble_eq_true rfl) (L := [.ref d, .int (nI x), .int (nI y)]) rfl ?_
  refine ev_iload_n (pc := 0) dX11_heard_0 rfl ?_
  refine iv_X11_225 (pc := 1) rfl dX11_heard_1 (Nat.le_of_ble_eq_true rfl) (Nat.le_of_ble_eq_true rfl) (Nat.le_of_ble_eq_true rfl) (Nat.le_of_ble_eq_true rfl) (c_isDawn (nI x)) (kp ?_)
  rw [decide_eq_true (by rw [nI_toInt (by omega)]; omega)]
  refine ev_if_eq (pc := 4) 17 dX11_heard_4 (by decide) (fun c_4 => ?_) (fun c_4 => ?_)
  · exact absurd c_4 (by decide)
  · (try simp (disch := omega) only [i32_lti, i32_lei, i32_eqi, nI_toInt, i32z] at c_4)
    refine ev_iload_n (pc := 7) dX11_heard_7 rfl ?_
    refine ev_if_lt (pc := 8) 17 dX11_heard_8 (by decide) (fun c_8 => ?_) (fun c_8 => ?_)
    · exfalso; (try simp (disch := omega) only [i32_lti, i32_lei, i32_eqi, nI_toInt, i32z] at c_8); omega
    · (try simp (disch := omega) only [i32_lti, i32_lei, i32_eqi, nI_toInt, i32z] at c_8)
      refine ev_iload_n (pc := 11) dX11_heard_11 rfl ?_
      refine ev_bipush (pc := 12) (v := nI 6) dX11_heard_12 kb_6 ?_
      refine ev_icmp_le (pc := 14) 19 dX11_heard_14 (by decide) (fun c_14 => ?_) (fun c_14 => ?_)
      · (try simp (disch := omega) only [i32_lti, i32_lei, i32_eqi, nI_toInt, i32z] at c_14)
        refine ev_aload_n (pc := 19) dX11_heard_19 rfl ?_
        refine gf_X11_244 (pc := 20) rfl dX11_heard_20 (by (try dsimp only); (repeat (first | rw [up_s] | rw [up_n (by omega)])) <;> first | rfl | assumption) ?_
        refine ev_if_lt (pc := 23) 35 dX11_heard_23 (by decide) (fun c_23 => ?_) (fun c_23 => ?_)
        · exfalso; (try simp (disch := omega) only [i32_lti, i32_lei, i32_eqi, nI_toInt, i32z] at c_23); omega
        · (try simp (disch := omega) only [i32_lti, i32_lei, i32_eqi, nI_toInt, i32z] at c_23)
          refine ev_aload_n (pc := 26) dX11_heard_26 rfl ?_
          refine gf_X11_244 (pc := 27) rfl dX11_heard_27 (by (try dsimp only); (repeat (first | rw [up_s] | rw [up_n (by omega)])) <;> first | rfl | assumption) ?_
          refine ev_bipush (pc := 30) (v := nI 6) dX11_heard_30 kb_6 ?_
          refine ev_icmp_lt (pc := 32) 38 dX11_heard_32 (by decide) (fun c_32 => ?_) (fun c_32 => ?_)
          · (try simp (disch := omega) only [i32_lti, i32_lei, i32_eqi, nI_toInt, i32z] at c_32)
            refine ev_aload_n (pc := 38) dX11_heard_38 rfl ?_
            refine gf_X11_44 (pc := 39) rfl dX11_heard_39 (by (try dsimp only); (repeat (first | rw [up_s] | rw [up_n (by omega)])) <;> first | rfl | assumption) ?_
            refine ev_aload_n (pc := 42) dX11_heard_42 rfl ?_
            refine gf_X11_244 (pc := 43) rfl dX11_heard_43 (by (try dsimp only); (repeat (first | rw [up_s] | rw [up_n (by omega)])) <;> first | rfl | assumption) ?_
            refine ev_iload_n (pc := 46) dX11_heard_46 rfl ?_
            refine ev_iast (pc := 47) dX11_heard_47 (by (try dsimp only); (repeat (first | rw [up_s] | rw [up_n (by omega)])) <;> first | rfl | assumption) (nI_toInt (by omega)) (by simp only [List.length_map, List.length_set, List.length_replicate, List.length_cons, List.length_nil]; omega) ?_
            (try rw [gs])
            refine ev_aload_n (pc := 48) dX11_heard_48 rfl ?_
            refine gf_X11_48 (pc := 49) rfl dX11_heard_49 (by (try dsimp only); (repeat (first | rw [up_s] | rw [up_n (by omega)])) <;> first | rfl | assumption) ?_
            refine ev_aload_n (pc := 52) dX11_heard_52 rfl ?_
            refine gf_X11_244 (pc := 53) rfl dX11_heard_53 (by (try dsimp only); (repeat (first | rw [up_s] | rw [up_n (by omega)])) <;> first | rfl | assumption) ?_
            refine ev_iload_n (pc := 56) dX11_heard_56 rfl ?_
            refine ev_iast (pc := 57) dX11_heard_57 (by (try dsimp only); (repeat (first | rw [up_s] | rw [up_n (by omega)])) <;> first | rfl | assumption) (nI_toInt (by omega)) (by simp only [List.length_map, List.length_set, List.length_replicate, List.length_cons, List.length_nil]; omega) ?_
            (try rw [gs])
            refine ev_aload_n (pc := 58) dX11_heard_58 rfl ?_
            refine ev_dup (pc := 59) dX11_heard_59 rfl ?_
            refine gf_X11_244 (pc := 60) rfl dX11_heard_60 (by (try dsimp only); (repeat (first | rw [up_s] | rw [up_n (by omega)])) <;> first | rfl | assumption) ?_
            refine ev_iconst (pc := 63) (v := nI 1) dX11_heard_63 kc_1 ?_
            refine ev_iadd (pc := 64) dX11_heard_64 ?_
            rw [nI_add]
            refine pf_X11_244 (pc := 65) rfl dX11_heard_65 (by (try dsimp only); (repeat (first | rw [up_s] | rw [up_n (by omega)])) <;> first | rfl | assumption) ?_
            refine ev_aload_n (pc := 68) dX11_heard_68 rfl ?_
            refine gf_X11_244 (pc := 69) rfl dX11_heard_69 (by (try dsimp only); (repeat (first | rw [up_s] | rw [up_n (by omega)])) <;> first | rfl | assumption) ?_
            refine ev_iret (pc := 72) dX11_heard_72 rfl rfl (Nat.le_of_ble_eq_true rfl) (Nat.le_of_ble_eq_true rfl) ?_
            refine ⟨_, rfl, rfl, rfl, (by intro q hq; first | rfl | ((try dsimp only); (repeat (first | rw [up_n (by omega)])))), ?_⟩
            refine p.hd (by intro q h1 h2; (try dsimp only); (repeat (first | rw [up_n (by omega)]))) (by unfold pDO; exact (by (try dsimp only); (repeat (first | rw [up_s] | rw [up_n (by omega)])) <;> first | rfl | assumption)) ⟨(by (try dsimp only); (repeat (first | rw [up_s] | rw [up_n (by omega)])) <;> first | rfl | assumption), (List.length_set ..).trans l1, (by (try dsimp only); (repeat (first | rw [up_s] | rw [up_n (by omega)])) <;> first | rfl | assumption), (List.length_set ..).trans l2, by omega, ?_⟩
            intro k hk
            rw [gN_set (by omega), gN_set (by omega)]
            by_cases hkn : k = n
            · rw [if_pos hkn, if_pos hkn]; exact ⟨hx.1, hx.2, hy⟩
            · rw [if_neg hkn, if_neg hkn]; exact ho k (by omega)
          · exfalso; (try simp (disch := omega) only [i32_lti, i32_lei, i32_eqi, nI_toInt, i32z] at c_32); omega
      · exfalso; (try simp (disch := omega) only [i32_lti, i32_lei, i32_eqi, nI_toInt, i32z] at c_14); omega
theorem c_D_forget (p : pC h d cs B N P I J wn op n tr) : Ct X 0 mt_X11_forget [.ref d] (h, z) 0 0 (Qi (fun r S' => r = nI n ∧ S'.2 = z ∧ hfr h S'.1 d 174 ∧ pC S'.1 d cs B N P I J wn op 0 tr)) := by
  obtain ⟨po, -, -, -, -, -, -, ph, -⟩ := id p
  unfold pDO at po
  obtain ⟨p1, l1, p2, l2, hn6, ho⟩ := id ph
  refine mk_X11_forget (Nat.le_of_ble_eq_true rfl) (L := [.ref d, .retAddr 0]) rfl ?_
  refine ev_aload_n (pc := 0) dX11_forget_0 rfl ?_
  refine gf_X11_244 (pc := 1) rfl dX11_forget_1 (by (try dsimp only); (repeat (first | rw [up_s] | rw [up_n (by omega)])) <;> first | rfl | assumption) ?_
  refine ev_istore_n (pc := 4) (L' := [_, _]) dX11_forget_4 (Nat.le_of_ble_eq_true rfl) rfl ?_
  refine ev_aload_n (pc := 5) dX11_forget_5 rfl ?_
  refine ev_iconst (pc := 6) (v := nI 0) dX11_forget_6 kc_0 ?_
  refine pf_X11_244 (pc := 7) rfl dX11_forget_7 (by (try dsimp only); (repeat (first | rw [up_s] | rw [up_n (by omega)])) <;> first | rfl | assumption) ?_
  refine ev_iload_n (pc := 10) dX11_forget_10 rfl ?_
  refine ev_iret (pc := 11) dX11_forget_11 rfl rfl (Nat.le_of_ble_eq_true rfl) (Nat.le_of_ble_eq_true rfl) ?_
  exact ⟨_, rfl, rfl, rfl, (by intro q hq; first | rfl | ((try dsimp only); (repeat (first | rw [up_n (by omega)])))), p.hd (by intro q h1 h2; (try dsimp only); (repeat (first | rw [up_n (by omega)]))) (by unfold pDO; exact (by (try dsimp only); (repeat (first | rw [up_s] | rw [up_n (by omega)])) <;> first | rfl | assumption)) ⟨(by (try dsimp only); (repeat (first | rw [up_s] | rw [up_n (by omega)])) <;> first | rfl | assumption), l1, (by (try dsimp only); (repeat (first | rw [up_s] | rw [up_n (by omega)])) <;> first | rfl | assumption), l2, by omega, fun k hk => by omega⟩⟩
end PUB2
