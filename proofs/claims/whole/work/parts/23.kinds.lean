/-! ===== Telling: init, start, copyFrom; the kinds; Stand ===== -/
theorem rTel.obj {h : Hp} {a : Nat} (p : rTel h a) : ∃ fs : List Value, h a = some (.inl (8, fs)) := by
  obtain ⟨⟨x0, x1, x2, x3, x4, x5, x6, -, e⟩, -⟩ := p
  exact ⟨_, e⟩
theorem gN_eq {l : List Nat} {j : Nat} (h : j < l.length) : gN l j = l[j] := by
  simp [gN, List.getD_eq_getElem?_getD, List.getElem?_eq_getElem h]
section TELL3
variable {X : Cx} {h : Hp} {z a b : Nat} {T : Tl} {B : Bk}
theorem c_Tel_init (ha : h a = some (.inl (8, [.int 0, .int 0, .int 0, .int 0, .int 0, .int 0, .int 0, .null, .null, .null]))) (hz : z = a + 1) : Ct X 1 mt_X8_init [.ref a] (h, z) 3 18 (Qv (fun S' => S'.2 = a + 4 ∧ hfr h S'.1 a 4 ∧ rTel S'.1 a)) := by
  subst hz
  refine mk_X8_init (Nat.le_of_ble_eq_true rfl) (L := [.ref a]) rfl ?_
  refine ev_aload_n (pc := 0) dX8_init_0 rfl ?_
  refine ev_objInit (pc := 1) dX8_init_1 tw_118 tw_24 tw_25 (Nat.le_of_ble_eq_true rfl) (Nat.le_of_ble_eq_true rfl) ?_
  refine ev_aload_n (pc := 4) dX8_init_4 rfl ?_
  refine ev_bipush (pc := 5) (v := nI 6) dX8_init_5 kb_6 ?_
  refine ev_newi (pc := 7) (t := 0) (N := 6) dX8_init_7 (Nat.le_of_ble_eq_true rfl) rfl tw_53 rfl (Nat.le_of_ble_eq_true rfl) (Nat.le_of_ble_eq_true rfl) (Nat.le_of_ble_eq_true rfl) ?_
  refine pf_X8_9 (pc := 9) rfl rfl dX8_init_9 (by (try dsimp only); (repeat (first | rw [up_s] | rw [up_n (by omega)])) <;> first | rfl | assumption) ?_
  refine ev_aload_n (pc := 12) dX8_init_12 rfl ?_
  refine ev_bipush (pc := 13) (v := nI 6) dX8_init_13 kb_6 ?_
  refine ev_newi (pc := 15) (t := 0) (N := 6) dX8_init_15 (Nat.le_of_ble_eq_true rfl) rfl tw_53 rfl (Nat.le_of_ble_eq_true rfl) (Nat.le_of_ble_eq_true rfl) (Nat.le_of_ble_eq_true rfl) ?_
  refine pf_X8_15 (pc := 17) rfl rfl dX8_init_17 (by (try dsimp only); (repeat (first | rw [up_s] | rw [up_n (by omega)])) <;> first | rfl | assumption) ?_
  refine ev_aload_n (pc := 20) dX8_init_20 rfl ?_
  refine ev_bipush (pc := 21) (v := nI 6) dX8_init_21 kb_6 ?_
  refine ev_newi (pc := 23) (t := 0) (N := 6) dX8_init_23 (Nat.le_of_ble_eq_true rfl) rfl tw_53 rfl (Nat.le_of_ble_eq_true rfl) (Nat.le_of_ble_eq_true rfl) (Nat.le_of_ble_eq_true rfl) ?_
  refine pf_X8_18 (pc := 25) rfl rfl dX8_init_25 (by (try dsimp only); (repeat (first | rw [up_s] | rw [up_n (by omega)])) <;> first | rfl | assumption) ?_
  refine ev_ret (pc := 28) dX8_init_28 rfl (Nat.le_of_ble_eq_true rfl) (Nat.le_of_ble_eq_true rfl) ?_
  exact ⟨rfl, rfl, (by intro q hq; first | rfl | ((try dsimp only); (repeat (first | rw [up_n (by omega)])))), ⟨0, 0, 0, 0, 0, 0, 0, Or.inl rfl, (by (try dsimp only); (repeat (first | rw [up_s] | rw [up_n (by omega)])) <;> first | rfl | assumption)⟩, ⟨List.replicate 6 0, (by (try dsimp only); (repeat (first | rw [up_s] | rw [up_n (by omega)])) <;> first | rfl | assumption), rfl⟩, ⟨List.replicate 6 0, (by (try dsimp only); (repeat (first | rw [up_s] | rw [up_n (by omega)])) <;> first | rfl | assumption), rfl⟩, ⟨List.replicate 6 0, (by (try dsimp only); (repeat (first | rw [up_s] | rw [up_n (by omega)])) <;> first | rfl | assumption), rfl⟩⟩
theorem c_Tel_copy (p : rTel h a) (q : rTel h b) (d : b + 4 ≤ a ∨ a + 4 ≤ b) : Ct X 1 mt_X8_copyFrom [.ref a, .ref b] (h, z) 0 0 (Qv (fun S' => S'.2 = z ∧ hfr h S'.1 a 4 ∧ rTel S'.1 a ∧ ∀ T : Tl, pTel h b T → pTel S'.1 a T)) := by
  obtain ⟨⟨x0, x1, x2, x3, x4, x5, x6, -, ha⟩, ⟨os, ho, l1⟩, ⟨fs, hf, l2⟩, ⟨ls, hl, l3⟩⟩ := p
  obtain ⟨⟨y0, y1, y2, y3, y4, y5, y6, hy, hb⟩, ⟨os2, ho2, m1⟩, ⟨fs2, hf2, m2⟩, ⟨ls2, hl2, m3⟩⟩ := q
  refine mk_X8_copyFrom (Nat.le_of_ble_eq_true rfl) (L := [.ref a, .ref b]) rfl ?_
  refine ev_aload_n (pc := 0) dX8_copyFrom_0 rfl ?_
  refine ev_aload_n (pc := 1) dX8_copyFrom_1 rfl ?_
  refine gf_X8_21 (pc := 2) rfl dX8_copyFrom_2 (by (try dsimp only); (repeat (first | rw [up_s] | rw [up_n (by omega)])) <;> first | rfl | assumption) ?_
  refine pf_X8_21 (pc := 5) rfl dX8_copyFrom_5 (by (try dsimp only); (repeat (first | rw [up_s] | rw [up_n (by omega)])) <;> first | rfl | assumption) ?_
  refine ev_aload_n (pc := 8) dX8_copyFrom_8 rfl ?_
  refine ev_aload_n (pc := 9) dX8_copyFrom_9 rfl ?_
  refine gf_X8_31 (pc := 10) rfl dX8_copyFrom_10 (by (try dsimp only); (repeat (first | rw [up_s] | rw [up_n (by omega)])) <;> first | rfl | assumption) ?_
  refine pf_X8_31 (pc := 13) rfl dX8_copyFrom_13 (by (try dsimp only); (repeat (first | rw [up_s] | rw [up_n (by omega)])) <;> first | rfl | assumption) ?_
  refine ev_aload_n (pc := 16) dX8_copyFrom_16 rfl ?_
  refine ev_aload_n (pc := 17) dX8_copyFrom_17 rfl ?_
  refine gf_X8_34 (pc := 18) rfl dX8_copyFrom_18 (by (try dsimp only); (repeat (first | rw [up_s] | rw [up_n (by omega)])) <;> first | rfl | assumption) ?_
  refine pf_X8_34 (pc := 21) rfl dX8_copyFrom_21 (by (try dsimp only); (repeat (first | rw [up_s] | rw [up_n (by omega)])) <;> first | rfl | assumption) ?_
  refine ev_aload_n (pc := 24) dX8_copyFrom_24 rfl ?_
  refine ev_aload_n (pc := 25) dX8_copyFrom_25 rfl ?_
  refine gf_X8_37 (pc := 26) rfl dX8_copyFrom_26 (by (try dsimp only); (repeat (first | rw [up_s] | rw [up_n (by omega)])) <;> first | rfl | assumption) ?_
  refine pf_X8_37 (pc := 29) rfl dX8_copyFrom_29 hy (by (try dsimp only); (repeat (first | rw [up_s] | rw [up_n (by omega)])) <;> first | rfl | assumption) ?_
  refine ev_aload_n (pc := 32) dX8_copyFrom_32 rfl ?_
  refine ev_aload_n (pc := 33) dX8_copyFrom_33 rfl ?_
  refine gf_X8_41 (pc := 34) rfl dX8_copyFrom_34 (by (try dsimp only); (repeat (first | rw [up_s] | rw [up_n (by omega)])) <;> first | rfl | assumption) ?_
  refine pf_X8_41 (pc := 37) rfl dX8_copyFrom_37 (by (try dsimp only); (repeat (first | rw [up_s] | rw [up_n (by omega)])) <;> first | rfl | assumption) ?_
  refine ev_aload_n (pc := 40) dX8_copyFrom_40 rfl ?_
  refine ev_aload_n (pc := 41) dX8_copyFrom_41 rfl ?_
  refine gf_X8_44 (pc := 42) rfl dX8_copyFrom_42 (by (try dsimp only); (repeat (first | rw [up_s] | rw [up_n (by omega)])) <;> first | rfl | assumption) ?_
  refine pf_X8_44 (pc := 45) rfl dX8_copyFrom_45 (by (try dsimp only); (repeat (first | rw [up_s] | rw [up_n (by omega)])) <;> first | rfl | assumption) ?_
  refine ev_aload_n (pc := 48) dX8_copyFrom_48 rfl ?_
  refine ev_aload_n (pc := 49) dX8_copyFrom_49 rfl ?_
  refine gf_X8_47 (pc := 50) rfl dX8_copyFrom_50 (by (try dsimp only); (repeat (first | rw [up_s] | rw [up_n (by omega)])) <;> first | rfl | assumption) ?_
  refine pf_X8_47 (pc := 53) rfl dX8_copyFrom_53 (by (try dsimp only); (repeat (first | rw [up_s] | rw [up_n (by omega)])) <;> first | rfl | assumption) ?_
  refine ev_aload_n (pc := 56) dX8_copyFrom_56 rfl ?_
  refine gf_X8_9 (pc := 57) rfl dX8_copyFrom_57 (by (try dsimp only); (repeat (first | rw [up_s] | rw [up_n (by omega)])) <;> first | rfl | assumption) ?_
  refine ev_iconst (pc := 60) (v := nI 0) dX8_copyFrom_60 kc_0 ?_
  refine ev_aload_n (pc := 61) dX8_copyFrom_61 rfl ?_
  refine gf_X8_9 (pc := 62) rfl dX8_copyFrom_62 (by (try dsimp only); (repeat (first | rw [up_s] | rw [up_n (by omega)])) <;> first | rfl | assumption) ?_
  refine ev_iconst (pc := 65) (v := nI 0) dX8_copyFrom_65 kc_0 ?_
  refine ev_bipush (pc := 66) (v := nI 6) dX8_copyFrom_66 kb_6 ?_
  refine ev_copyi (pc := 68) dX8_copyFrom_68 tw_507 (Nat.le_of_ble_eq_true rfl) (Nat.le_of_ble_eq_true rfl) (by (try dsimp only); (repeat (first | rw [up_s] | rw [up_n (by omega)])) <;> first | rfl | assumption) (by (try dsimp only); (repeat (first | rw [up_s] | rw [up_n (by omega)])) <;> first | rfl | assumption) (nI_toInt (by omega)) (nI_toInt (by omega)) (nI_toInt (by omega)) (by simp only [List.length_map]; omega) (by simp only [List.length_map]; omega) ?_
  rw [am_cp_all 0 _ _ ((List.length_map _).trans m1) ((List.length_map _).trans l1)]
  refine ev_aload_n (pc := 71) dX8_copyFrom_71 rfl ?_
  refine gf_X8_15 (pc := 72) rfl dX8_copyFrom_72 (by (try dsimp only); (repeat (first | rw [up_s] | rw [up_n (by omega)])) <;> first | rfl | assumption) ?_
  refine ev_iconst (pc := 75) (v := nI 0) dX8_copyFrom_75 kc_0 ?_
  refine ev_aload_n (pc := 76) dX8_copyFrom_76 rfl ?_
  refine gf_X8_15 (pc := 77) rfl dX8_copyFrom_77 (by (try dsimp only); (repeat (first | rw [up_s] | rw [up_n (by omega)])) <;> first | rfl | assumption) ?_
  refine ev_iconst (pc := 80) (v := nI 0) dX8_copyFrom_80 kc_0 ?_
  refine ev_bipush (pc := 81) (v := nI 6) dX8_copyFrom_81 kb_6 ?_
  refine ev_copyi (pc := 83) dX8_copyFrom_83 tw_507 (Nat.le_of_ble_eq_true rfl) (Nat.le_of_ble_eq_true rfl) (by (try dsimp only); (repeat (first | rw [up_s] | rw [up_n (by omega)])) <;> first | rfl | assumption) (by (try dsimp only); (repeat (first | rw [up_s] | rw [up_n (by omega)])) <;> first | rfl | assumption) (nI_toInt (by omega)) (nI_toInt (by omega)) (nI_toInt (by omega)) (by simp only [List.length_map]; omega) (by simp only [List.length_map]; omega) ?_
  rw [am_cp_all 0 _ _ ((List.length_map _).trans m2) ((List.length_map _).trans l2)]
  refine ev_aload_n (pc := 86) dX8_copyFrom_86 rfl ?_
  refine gf_X8_18 (pc := 87) rfl dX8_copyFrom_87 (by (try dsimp only); (repeat (first | rw [up_s] | rw [up_n (by omega)])) <;> first | rfl | assumption) ?_
  refine ev_iconst (pc := 90) (v := nI 0) dX8_copyFrom_90 kc_0 ?_
  refine ev_aload_n (pc := 91) dX8_copyFrom_91 rfl ?_
  refine gf_X8_18 (pc := 92) rfl dX8_copyFrom_92 (by (try dsimp only); (repeat (first | rw [up_s] | rw [up_n (by omega)])) <;> first | rfl | assumption) ?_
  refine ev_iconst (pc := 95) (v := nI 0) dX8_copyFrom_95 kc_0 ?_
  refine ev_bipush (pc := 96) (v := nI 6) dX8_copyFrom_96 kb_6 ?_
  refine ev_copyi (pc := 98) dX8_copyFrom_98 tw_507 (Nat.le_of_ble_eq_true rfl) (Nat.le_of_ble_eq_true rfl) (by (try dsimp only); (repeat (first | rw [up_s] | rw [up_n (by omega)])) <;> first | rfl | assumption) (by (try dsimp only); (repeat (first | rw [up_s] | rw [up_n (by omega)])) <;> first | rfl | assumption) (nI_toInt (by omega)) (nI_toInt (by omega)) (nI_toInt (by omega)) (by simp only [List.length_map]; omega) (by simp only [List.length_map]; omega) ?_
  rw [am_cp_all 0 _ _ ((List.length_map _).trans m3) ((List.length_map _).trans l3)]
  refine ev_ret (pc := 101) dX8_copyFrom_101 rfl (Nat.le_of_ble_eq_true rfl) (Nat.le_of_ble_eq_true rfl) ?_
  refine ⟨rfl, rfl, (by intro q hq; first | rfl | ((try dsimp only); (repeat (first | rw [up_n (by omega)])))), ⟨⟨y0, y1, y2, y3, y4, y5, y6, hy, (by (try dsimp only); (repeat (first | rw [up_s] | rw [up_n (by omega)])) <;> first | rfl | assumption)⟩, ⟨os2, (by (try dsimp only); (repeat (first | rw [up_s] | rw [up_n (by omega)])) <;> first | rfl | assumption), m1⟩, ⟨fs2, (by (try dsimp only); (repeat (first | rw [up_s] | rw [up_n (by omega)])) <;> first | rfl | assumption), m2⟩, ⟨ls2, (by (try dsimp only); (repeat (first | rw [up_s] | rw [up_n (by omega)])) <;> first | rfl | assumption), m3⟩⟩, ?_⟩
  rintro T ⟨p1, ⟨os', p2, q2⟩, p3, ⟨ls', p4, q4⟩, p5⟩
  rw [p1] at hb; rw [p2] at ho2; rw [p3] at hf2; rw [p4] at hl2
  simp only [Option.some.injEq, Sum.inl.injEq, Sum.inr.injEq, Prod.mk.injEq, List.cons.injEq, Value.int.injEq, true_and, and_true] at hb ho2 hf2 hl2
  obtain ⟨rfl, rfl, rfl, rfl, rfl, rfl, rfl⟩ := hb
  exact ⟨(by (try dsimp only); (repeat (first | rw [up_s] | rw [up_n (by omega)])) <;> first | rfl | assumption), ⟨os', (by rw [ho2]; exact (by (try dsimp only); (repeat (first | rw [up_s] | rw [up_n (by omega)])) <;> first | rfl | assumption)), q2⟩, (by rw [hf2]; exact (by (try dsimp only); (repeat (first | rw [up_s] | rw [up_n (by omega)])) <;> first | rfl | assumption)), ⟨ls', (by rw [hl2]; exact (by (try dsimp only); (repeat (first | rw [up_s] | rw [up_n (by omega)])) <;> first | rfl | assumption)), q4⟩, p5⟩
theorem lfB_len (B : Bk) : (lfB B).length = 6 := by simp [lfB]
theorem c_Tel_start (p : rTel h a) (q : pBook h b B) (h6 : bT B ≤ 6) (k1 : 1 ≤ bK B) (k8 : bK B ≤ 8) (d : b + 4 ≤ a ∨ a + 4 ≤ b) : Ct X 2 mt_X8_start [.ref a, .ref b] (h, z) 0 0 (Qv (fun S' => S'.2 = z ∧ hfr h S'.1 a 4 ∧ pTel S'.1 a (startT B))) := by
  obtain ⟨⟨x0, x1, x2, x3, x4, x5, x6, -, ha⟩, ⟨os, ho, l1⟩, ⟨fs, hf, l2⟩, ⟨ls, hl, l3⟩⟩ := p
  obtain ⟨hb, -⟩ := id q
  refine mk_X8_start (Nat.le_of_ble_eq_true rfl) (L := [.ref a, .ref b, .retAddr 0]) rfl ?_
  have loop : ∀ (n i : Nat), 6 - i = n → i ≤ 6 → ∀ (h1 : Hp) (fs : List Nat), hfr h h1 a 4 → fs.length = 6 → (∀ j : Nat, j < i → gN fs j = gN (lfB B) j) → h1 a = some (.inl (8, [.int (nI 0), .int (nI (hoN B 0)), .int (nI 0), .int (b2i true), .int (nI 0), .int (nI 0), .int (nI 0), .ref (a + 1), .ref (a + 2), .ref (a + 3)])) → h1 (a + 1) = some (.inr (0, .inl (os.map nI))) → h1 (a + 2) = some (.inr (0, .inl (fs.map nI))) → h1 (a + 3) = some (.inr (0, .inl (ls.map nI))) →
      Ev X (mi_X8_start 2 0 0) (Qv (fun S' => S'.2 = z ∧ hfr h S'.1 a 4 ∧ pTel S'.1 a (startT B))) 0 0 (h1, z) 41 [.ref a, .ref b, .int (nI i)] [] := by
    intro n
    induction n with
    | zero =>
      intro i hn hi h1 fs f1 l2 hj ha ho hf hl
      have hi2 : i = 6 := by omega
      subst hi2
      have hfs : fs = lfB B := ext6 l2 (lfB_len B) hj
      subst hfs
      refine ev_iload_n (pc := 41) dX8_start_41 rfl ?_
      refine ev_bipush (pc := 42) (v := nI 6) dX8_start_42 kb_6 ?_
      refine ev_icmp_ge (pc := 44) 64 dX8_start_44 (by decide) (fun c_44 => ?_) (fun c_44 => ?_)
      · (try simp (disch := omega) only [i32_lti, i32_lei, i32_eqi, nI_toInt, i32z] at c_44)
        refine ev_ret (pc := 64) dX8_start_64 rfl (Nat.le_of_ble_eq_true rfl) (Nat.le_of_ble_eq_true rfl) ?_
        exact ⟨rfl, rfl, f1, ha, ⟨os, ho, l1, rfl⟩, hf, ⟨ls, hl, l3, fun t _ hb => by simp [startT, tB] at hb⟩, lfB_len B⟩
      · exfalso; (try simp (disch := omega) only [i32_lti, i32_lei, i32_eqi, nI_toInt, i32z] at c_44); omega
    | succ n ih =>
      intro i hn hi h1 fs f1 l2 hj ha ho hf hl
      have e1 : (if i < bT B then gN (bP B) i else 0) = gN (lfB B) i := by
        unfold lfB
        rw [gN_map (by omega)]
      refine ev_iload_n (pc := 41) dX8_start_41 rfl ?_
      refine ev_bipush (pc := 42) (v := nI 6) dX8_start_42 kb_6 ?_
      refine ev_icmp_ge (pc := 44) 64 dX8_start_44 (by decide) (fun c_44 => ?_) (fun c_44 => ?_)
      · exfalso; (try simp (disch := omega) only [i32_lti, i32_lei, i32_eqi, nI_toInt, i32z] at c_44); omega
      · (try simp (disch := omega) only [i32_lti, i32_lei, i32_eqi, nI_toInt, i32z] at c_44)
        refine ev_aload_n (pc := 47) dX8_start_47 rfl ?_
        refine gf_X8_15 (pc := 48) rfl dX8_start_48 (by (try dsimp only); (repeat (first | rw [up_s] | rw [up_n (by omega)])) <;> first | rfl | assumption) ?_
        refine ev_iload_n (pc := 51) dX8_start_51 rfl ?_
        refine ev_aload_n (pc := 52) dX8_start_52 rfl ?_
        refine ev_iload_n (pc := 53) dX8_start_53 rfl ?_
        refine iv_X8_50 (pc := 54) rfl dX8_start_54 (q.frA f1 d).1 (Nat.le_of_ble_eq_true rfl) (Nat.le_of_ble_eq_true rfl) (Nat.le_of_ble_eq_true rfl) (Nat.le_of_ble_eq_true rfl) (c_partsOf (q.frA f1 d) h6 (k := i) (by omega)) (kp ?_)
        rw [e1]
        refine ev_iast (pc := 57) dX8_start_57 (by (try dsimp only); (repeat (first | rw [up_s] | rw [up_n (by omega)])) <;> first | rfl | assumption) (nI_toInt (by omega)) (by simp only [List.length_map, List.length_set, List.length_replicate, List.length_cons, List.length_nil]; omega) ?_
        (try rw [gs])
        refine ev_iinc (pc := 58) (L' := [_, _, _]) dX8_start_58 rfl (nI_1 _) rfl ?_
        refine ev_goto (pc := 61) 41 dX8_start_61 (by decide) ?_
        refine ih (i + 1) (by omega) (by omega) _ (fs.set i (gN (lfB B) i)) (by intro q hq; (try dsimp only); (repeat (first | rw [up_n (by omega)])) <;> first | rfl | exact f1 q hq) ((List.length_set ..).trans l2) (fun j hj2 => ?_) (by (try dsimp only); (repeat (first | rw [up_s] | rw [up_n (by omega)])) <;> first | rfl | assumption) (by (try dsimp only); (repeat (first | rw [up_s] | rw [up_n (by omega)])) <;> first | rfl | assumption) (by (try dsimp only); (repeat (first | rw [up_s] | rw [up_n (by omega)])) <;> first | rfl | assumption) (by (try dsimp only); (repeat (first | rw [up_s] | rw [up_n (by omega)])) <;> first | rfl | assumption)
        rw [gN_set (by omega)]
        by_cases hq : j = i
        · rw [if_pos hq, hq]
        · rw [if_neg hq]; exact hj j (by omega)
  refine ev_aload_n (pc := 0) dX8_start_0 rfl ?_
  refine ev_iconst (pc := 1) (v := nI 0) dX8_start_1 kc_0 ?_
  refine pf_X8_21 (pc := 2) rfl dX8_start_2 (by (try dsimp only); (repeat (first | rw [up_s] | rw [up_n (by omega)])) <;> first | rfl | assumption) ?_
  refine ev_aload_n (pc := 5) dX8_start_5 rfl ?_
  refine ev_aload_n (pc := 6) dX8_start_6 rfl ?_
  refine ev_iconst (pc := 7) (v := nI 0) dX8_start_7 kc_0 ?_
  refine iv_X8_25 (pc := 8) rfl dX8_start_8 (by (try dsimp only); (repeat (first | rw [up_s] | rw [up_n (by omega)])) <;> first | rfl | assumption) (Nat.le_of_ble_eq_true rfl) (Nat.le_of_ble_eq_true rfl) (Nat.le_of_ble_eq_true rfl) (Nat.le_of_ble_eq_true rfl) (c_hoursOf (q.frA (a := a) (n := 4) (by intro q hq; first | rfl | ((try dsimp only); (repeat (first | rw [up_n (by omega)])))) d) k1 k8 (by omega)) (kp ?_)
  refine pf_X8_31 (pc := 11) rfl dX8_start_11 (by (try dsimp only); (repeat (first | rw [up_s] | rw [up_n (by omega)])) <;> first | rfl | assumption) ?_
  refine ev_aload_n (pc := 14) dX8_start_14 rfl ?_
  refine ev_iconst (pc := 15) (v := nI 0) dX8_start_15 kc_0 ?_
  refine pf_X8_34 (pc := 16) rfl dX8_start_16 (by (try dsimp only); (repeat (first | rw [up_s] | rw [up_n (by omega)])) <;> first | rfl | assumption) ?_
  refine ev_aload_n (pc := 19) dX8_start_19 rfl ?_
  refine ev_iconst (pc := 20) (v := nI 1) dX8_start_20 kc_1 ?_
  refine pf_X8_37 (pc := 21) rfl dX8_start_21 (by first | exact Or.inl rfl | exact Or.inr rfl) (by (try dsimp only); (repeat (first | rw [up_s] | rw [up_n (by omega)])) <;> first | rfl | assumption) ?_
  refine ev_aload_n (pc := 24) dX8_start_24 rfl ?_
  refine ev_iconst (pc := 25) (v := nI 0) dX8_start_25 kc_0 ?_
  refine pf_X8_41 (pc := 26) rfl dX8_start_26 (by (try dsimp only); (repeat (first | rw [up_s] | rw [up_n (by omega)])) <;> first | rfl | assumption) ?_
  refine ev_aload_n (pc := 29) dX8_start_29 rfl ?_
  refine ev_iconst (pc := 30) (v := nI 0) dX8_start_30 kc_0 ?_
  refine pf_X8_44 (pc := 31) rfl dX8_start_31 (by (try dsimp only); (repeat (first | rw [up_s] | rw [up_n (by omega)])) <;> first | rfl | assumption) ?_
  refine ev_aload_n (pc := 34) dX8_start_34 rfl ?_
  refine ev_iconst (pc := 35) (v := nI 0) dX8_start_35 kc_0 ?_
  refine pf_X8_47 (pc := 36) rfl dX8_start_36 (by (try dsimp only); (repeat (first | rw [up_s] | rw [up_n (by omega)])) <;> first | rfl | assumption) ?_
  refine ev_iconst (pc := 39) (v := nI 0) dX8_start_39 kc_0 ?_
  refine ev_istore_n (pc := 40) (L' := [_, _, _]) dX8_start_40 (Nat.le_of_ble_eq_true rfl) rfl ?_
  exact loop _ 0 rfl (Nat.zero_le _) _ fs (by intro q hq; first | rfl | ((try dsimp only); (repeat (first | rw [up_n (by omega)])))) l2 (fun j hj => by omega) (by (try dsimp only); (repeat (first | rw [up_s] | rw [up_n (by omega)])) <;> first | rfl | assumption) (by (try dsimp only); (repeat (first | rw [up_s] | rw [up_n (by omega)])) <;> first | rfl | assumption) (by (try dsimp only); (repeat (first | rw [up_s] | rw [up_n (by omega)])) <;> first | rfl | assumption) (by (try dsimp only); (repeat (first | rw [up_s] | rw [up_n (by omega)])) <;> first | rfl | assumption)
end TELL3
section KIND
variable {X : Cx} {h : Hp} {z a b c t : Nat} {T : Tl} {B : Bk} {v : Int64}

theorem c_X7_marked_r7 (hc : h c = some (.inl (7, [.long v]))) (p : pTel h a T) (w : wT T) (q : pBook h b B) (h6 : bT B ≤ 6) (hw : ∀ i : Nat, i < bT B → gN (bW B) i < 10) (ht : t < bT B) (d1 : c < a ∨ a + 4 ≤ c) (d2 : c < b ∨ b + 4 ≤ c) : Ct X 1 mt_X7_marked [.ref c, .ref b, .ref a, .int (nI t)] (h, z) 0 0 (Qi (fun r S' => r = nI (gN (tF T) t) ∧ S'.2 = z ∧ hfr h S'.1 c 1 ∧ S'.1 c = some (.inl (7, [.long (v + 1)])))) := by
  obtain ⟨ha, -⟩ := id p
  obtain ⟨hb, -⟩ := id q
  refine mk_X7_marked (Nat.le_of_ble_eq_true rfl) (L := [.ref c, .ref b, .ref a, .int (nI t)]) rfl ?_
  refine ev_aload_n (pc := 0) dX7_marked_0 rfl ?_
  refine ev_dup (pc := 1) dX7_marked_1 rfl ?_
  refine gf_X7_7_r7 (pc := 2) rfl dX7_marked_2 (by (try dsimp only); (repeat (first | rw [up_s] | rw [up_n (by omega)])) <;> first | rfl | assumption) ?_
  refine ev_lconst (pc := 5) (v := 1) dX7_marked_5 kl_1 ?_
  refine ev_ladd (pc := 6) dX7_marked_6 ?_
  refine pf_X7_7_r7 (pc := 7) rfl dX7_marked_7 (by (try dsimp only); (repeat (first | rw [up_s] | rw [up_n (by omega)])) <;> first | rfl | assumption) ?_
  refine ev_aload_n (pc := 10) dX7_marked_10 rfl ?_
  refine ev_iload_n (pc := 11) dX7_marked_11 rfl ?_
  refine iv_X7_13 (pc := 12) rfl dX7_marked_12 (by (try dsimp only); (repeat (first | rw [up_s] | rw [up_n (by omega)])) <;> first | rfl | assumption) (Nat.le_of_ble_eq_true rfl) (Nat.le_of_ble_eq_true rfl) (Nat.le_of_ble_eq_true rfl) (Nat.le_of_ble_eq_true rfl) (c_leftOf (p.fr (fun q h1 h2 => up_n (by omega))) (by omega)) (kp ?_)
  refine ev_iret (pc := 15) dX7_marked_15 rfl rfl (Nat.le_of_ble_eq_true rfl) (Nat.le_of_ble_eq_true rfl) ?_
  exact ⟨_, rfl, rfl, rfl, (by intro q hq; first | rfl | ((try dsimp only); (repeat (first | rw [up_n (by omega)])))), (by (try dsimp only); (repeat (first | rw [up_s] | rw [up_n (by omega)])) <;> first | rfl | assumption)⟩
theorem c_X7_marked_r1 (hc : h c = some (.inl (1, [.long v]))) (p : pTel h a T) (w : wT T) (q : pBook h b B) (h6 : bT B ≤ 6) (hw : ∀ i : Nat, i < bT B → gN (bW B) i < 10) (ht : t < bT B) (d1 : c < a ∨ a + 4 ≤ c) (d2 : c < b ∨ b + 4 ≤ c) : Ct X 1 mt_X7_marked [.ref c, .ref b, .ref a, .int (nI t)] (h, z) 0 0 (Qi (fun r S' => r = nI (gN (tF T) t) ∧ S'.2 = z ∧ hfr h S'.1 c 1 ∧ S'.1 c = some (.inl (1, [.long (v + 1)])))) := by
  obtain ⟨ha, -⟩ := id p
  obtain ⟨hb, -⟩ := id q
  refine mk_X7_marked (Nat.le_of_ble_eq_true rfl) (L := [.ref c, .ref b, .ref a, .int (nI t)]) rfl ?_
  refine ev_aload_n (pc := 0) dX7_marked_0 rfl ?_
  refine ev_dup (pc := 1) dX7_marked_1 rfl ?_
  refine gf_X7_7_r1 (pc := 2) rfl dX7_marked_2 (by (try dsimp only); (repeat (first | rw [up_s] | rw [up_n (by omega)])) <;> first | rfl | assumption) ?_
  refine ev_lconst (pc := 5) (v := 1) dX7_marked_5 kl_1 ?_
  refine ev_ladd (pc := 6) dX7_marked_6 ?_
  refine pf_X7_7_r1 (pc := 7) rfl dX7_marked_7 (by (try dsimp only); (repeat (first | rw [up_s] | rw [up_n (by omega)])) <;> first | rfl | assumption) ?_
  refine ev_aload_n (pc := 10) dX7_marked_10 rfl ?_
  refine ev_iload_n (pc := 11) dX7_marked_11 rfl ?_
  refine iv_X7_13 (pc := 12) rfl dX7_marked_12 (by (try dsimp only); (repeat (first | rw [up_s] | rw [up_n (by omega)])) <;> first | rfl | assumption) (Nat.le_of_ble_eq_true rfl) (Nat.le_of_ble_eq_true rfl) (Nat.le_of_ble_eq_true rfl) (Nat.le_of_ble_eq_true rfl) (c_leftOf (p.fr (fun q h1 h2 => up_n (by omega))) (by omega)) (kp ?_)
  refine ev_iret (pc := 15) dX7_marked_15 rfl rfl (Nat.le_of_ble_eq_true rfl) (Nat.le_of_ble_eq_true rfl) ?_
  exact ⟨_, rfl, rfl, rfl, (by intro q hq; first | rfl | ((try dsimp only); (repeat (first | rw [up_n (by omega)])))), (by (try dsimp only); (repeat (first | rw [up_s] | rw [up_n (by omega)])) <;> first | rfl | assumption)⟩
theorem c_X7_marked_r3 (hc : h c = some (.inl (3, [.long v]))) (p : pTel h a T) (w : wT T) (q : pBook h b B) (h6 : bT B ≤ 6) (hw : ∀ i : Nat, i < bT B → gN (bW B) i < 10) (ht : t < bT B) (d1 : c < a ∨ a + 4 ≤ c) (d2 : c < b ∨ b + 4 ≤ c) : Ct X 1 mt_X7_marked [.ref c, .ref b, .ref a, .int (nI t)] (h, z) 0 0 (Qi (fun r S' => r = nI (gN (tF T) t) ∧ S'.2 = z ∧ hfr h S'.1 c 1 ∧ S'.1 c = some (.inl (3, [.long (v + 1)])))) := by
  obtain ⟨ha, -⟩ := id p
  obtain ⟨hb, -⟩ := id q
  refine mk_X7_marked (Nat.le_of_ble_eq_true rfl) (L := [.ref c, .ref b, .ref a, .int (nI t)]) rfl ?_
  refine ev_aload_n (pc := 0) dX7_marked_0 rfl ?_
  refine ev_dup (pc := 1) dX7_marked_1 rfl ?_
  refine gf_X7_7_r3 (pc := 2) rfl dX7_marked_2 (by (try dsimp only); (repeat (first | rw [up_s] | rw [up_n (by omega)])) <;> first | rfl | assumption) ?_
  refine ev_lconst (pc := 5) (v := 1) dX7_marked_5 kl_1 ?_
  refine ev_ladd (pc := 6) dX7_marked_6 ?_
  refine pf_X7_7_r3 (pc := 7) rfl dX7_marked_7 (by (try dsimp only); (repeat (first | rw [up_s] | rw [up_n (by omega)])) <;> first | rfl | assumption) ?_
  refine ev_aload_n (pc := 10) dX7_marked_10 rfl ?_
  refine ev_iload_n (pc := 11) dX7_marked_11 rfl ?_
  refine iv_X7_13 (pc := 12) rfl dX7_marked_12 (by (try dsimp only); (repeat (first | rw [up_s] | rw [up_n (by omega)])) <;> first | rfl | assumption) (Nat.le_of_ble_eq_true rfl) (Nat.le_of_ble_eq_true rfl) (Nat.le_of_ble_eq_true rfl) (Nat.le_of_ble_eq_true rfl) (c_leftOf (p.fr (fun q h1 h2 => up_n (by omega))) (by omega)) (kp ?_)
  refine ev_iret (pc := 15) dX7_marked_15 rfl rfl (Nat.le_of_ble_eq_true rfl) (Nat.le_of_ble_eq_true rfl) ?_
  exact ⟨_, rfl, rfl, rfl, (by intro q hq; first | rfl | ((try dsimp only); (repeat (first | rw [up_n (by omega)])))), (by (try dsimp only); (repeat (first | rw [up_s] | rw [up_n (by omega)])) <;> first | rfl | assumption)⟩
theorem c_X7_marked_r4 (hc : h c = some (.inl (4, [.long v]))) (p : pTel h a T) (w : wT T) (q : pBook h b B) (h6 : bT B ≤ 6) (hw : ∀ i : Nat, i < bT B → gN (bW B) i < 10) (ht : t < bT B) (d1 : c < a ∨ a + 4 ≤ c) (d2 : c < b ∨ b + 4 ≤ c) : Ct X 1 mt_X7_marked [.ref c, .ref b, .ref a, .int (nI t)] (h, z) 0 0 (Qi (fun r S' => r = nI (gN (tF T) t) ∧ S'.2 = z ∧ hfr h S'.1 c 1 ∧ S'.1 c = some (.inl (4, [.long (v + 1)])))) := by
  obtain ⟨ha, -⟩ := id p
  obtain ⟨hb, -⟩ := id q
  refine mk_X7_marked (Nat.le_of_ble_eq_true rfl) (L := [.ref c, .ref b, .ref a, .int (nI t)]) rfl ?_
  refine ev_aload_n (pc := 0) dX7_marked_0 rfl ?_
  refine ev_dup (pc := 1) dX7_marked_1 rfl ?_
  refine gf_X7_7_r4 (pc := 2) rfl dX7_marked_2 (by (try dsimp only); (repeat (first | rw [up_s] | rw [up_n (by omega)])) <;> first | rfl | assumption) ?_
  refine ev_lconst (pc := 5) (v := 1) dX7_marked_5 kl_1 ?_
  refine ev_ladd (pc := 6) dX7_marked_6 ?_
  refine pf_X7_7_r4 (pc := 7) rfl dX7_marked_7 (by (try dsimp only); (repeat (first | rw [up_s] | rw [up_n (by omega)])) <;> first | rfl | assumption) ?_
  refine ev_aload_n (pc := 10) dX7_marked_10 rfl ?_
  refine ev_iload_n (pc := 11) dX7_marked_11 rfl ?_
  refine iv_X7_13 (pc := 12) rfl dX7_marked_12 (by (try dsimp only); (repeat (first | rw [up_s] | rw [up_n (by omega)])) <;> first | rfl | assumption) (Nat.le_of_ble_eq_true rfl) (Nat.le_of_ble_eq_true rfl) (Nat.le_of_ble_eq_true rfl) (Nat.le_of_ble_eq_true rfl) (c_leftOf (p.fr (fun q h1 h2 => up_n (by omega))) (by omega)) (kp ?_)
  refine ev_iret (pc := 15) dX7_marked_15 rfl rfl (Nat.le_of_ble_eq_true rfl) (Nat.le_of_ble_eq_true rfl) ?_
  exact ⟨_, rfl, rfl, rfl, (by intro q hq; first | rfl | ((try dsimp only); (repeat (first | rw [up_n (by omega)])))), (by (try dsimp only); (repeat (first | rw [up_s] | rw [up_n (by omega)])) <;> first | rfl | assumption)⟩
theorem c_X7_marked_r10 (hc : h c = some (.inl (10, [.long v]))) (p : pTel h a T) (w : wT T) (q : pBook h b B) (h6 : bT B ≤ 6) (hw : ∀ i : Nat, i < bT B → gN (bW B) i < 10) (ht : t < bT B) (d1 : c < a ∨ a + 4 ≤ c) (d2 : c < b ∨ b + 4 ≤ c) : Ct X 1 mt_X7_marked [.ref c, .ref b, .ref a, .int (nI t)] (h, z) 0 0 (Qi (fun r S' => r = nI (gN (tF T) t) ∧ S'.2 = z ∧ hfr h S'.1 c 1 ∧ S'.1 c = some (.inl (10, [.long (v + 1)])))) := by
  obtain ⟨ha, -⟩ := id p
  obtain ⟨hb, -⟩ := id q
  refine mk_X7_marked (Nat.le_of_ble_eq_true rfl) (L := [.ref c, .ref b, .ref a, .int (nI t)]) rfl ?_
  refine ev_aload_n (pc := 0) dX7_marked_0 rfl ?_
  refine ev_dup (pc := 1) dX7_marked_1 rfl ?_
  refine gf_X7_7_r10 (pc := 2) rfl dX7_marked_2 (by (try dsimp only); (repeat (first | rw [up_s] | rw [up_n (by omega)])) <;> first | rfl | assumption) ?_
  refine ev_lconst (pc := 5) (v := 1) dX7_marked_5 kl_1 ?_
  refine ev_ladd (pc := 6) dX7_marked_6 ?_
  refine pf_X7_7_r10 (pc := 7) rfl dX7_marked_7 (by (try dsimp only); (repeat (first | rw [up_s] | rw [up_n (by omega)])) <;> first | rfl | assumption) ?_
  refine ev_aload_n (pc := 10) dX7_marked_10 rfl ?_
  refine ev_iload_n (pc := 11) dX7_marked_11 rfl ?_
  refine iv_X7_13 (pc := 12) rfl dX7_marked_12 (by (try dsimp only); (repeat (first | rw [up_s] | rw [up_n (by omega)])) <;> first | rfl | assumption) (Nat.le_of_ble_eq_true rfl) (Nat.le_of_ble_eq_true rfl) (Nat.le_of_ble_eq_true rfl) (Nat.le_of_ble_eq_true rfl) (c_leftOf (p.fr (fun q h1 h2 => up_n (by omega))) (by omega)) (kp ?_)
  refine ev_iret (pc := 15) dX7_marked_15 rfl rfl (Nat.le_of_ble_eq_true rfl) (Nat.le_of_ble_eq_true rfl) ?_
  exact ⟨_, rfl, rfl, rfl, (by intro q hq; first | rfl | ((try dsimp only); (repeat (first | rw [up_n (by omega)])))), (by (try dsimp only); (repeat (first | rw [up_s] | rw [up_n (by omega)])) <;> first | rfl | assumption)⟩
theorem c_X7_marked_r2 (hc : h c = some (.inl (2, [.long v]))) (p : pTel h a T) (w : wT T) (q : pBook h b B) (h6 : bT B ≤ 6) (hw : ∀ i : Nat, i < bT B → gN (bW B) i < 10) (ht : t < bT B) (d1 : c < a ∨ a + 4 ≤ c) (d2 : c < b ∨ b + 4 ≤ c) : Ct X 1 mt_X7_marked [.ref c, .ref b, .ref a, .int (nI t)] (h, z) 0 0 (Qi (fun r S' => r = nI (gN (tF T) t) ∧ S'.2 = z ∧ hfr h S'.1 c 1 ∧ S'.1 c = some (.inl (2, [.long (v + 1)])))) := by
  obtain ⟨ha, -⟩ := id p
  obtain ⟨hb, -⟩ := id q
  refine mk_X7_marked (Nat.le_of_ble_eq_true rfl) (L := [.ref c, .ref b, .ref a, .int (nI t)]) rfl ?_
  refine ev_aload_n (pc := 0) dX7_marked_0 rfl ?_
  refine ev_dup (pc := 1) dX7_marked_1 rfl ?_
  refine gf_X7_7_r2 (pc := 2) rfl dX7_marked_2 (by (try dsimp only); (repeat (first | rw [up_s] | rw [up_n (by omega)])) <;> first | rfl | assumption) ?_
  refine ev_lconst (pc := 5) (v := 1) dX7_marked_5 kl_1 ?_
  refine ev_ladd (pc := 6) dX7_marked_6 ?_
  refine pf_X7_7_r2 (pc := 7) rfl dX7_marked_7 (by (try dsimp only); (repeat (first | rw [up_s] | rw [up_n (by omega)])) <;> first | rfl | assumption) ?_
  refine ev_aload_n (pc := 10) dX7_marked_10 rfl ?_
  refine ev_iload_n (pc := 11) dX7_marked_11 rfl ?_
  refine iv_X7_13 (pc := 12) rfl dX7_marked_12 (by (try dsimp only); (repeat (first | rw [up_s] | rw [up_n (by omega)])) <;> first | rfl | assumption) (Nat.le_of_ble_eq_true rfl) (Nat.le_of_ble_eq_true rfl) (Nat.le_of_ble_eq_true rfl) (Nat.le_of_ble_eq_true rfl) (c_leftOf (p.fr (fun q h1 h2 => up_n (by omega))) (by omega)) (kp ?_)
  refine ev_iret (pc := 15) dX7_marked_15 rfl rfl (Nat.le_of_ble_eq_true rfl) (Nat.le_of_ble_eq_true rfl) ?_
  exact ⟨_, rfl, rfl, rfl, (by intro q hq; first | rfl | ((try dsimp only); (repeat (first | rw [up_n (by omega)])))), (by (try dsimp only); (repeat (first | rw [up_s] | rw [up_n (by omega)])) <;> first | rfl | assumption)⟩
theorem c_X1_marked_r1 (hc : h c = some (.inl (1, [.long v]))) (p : pTel h a T) (w : wT T) (q : pBook h b B) (h6 : bT B ≤ 6) (hw : ∀ i : Nat, i < bT B → gN (bW B) i < 10) (ht : t < bT B) (d1 : c < a ∨ a + 4 ≤ c) (d2 : c < b ∨ b + 4 ≤ c) : Ct X 2 mt_X1_marked [.ref c, .ref b, .ref a, .int (nI t)] (h, z) 0 0 (Qi (fun r S' => r = nI (gN (tF T) t) + nI (gN (bP B) t) ∧ S'.2 = z ∧ hfr h S'.1 c 1 ∧ S'.1 c = some (.inl (1, [.long (v + (10 + 1))])))) := by
  obtain ⟨ha, -⟩ := id p
  obtain ⟨hb, -⟩ := id q
  refine mk_X1_marked (Nat.le_of_ble_eq_true rfl) (L := [.ref c, .ref b, .ref a, .int (nI t)]) rfl ?_
  refine ev_aload_n (pc := 0) dX1_marked_0 rfl ?_
  refine ev_dup (pc := 1) dX1_marked_1 rfl ?_
  refine gf_X1_7_r1 (pc := 2) rfl dX1_marked_2 (by (try dsimp only); (repeat (first | rw [up_s] | rw [up_n (by omega)])) <;> first | rfl | assumption) ?_
  refine ev_ldc2_w (pc := 5) dX1_marked_5 tw_777 ?_
  refine ev_ladd (pc := 8) dX1_marked_8 ?_
  refine pf_X1_7_r1 (pc := 9) rfl dX1_marked_9 (by (try dsimp only); (repeat (first | rw [up_s] | rw [up_n (by omega)])) <;> first | rfl | assumption) ?_
  refine ev_aload_n (pc := 12) dX1_marked_12 rfl ?_
  refine ev_aload_n (pc := 13) dX1_marked_13 rfl ?_
  refine ev_aload_n (pc := 14) dX1_marked_14 rfl ?_
  refine ev_iload_n (pc := 15) dX1_marked_15 rfl ?_
  refine iv_X1_15 (pc := 16) rfl dX1_marked_16 rfl (by (try dsimp only); (repeat (first | rw [up_s] | rw [up_n (by omega)])) <;> first | rfl | assumption) (Nat.le_of_ble_eq_true rfl) (Nat.le_of_ble_eq_true rfl) (Nat.le_of_ble_eq_true rfl) (Nat.le_of_ble_eq_true rfl) (c_X7_marked_r1 (v := v + 10) (by (try dsimp only); (repeat (first | rw [up_s] | rw [up_n (by omega)])) <;> first | rfl | assumption) (p.fr (fun q h1 h2 => up_n (by omega))) w (q.fr (fun q h1 h2 => up_n (by omega))) h6 hw ht d1 d2) (ki (fun r S' hS => ?_))
  obtain ⟨h', z'⟩ := S'
  obtain ⟨rfl, rfl, f2, hc2⟩ := hS
  have f1 : hfr h h' c 1 := fun q hq => (f2 q hq).trans (up_n (by omega))
  dsimp only at hc2
  rw [Int64.add_assoc] at hc2
  refine ev_aload_n (pc := 19) dX1_marked_19 rfl ?_
  refine ev_iload_n (pc := 20) dX1_marked_20 rfl ?_
  refine iv_X1_19 (pc := 21) rfl dX1_marked_21 (q.frA f1 (by omega)).1 (Nat.le_of_ble_eq_true rfl) (Nat.le_of_ble_eq_true rfl) (Nat.le_of_ble_eq_true rfl) (Nat.le_of_ble_eq_true rfl) (c_partsOf (q.frA f1 (by omega)) h6 (by omega)) (kp ?_)
  rw [if_pos ht]
  refine ev_iadd (pc := 24) dX1_marked_24 ?_
  refine ev_iret (pc := 25) dX1_marked_25 rfl rfl (Nat.le_of_ble_eq_true rfl) (Nat.le_of_ble_eq_true rfl) ?_
  exact ⟨_, rfl, rfl, rfl, f1, hc2⟩
theorem c_X1_marked_r10 (hc : h c = some (.inl (10, [.long v]))) (p : pTel h a T) (w : wT T) (q : pBook h b B) (h6 : bT B ≤ 6) (hw : ∀ i : Nat, i < bT B → gN (bW B) i < 10) (ht : t < bT B) (d1 : c < a ∨ a + 4 ≤ c) (d2 : c < b ∨ b + 4 ≤ c) : Ct X 2 mt_X1_marked [.ref c, .ref b, .ref a, .int (nI t)] (h, z) 0 0 (Qi (fun r S' => r = nI (gN (tF T) t) + nI (gN (bP B) t) ∧ S'.2 = z ∧ hfr h S'.1 c 1 ∧ S'.1 c = some (.inl (10, [.long (v + (10 + 1))])))) := by
  obtain ⟨ha, -⟩ := id p
  obtain ⟨hb, -⟩ := id q
  refine mk_X1_marked (Nat.le_of_ble_eq_true rfl) (L := [.ref c, .ref b, .ref a, .int (nI t)]) rfl ?_
  refine ev_aload_n (pc := 0) dX1_marked_0 rfl ?_
  refine ev_dup (pc := 1) dX1_marked_1 rfl ?_
  refine gf_X1_7_r10 (pc := 2) rfl dX1_marked_2 (by (try dsimp only); (repeat (first | rw [up_s] | rw [up_n (by omega)])) <;> first | rfl | assumption) ?_
  refine ev_ldc2_w (pc := 5) dX1_marked_5 tw_777 ?_
  refine ev_ladd (pc := 8) dX1_marked_8 ?_
  refine pf_X1_7_r10 (pc := 9) rfl dX1_marked_9 (by (try dsimp only); (repeat (first | rw [up_s] | rw [up_n (by omega)])) <;> first | rfl | assumption) ?_
  refine ev_aload_n (pc := 12) dX1_marked_12 rfl ?_
  refine ev_aload_n (pc := 13) dX1_marked_13 rfl ?_
  refine ev_aload_n (pc := 14) dX1_marked_14 rfl ?_
  refine ev_iload_n (pc := 15) dX1_marked_15 rfl ?_
  refine iv_X1_15 (pc := 16) rfl dX1_marked_16 rfl (by (try dsimp only); (repeat (first | rw [up_s] | rw [up_n (by omega)])) <;> first | rfl | assumption) (Nat.le_of_ble_eq_true rfl) (Nat.le_of_ble_eq_true rfl) (Nat.le_of_ble_eq_true rfl) (Nat.le_of_ble_eq_true rfl) (c_X7_marked_r10 (v := v + 10) (by (try dsimp only); (repeat (first | rw [up_s] | rw [up_n (by omega)])) <;> first | rfl | assumption) (p.fr (fun q h1 h2 => up_n (by omega))) w (q.fr (fun q h1 h2 => up_n (by omega))) h6 hw ht d1 d2) (ki (fun r S' hS => ?_))
  obtain ⟨h', z'⟩ := S'
  obtain ⟨rfl, rfl, f2, hc2⟩ := hS
  have f1 : hfr h h' c 1 := fun q hq => (f2 q hq).trans (up_n (by omega))
  dsimp only at hc2
  rw [Int64.add_assoc] at hc2
  refine ev_aload_n (pc := 19) dX1_marked_19 rfl ?_
  refine ev_iload_n (pc := 20) dX1_marked_20 rfl ?_
  refine iv_X1_19 (pc := 21) rfl dX1_marked_21 (q.frA f1 (by omega)).1 (Nat.le_of_ble_eq_true rfl) (Nat.le_of_ble_eq_true rfl) (Nat.le_of_ble_eq_true rfl) (Nat.le_of_ble_eq_true rfl) (c_partsOf (q.frA f1 (by omega)) h6 (by omega)) (kp ?_)
  rw [if_pos ht]
  refine ev_iadd (pc := 24) dX1_marked_24 ?_
  refine ev_iret (pc := 25) dX1_marked_25 rfl rfl (Nat.le_of_ble_eq_true rfl) (Nat.le_of_ble_eq_true rfl) ?_
  exact ⟨_, rfl, rfl, rfl, f1, hc2⟩
theorem c_X4_marked_r4 (hc : h c = some (.inl (4, [.long v]))) (p : pTel h a T) (w : wT T) (q : pBook h b B) (h6 : bT B ≤ 6) (hw : ∀ i : Nat, i < bT B → gN (bW B) i < 10) (ht : t < bT B) (d1 : c < a ∨ a + 4 ≤ c) (d2 : c < b ∨ b + 4 ≤ c) : Ct X 3 mt_X4_marked [.ref c, .ref b, .ref a, .int (nI t)] (h, z) 0 0 (Qi (fun r S' => r = nI (gN (tF T) t) - nI (tW B t (bT B)) ∧ S'.2 = z ∧ hfr h S'.1 c 1 ∧ S'.1 c = some (.inl (4, [.long (v + (100 + 1))])))) := by
  obtain ⟨ha, -⟩ := id p
  obtain ⟨hb, -⟩ := id q
  refine mk_X4_marked (Nat.le_of_ble_eq_true rfl) (L := [.ref c, .ref b, .ref a, .int (nI t)]) rfl ?_
  refine ev_aload_n (pc := 0) dX4_marked_0 rfl ?_
  refine ev_dup (pc := 1) dX4_marked_1 rfl ?_
  refine gf_X4_7_r4 (pc := 2) rfl dX4_marked_2 (by (try dsimp only); (repeat (first | rw [up_s] | rw [up_n (by omega)])) <;> first | rfl | assumption) ?_
  refine ev_ldc2_w (pc := 5) dX4_marked_5 tw_787 ?_
  refine ev_ladd (pc := 8) dX4_marked_8 ?_
  refine pf_X4_7_r4 (pc := 9) rfl dX4_marked_9 (by (try dsimp only); (repeat (first | rw [up_s] | rw [up_n (by omega)])) <;> first | rfl | assumption) ?_
  refine ev_aload_n (pc := 12) dX4_marked_12 rfl ?_
  refine ev_aload_n (pc := 13) dX4_marked_13 rfl ?_
  refine ev_aload_n (pc := 14) dX4_marked_14 rfl ?_
  refine ev_iload_n (pc := 15) dX4_marked_15 rfl ?_
  refine iv_X4_15 (pc := 16) rfl dX4_marked_16 rfl (by (try dsimp only); (repeat (first | rw [up_s] | rw [up_n (by omega)])) <;> first | rfl | assumption) (Nat.le_of_ble_eq_true rfl) (Nat.le_of_ble_eq_true rfl) (Nat.le_of_ble_eq_true rfl) (Nat.le_of_ble_eq_true rfl) (c_X7_marked_r4 (v := v + 100) (by (try dsimp only); (repeat (first | rw [up_s] | rw [up_n (by omega)])) <;> first | rfl | assumption) (p.fr (fun q h1 h2 => up_n (by omega))) w (q.fr (fun q h1 h2 => up_n (by omega))) h6 hw ht d1 d2) (ki (fun r S' hS => ?_))
  obtain ⟨h', z'⟩ := S'
  obtain ⟨rfl, rfl, f2, hc2⟩ := hS
  have f1 : hfr h h' c 1 := fun q hq => (f2 q hq).trans (up_n (by omega))
  dsimp only at hc2
  rw [Int64.add_assoc] at hc2
  refine ev_aload_n (pc := 19) dX4_marked_19 rfl ?_
  refine ev_iload_n (pc := 20) dX4_marked_20 rfl ?_
  refine iv_X4_19 (pc := 21) rfl dX4_marked_21 (q.frA f1 (by omega)).1 (Nat.le_of_ble_eq_true rfl) (Nat.le_of_ble_eq_true rfl) (Nat.le_of_ble_eq_true rfl) (Nat.le_of_ble_eq_true rfl) (c_toldWithin (q.frA f1 (by omega)) h6 hw (by omega)) (kp ?_)
  refine ev_isub (pc := 24) dX4_marked_24 ?_
  refine ev_iret (pc := 25) dX4_marked_25 rfl rfl (Nat.le_of_ble_eq_true rfl) (Nat.le_of_ble_eq_true rfl) ?_
  exact ⟨_, rfl, rfl, rfl, f1, hc2⟩
theorem c_X4_marked_r2 (hc : h c = some (.inl (2, [.long v]))) (p : pTel h a T) (w : wT T) (q : pBook h b B) (h6 : bT B ≤ 6) (hw : ∀ i : Nat, i < bT B → gN (bW B) i < 10) (ht : t < bT B) (d1 : c < a ∨ a + 4 ≤ c) (d2 : c < b ∨ b + 4 ≤ c) : Ct X 3 mt_X4_marked [.ref c, .ref b, .ref a, .int (nI t)] (h, z) 0 0 (Qi (fun r S' => r = nI (gN (tF T) t) - nI (tW B t (bT B)) ∧ S'.2 = z ∧ hfr h S'.1 c 1 ∧ S'.1 c = some (.inl (2, [.long (v + (100 + 1))])))) := by
  obtain ⟨ha, -⟩ := id p
  obtain ⟨hb, -⟩ := id q
  refine mk_X4_marked (Nat.le_of_ble_eq_true rfl) (L := [.ref c, .ref b, .ref a, .int (nI t)]) rfl ?_
  refine ev_aload_n (pc := 0) dX4_marked_0 rfl ?_
  refine ev_dup (pc := 1) dX4_marked_1 rfl ?_
  refine gf_X4_7_r2 (pc := 2) rfl dX4_marked_2 (by (try dsimp only); (repeat (first | rw [up_s] | rw [up_n (by omega)])) <;> first | rfl | assumption) ?_
  refine ev_ldc2_w (pc := 5) dX4_marked_5 tw_787 ?_
  refine ev_ladd (pc := 8) dX4_marked_8 ?_
  refine pf_X4_7_r2 (pc := 9) rfl dX4_marked_9 (by (try dsimp only); (repeat (first | rw [up_s] | rw [up_n (by omega)])) <;> first | rfl | assumption) ?_
  refine ev_aload_n (pc := 12) dX4_marked_12 rfl ?_
  refine ev_aload_n (pc := 13) dX4_marked_13 rfl ?_
  refine ev_aload_n (pc := 14) dX4_marked_14 rfl ?_
  refine ev_iload_n (pc := 15) dX4_marked_15 rfl ?_
  refine iv_X4_15 (pc := 16) rfl dX4_marked_16 rfl (by (try dsimp only); (repeat (first | rw [up_s] | rw [up_n (by omega)])) <;> first | rfl | assumption) (Nat.le_of_ble_eq_true rfl) (Nat.le_of_ble_eq_true rfl) (Nat.le_of_ble_eq_true rfl) (Nat.le_of_ble_eq_true rfl) (c_X7_marked_r2 (v := v + 100) (by (try dsimp only); (repeat (first | rw [up_s] | rw [up_n (by omega)])) <;> first | rfl | assumption) (p.fr (fun q h1 h2 => up_n (by omega))) w (q.fr (fun q h1 h2 => up_n (by omega))) h6 hw ht d1 d2) (ki (fun r S' hS => ?_))
  obtain ⟨h', z'⟩ := S'
  obtain ⟨rfl, rfl, f2, hc2⟩ := hS
  have f1 : hfr h h' c 1 := fun q hq => (f2 q hq).trans (up_n (by omega))
  dsimp only at hc2
  rw [Int64.add_assoc] at hc2
  refine ev_aload_n (pc := 19) dX4_marked_19 rfl ?_
  refine ev_iload_n (pc := 20) dX4_marked_20 rfl ?_
  refine iv_X4_19 (pc := 21) rfl dX4_marked_21 (q.frA f1 (by omega)).1 (Nat.le_of_ble_eq_true rfl) (Nat.le_of_ble_eq_true rfl) (Nat.le_of_ble_eq_true rfl) (Nat.le_of_ble_eq_true rfl) (c_toldWithin (q.frA f1 (by omega)) h6 hw (by omega)) (kp ?_)
  refine ev_isub (pc := 24) dX4_marked_24 ?_
  refine ev_iret (pc := 25) dX4_marked_25 rfl rfl (Nat.le_of_ble_eq_true rfl) (Nat.le_of_ble_eq_true rfl) ?_
  exact ⟨_, rfl, rfl, rfl, f1, hc2⟩
theorem c_X3_marked_r3 (hc : h c = some (.inl (3, [.long v]))) (p : pTel h a T) (w : wT T) (q : pBook h b B) (h6 : bT B ≤ 6) (hw : ∀ i : Nat, i < bT B → gN (bW B) i < 10) (ht : t < bT B) (d1 : c < a ∨ a + 4 ≤ c) (d2 : c < b ∨ b + 4 ≤ c) : Ct X 2 mt_X3_marked [.ref c, .ref b, .ref a, .int (nI t)] (h, z) 0 0 (Qi (fun r S' => r = nI (gN (tF T) t) + nI (tN T) ∧ S'.2 = z ∧ hfr h S'.1 c 1 ∧ S'.1 c = some (.inl (3, [.long (v + (100000 + 1))])))) := by
  obtain ⟨ha, -⟩ := id p
  obtain ⟨hb, -⟩ := id q
  refine mk_X3_marked (Nat.le_of_ble_eq_true rfl) (L := [.ref c, .ref b, .ref a, .int (nI t)]) rfl ?_
  refine ev_aload_n (pc := 0) dX3_marked_0 rfl ?_
  refine ev_dup (pc := 1) dX3_marked_1 rfl ?_
  refine gf_X3_7_r3 (pc := 2) rfl dX3_marked_2 (by (try dsimp only); (repeat (first | rw [up_s] | rw [up_n (by omega)])) <;> first | rfl | assumption) ?_
  refine ev_ldc2_w (pc := 5) dX3_marked_5 tw_797 ?_
  refine ev_ladd (pc := 8) dX3_marked_8 ?_
  refine pf_X3_7_r3 (pc := 9) rfl dX3_marked_9 (by (try dsimp only); (repeat (first | rw [up_s] | rw [up_n (by omega)])) <;> first | rfl | assumption) ?_
  refine ev_aload_n (pc := 12) dX3_marked_12 rfl ?_
  refine ev_aload_n (pc := 13) dX3_marked_13 rfl ?_
  refine ev_aload_n (pc := 14) dX3_marked_14 rfl ?_
  refine ev_iload_n (pc := 15) dX3_marked_15 rfl ?_
  refine iv_X3_15 (pc := 16) rfl dX3_marked_16 rfl (by (try dsimp only); (repeat (first | rw [up_s] | rw [up_n (by omega)])) <;> first | rfl | assumption) (Nat.le_of_ble_eq_true rfl) (Nat.le_of_ble_eq_true rfl) (Nat.le_of_ble_eq_true rfl) (Nat.le_of_ble_eq_true rfl) (c_X7_marked_r3 (v := v + 100000) (by (try dsimp only); (repeat (first | rw [up_s] | rw [up_n (by omega)])) <;> first | rfl | assumption) (p.fr (fun q h1 h2 => up_n (by omega))) w (q.fr (fun q h1 h2 => up_n (by omega))) h6 hw ht d1 d2) (ki (fun r S' hS => ?_))
  obtain ⟨h', z'⟩ := S'
  obtain ⟨rfl, rfl, f2, hc2⟩ := hS
  have f1 : hfr h h' c 1 := fun q hq => (f2 q hq).trans (up_n (by omega))
  dsimp only at hc2
  rw [Int64.add_assoc] at hc2
  refine ev_aload_n (pc := 19) dX3_marked_19 rfl ?_
  refine gf_X3_19 (pc := 20) rfl dX3_marked_20 ((f1 a (by omega)).trans ha) ?_
  refine ev_iadd (pc := 23) dX3_marked_23 ?_
  refine ev_iret (pc := 24) dX3_marked_24 rfl rfl (Nat.le_of_ble_eq_true rfl) (Nat.le_of_ble_eq_true rfl) ?_
  exact ⟨_, rfl, rfl, rfl, f1, hc2⟩
theorem c_X10_marked_r10 (hc : h c = some (.inl (10, [.long v]))) (p : pTel h a T) (w : wT T) (q : pBook h b B) (h6 : bT B ≤ 6) (hw : ∀ i : Nat, i < bT B → gN (bW B) i < 10) (ht : t < bT B) (d1 : c < a ∨ a + 4 ≤ c) (d2 : c < b ∨ b + 4 ≤ c) : Ct X 3 mt_X10_marked [.ref c, .ref b, .ref a, .int (nI t)] (h, z) 0 0 (Qi (fun r S' => r = (nI (gN (tF T) t) + nI (gN (bP B) t)) * nI 2 ∧ S'.2 = z ∧ hfr h S'.1 c 1 ∧ S'.1 c = some (.inl (10, [.long (v + (1000 + (10 + 1)))])))) := by
  obtain ⟨ha, -⟩ := id p
  obtain ⟨hb, -⟩ := id q
  refine mk_X10_marked (Nat.le_of_ble_eq_true rfl) (L := [.ref c, .ref b, .ref a, .int (nI t)]) rfl ?_
  refine ev_aload_n (pc := 0) dX10_marked_0 rfl ?_
  refine ev_dup (pc := 1) dX10_marked_1 rfl ?_
  refine gf_X10_7_r10 (pc := 2) rfl dX10_marked_2 (by (try dsimp only); (repeat (first | rw [up_s] | rw [up_n (by omega)])) <;> first | rfl | assumption) ?_
  refine ev_ldc2_w (pc := 5) dX10_marked_5 tw_803 ?_
  refine ev_ladd (pc := 8) dX10_marked_8 ?_
  refine pf_X10_7_r10 (pc := 9) rfl dX10_marked_9 (by (try dsimp only); (repeat (first | rw [up_s] | rw [up_n (by omega)])) <;> first | rfl | assumption) ?_
  refine ev_aload_n (pc := 12) dX10_marked_12 rfl ?_
  refine ev_aload_n (pc := 13) dX10_marked_13 rfl ?_
  refine ev_aload_n (pc := 14) dX10_marked_14 rfl ?_
  refine ev_iload_n (pc := 15) dX10_marked_15 rfl ?_
  refine iv_X10_15 (pc := 16) rfl dX10_marked_16 rfl (by (try dsimp only); (repeat (first | rw [up_s] | rw [up_n (by omega)])) <;> first | rfl | assumption) (Nat.le_of_ble_eq_true rfl) (Nat.le_of_ble_eq_true rfl) (Nat.le_of_ble_eq_true rfl) (Nat.le_of_ble_eq_true rfl) (c_X1_marked_r10 (v := v + 1000) (by (try dsimp only); (repeat (first | rw [up_s] | rw [up_n (by omega)])) <;> first | rfl | assumption) (p.fr (fun q h1 h2 => up_n (by omega))) w (q.fr (fun q h1 h2 => up_n (by omega))) h6 hw ht d1 d2) (ki (fun r S' hS => ?_))
  obtain ⟨h', z'⟩ := S'
  obtain ⟨rfl, rfl, f2, hc2⟩ := hS
  have f1 : hfr h h' c 1 := fun q hq => (f2 q hq).trans (up_n (by omega))
  dsimp only at hc2
  rw [Int64.add_assoc] at hc2
  refine ev_iconst (pc := 19) (v := nI 2) dX10_marked_19 kc_2 ?_
  refine ev_imul (pc := 20) dX10_marked_20 ?_
  refine ev_iret (pc := 21) dX10_marked_21 rfl rfl (Nat.le_of_ble_eq_true rfl) (Nat.le_of_ble_eq_true rfl) ?_
  exact ⟨_, rfl, rfl, rfl, f1, hc2⟩
theorem c_X2_marked_r2 (hc : h c = some (.inl (2, [.long v]))) (p : pTel h a T) (w : wT T) (q : pBook h b B) (h6 : bT B ≤ 6) (hw : ∀ i : Nat, i < bT B → gN (bW B) i < 10) (ht : t < bT B) (d1 : c < a ∨ a + 4 ≤ c) (d2 : c < b ∨ b + 4 ≤ c) : Ct X 4 mt_X2_marked [.ref c, .ref b, .ref a, .int (nI t)] (h, z) 0 0 (Qi (fun r S' => r = nI (gN (tF T) t) - nI (tW B t (bT B)) + nI (tO T).length ∧ S'.2 = z ∧ hfr h S'.1 c 1 ∧ S'.1 c = some (.inl (2, [.long (v + (10000 + (100 + 1)))])))) := by
  obtain ⟨ha, -⟩ := id p
  obtain ⟨hb, -⟩ := id q
  refine mk_X2_marked (Nat.le_of_ble_eq_true rfl) (L := [.ref c, .ref b, .ref a, .int (nI t)]) rfl ?_
  refine ev_aload_n (pc := 0) dX2_marked_0 rfl ?_
  refine ev_dup (pc := 1) dX2_marked_1 rfl ?_
  refine gf_X2_7_r2 (pc := 2) rfl dX2_marked_2 (by (try dsimp only); (repeat (first | rw [up_s] | rw [up_n (by omega)])) <;> first | rfl | assumption) ?_
  refine ev_ldc2_w (pc := 5) dX2_marked_5 tw_783 ?_
  refine ev_ladd (pc := 8) dX2_marked_8 ?_
  refine pf_X2_7_r2 (pc := 9) rfl dX2_marked_9 (by (try dsimp only); (repeat (first | rw [up_s] | rw [up_n (by omega)])) <;> first | rfl | assumption) ?_
  refine ev_aload_n (pc := 12) dX2_marked_12 rfl ?_
  refine ev_aload_n (pc := 13) dX2_marked_13 rfl ?_
  refine ev_aload_n (pc := 14) dX2_marked_14 rfl ?_
  refine ev_iload_n (pc := 15) dX2_marked_15 rfl ?_
  refine iv_X2_15 (pc := 16) rfl dX2_marked_16 rfl (by (try dsimp only); (repeat (first | rw [up_s] | rw [up_n (by omega)])) <;> first | rfl | assumption) (Nat.le_of_ble_eq_true rfl) (Nat.le_of_ble_eq_true rfl) (Nat.le_of_ble_eq_true rfl) (Nat.le_of_ble_eq_true rfl) (c_X4_marked_r2 (v := v + 10000) (by (try dsimp only); (repeat (first | rw [up_s] | rw [up_n (by omega)])) <;> first | rfl | assumption) (p.fr (fun q h1 h2 => up_n (by omega))) w (q.fr (fun q h1 h2 => up_n (by omega))) h6 hw ht d1 d2) (ki (fun r S' hS => ?_))
  obtain ⟨h', z'⟩ := S'
  obtain ⟨rfl, rfl, f2, hc2⟩ := hS
  have f1 : hfr h h' c 1 := fun q hq => (f2 q hq).trans (up_n (by omega))
  dsimp only at hc2
  rw [Int64.add_assoc] at hc2
  refine ev_aload_n (pc := 19) dX2_marked_19 rfl ?_
  refine gf_X2_19 (pc := 20) rfl dX2_marked_20 ((f1 a (by omega)).trans ha) ?_
  refine ev_iadd (pc := 23) dX2_marked_23 ?_
  refine ev_iret (pc := 24) dX2_marked_24 rfl rfl (Nat.le_of_ble_eq_true rfl) (Nat.le_of_ble_eq_true rfl) ?_
  exact ⟨_, rfl, rfl, rfl, f1, hc2⟩
theorem c_X7_init_r7 (hc : h c = some (.inl (7, [.long v]))) : Ct X 1 mt_X7_init [.ref c] (h, z) 0 0 (Qv (fun S' => S'.2 = z ∧ S'.1 = h)) := by
  refine mk_X7_init (Nat.le_of_ble_eq_true rfl) (L := [.ref c]) rfl ?_
  refine ev_aload_n (pc := 0) dX7_init_0 rfl ?_
  refine ev_objInit (pc := 1) dX7_init_1 tw_237 tw_24 tw_25 (Nat.le_of_ble_eq_true rfl) (Nat.le_of_ble_eq_true rfl) ?_
  refine ev_ret (pc := 4) dX7_init_4 rfl (Nat.le_of_ble_eq_true rfl) (Nat.le_of_ble_eq_true rfl) ?_
  exact ⟨rfl, rfl, rfl⟩
theorem c_X7_init_r1 (hc : h c = some (.inl (1, [.long v]))) : Ct X 1 mt_X7_init [.ref c] (h, z) 0 0 (Qv (fun S' => S'.2 = z ∧ S'.1 = h)) := by
  refine mk_X7_init (Nat.le_of_ble_eq_true rfl) (L := [.ref c]) rfl ?_
  refine ev_aload_n (pc := 0) dX7_init_0 rfl ?_
  refine ev_objInit (pc := 1) dX7_init_1 tw_237 tw_24 tw_25 (Nat.le_of_ble_eq_true rfl) (Nat.le_of_ble_eq_true rfl) ?_
  refine ev_ret (pc := 4) dX7_init_4 rfl (Nat.le_of_ble_eq_true rfl) (Nat.le_of_ble_eq_true rfl) ?_
  exact ⟨rfl, rfl, rfl⟩
theorem c_X7_init_r3 (hc : h c = some (.inl (3, [.long v]))) : Ct X 1 mt_X7_init [.ref c] (h, z) 0 0 (Qv (fun S' => S'.2 = z ∧ S'.1 = h)) := by
  refine mk_X7_init (Nat.le_of_ble_eq_true rfl) (L := [.ref c]) rfl ?_
  refine ev_aload_n (pc := 0) dX7_init_0 rfl ?_
  refine ev_objInit (pc := 1) dX7_init_1 tw_237 tw_24 tw_25 (Nat.le_of_ble_eq_true rfl) (Nat.le_of_ble_eq_true rfl) ?_
  refine ev_ret (pc := 4) dX7_init_4 rfl (Nat.le_of_ble_eq_true rfl) (Nat.le_of_ble_eq_true rfl) ?_
  exact ⟨rfl, rfl, rfl⟩
theorem c_X7_init_r4 (hc : h c = some (.inl (4, [.long v]))) : Ct X 1 mt_X7_init [.ref c] (h, z) 0 0 (Qv (fun S' => S'.2 = z ∧ S'.1 = h)) := by
  refine mk_X7_init (Nat.le_of_ble_eq_true rfl) (L := [.ref c]) rfl ?_
  refine ev_aload_n (pc := 0) dX7_init_0 rfl ?_
  refine ev_objInit (pc := 1) dX7_init_1 tw_237 tw_24 tw_25 (Nat.le_of_ble_eq_true rfl) (Nat.le_of_ble_eq_true rfl) ?_
  refine ev_ret (pc := 4) dX7_init_4 rfl (Nat.le_of_ble_eq_true rfl) (Nat.le_of_ble_eq_true rfl) ?_
  exact ⟨rfl, rfl, rfl⟩
theorem c_X7_init_r10 (hc : h c = some (.inl (10, [.long v]))) : Ct X 1 mt_X7_init [.ref c] (h, z) 0 0 (Qv (fun S' => S'.2 = z ∧ S'.1 = h)) := by
  refine mk_X7_init (Nat.le_of_ble_eq_true rfl) (L := [.ref c]) rfl ?_
  refine ev_aload_n (pc := 0) dX7_init_0 rfl ?_
  refine ev_objInit (pc := 1) dX7_init_1 tw_237 tw_24 tw_25 (Nat.le_of_ble_eq_true rfl) (Nat.le_of_ble_eq_true rfl) ?_
  refine ev_ret (pc := 4) dX7_init_4 rfl (Nat.le_of_ble_eq_true rfl) (Nat.le_of_ble_eq_true rfl) ?_
  exact ⟨rfl, rfl, rfl⟩
theorem c_X7_init_r2 (hc : h c = some (.inl (2, [.long v]))) : Ct X 1 mt_X7_init [.ref c] (h, z) 0 0 (Qv (fun S' => S'.2 = z ∧ S'.1 = h)) := by
  refine mk_X7_init (Nat.le_of_ble_eq_true rfl) (L := [.ref c]) rfl ?_
  refine ev_aload_n (pc := 0) dX7_init_0 rfl ?_
  refine ev_objInit (pc := 1) dX7_init_1 tw_237 tw_24 tw_25 (Nat.le_of_ble_eq_true rfl) (Nat.le_of_ble_eq_true rfl) ?_
  refine ev_ret (pc := 4) dX7_init_4 rfl (Nat.le_of_ble_eq_true rfl) (Nat.le_of_ble_eq_true rfl) ?_
  exact ⟨rfl, rfl, rfl⟩
theorem c_X1_init_r1 (hc : h c = some (.inl (1, [.long v]))) : Ct X 2 mt_X1_init [.ref c] (h, z) 0 0 (Qv (fun S' => S'.2 = z ∧ S'.1 = h)) := by
  refine mk_X1_init (Nat.le_of_ble_eq_true rfl) (L := [.ref c]) rfl ?_
  refine ev_aload_n (pc := 0) dX1_init_0 rfl ?_
  refine iv_X1_1 (pc := 1) rfl dX1_init_1 (Nat.le_of_ble_eq_true rfl) (Nat.le_of_ble_eq_true rfl) (Nat.le_of_ble_eq_true rfl) (Nat.le_of_ble_eq_true rfl) (c_X7_init_r1 hc) (kv (fun S' hS => ?_))
  obtain ⟨h', z'⟩ := S'
  obtain ⟨rfl, rfl⟩ := hS
  refine ev_ret (pc := 4) dX1_init_4 rfl (Nat.le_of_ble_eq_true rfl) (Nat.le_of_ble_eq_true rfl) ?_
  exact ⟨rfl, rfl, rfl⟩
theorem c_X1_init_r10 (hc : h c = some (.inl (10, [.long v]))) : Ct X 2 mt_X1_init [.ref c] (h, z) 0 0 (Qv (fun S' => S'.2 = z ∧ S'.1 = h)) := by
  refine mk_X1_init (Nat.le_of_ble_eq_true rfl) (L := [.ref c]) rfl ?_
  refine ev_aload_n (pc := 0) dX1_init_0 rfl ?_
  refine iv_X1_1 (pc := 1) rfl dX1_init_1 (Nat.le_of_ble_eq_true rfl) (Nat.le_of_ble_eq_true rfl) (Nat.le_of_ble_eq_true rfl) (Nat.le_of_ble_eq_true rfl) (c_X7_init_r10 hc) (kv (fun S' hS => ?_))
  obtain ⟨h', z'⟩ := S'
  obtain ⟨rfl, rfl⟩ := hS
  refine ev_ret (pc := 4) dX1_init_4 rfl (Nat.le_of_ble_eq_true rfl) (Nat.le_of_ble_eq_true rfl) ?_
  exact ⟨rfl, rfl, rfl⟩
theorem c_X4_init_r4 (hc : h c = some (.inl (4, [.long v]))) : Ct X 2 mt_X4_init [.ref c] (h, z) 0 0 (Qv (fun S' => S'.2 = z ∧ S'.1 = h)) := by
  refine mk_X4_init (Nat.le_of_ble_eq_true rfl) (L := [.ref c]) rfl ?_
  refine ev_aload_n (pc := 0) dX4_init_0 rfl ?_
  refine iv_X4_1 (pc := 1) rfl dX4_init_1 (Nat.le_of_ble_eq_true rfl) (Nat.le_of_ble_eq_true rfl) (Nat.le_of_ble_eq_true rfl) (Nat.le_of_ble_eq_true rfl) (c_X7_init_r4 hc) (kv (fun S' hS => ?_))
  obtain ⟨h', z'⟩ := S'
  obtain ⟨rfl, rfl⟩ := hS
  refine ev_ret (pc := 4) dX4_init_4 rfl (Nat.le_of_ble_eq_true rfl) (Nat.le_of_ble_eq_true rfl) ?_
  exact ⟨rfl, rfl, rfl⟩
theorem c_X4_init_r2 (hc : h c = some (.inl (2, [.long v]))) : Ct X 2 mt_X4_init [.ref c] (h, z) 0 0 (Qv (fun S' => S'.2 = z ∧ S'.1 = h)) := by
  refine mk_X4_init (Nat.le_of_ble_eq_true rfl) (L := [.ref c]) rfl ?_
  refine ev_aload_n (pc := 0) dX4_init_0 rfl ?_
  refine iv_X4_1 (pc := 1) rfl dX4_init_1 (Nat.le_of_ble_eq_true rfl) (Nat.le_of_ble_eq_true rfl) (Nat.le_of_ble_eq_true rfl) (Nat.le_of_ble_eq_true rfl) (c_X7_init_r2 hc) (kv (fun S' hS => ?_))
  obtain ⟨h', z'⟩ := S'
  obtain ⟨rfl, rfl⟩ := hS
  refine ev_ret (pc := 4) dX4_init_4 rfl (Nat.le_of_ble_eq_true rfl) (Nat.le_of_ble_eq_true rfl) ?_
  exact ⟨rfl, rfl, rfl⟩
theorem c_X3_init_r3 (hc : h c = some (.inl (3, [.long v]))) : Ct X 2 mt_X3_init [.ref c] (h, z) 0 0 (Qv (fun S' => S'.2 = z ∧ S'.1 = h)) := by
  refine mk_X3_init (Nat.le_of_ble_eq_true rfl) (L := [.ref c]) rfl ?_
  refine ev_aload_n (pc := 0) dX3_init_0 rfl ?_
  refine iv_X3_1 (pc := 1) rfl dX3_init_1 (Nat.le_of_ble_eq_true rfl) (Nat.le_of_ble_eq_true rfl) (Nat.le_of_ble_eq_true rfl) (Nat.le_of_ble_eq_true rfl) (c_X7_init_r3 hc) (kv (fun S' hS => ?_))
  obtain ⟨h', z'⟩ := S'
  obtain ⟨rfl, rfl⟩ := hS
  refine ev_ret (pc := 4) dX3_init_4 rfl (Nat.le_of_ble_eq_true rfl) (Nat.le_of_ble_eq_true rfl) ?_
  exact ⟨rfl, rfl, rfl⟩
theorem c_X10_init_r10 (hc : h c = some (.inl (10, [.long v]))) : Ct X 3 mt_X10_init [.ref c] (h, z) 0 0 (Qv (fun S' => S'.2 = z ∧ S'.1 = h)) := by
  refine mk_X10_init (Nat.le_of_ble_eq_true rfl) (L := [.ref c]) rfl ?_
  refine ev_aload_n (pc := 0) dX10_init_0 rfl ?_
  refine iv_X10_1 (pc := 1) rfl dX10_init_1 (Nat.le_of_ble_eq_true rfl) (Nat.le_of_ble_eq_true rfl) (Nat.le_of_ble_eq_true rfl) (Nat.le_of_ble_eq_true rfl) (c_X1_init_r10 hc) (kv (fun S' hS => ?_))
  obtain ⟨h', z'⟩ := S'
  obtain ⟨rfl, rfl⟩ := hS
  refine ev_ret (pc := 4) dX10_init_4 rfl (Nat.le_of_ble_eq_true rfl) (Nat.le_of_ble_eq_true rfl) ?_
  exact ⟨rfl, rfl, rfl⟩
theorem c_X2_init_r2 (hc : h c = some (.inl (2, [.long v]))) : Ct X 3 mt_X2_init [.ref c] (h, z) 0 0 (Qv (fun S' => S'.2 = z ∧ S'.1 = h)) := by
  refine mk_X2_init (Nat.le_of_ble_eq_true rfl) (L := [.ref c]) rfl ?_
  refine ev_aload_n (pc := 0) dX2_init_0 rfl ?_
  refine iv_X2_1 (pc := 1) rfl dX2_init_1 (Nat.le_of_ble_eq_true rfl) (Nat.le_of_ble_eq_true rfl) (Nat.le_of_ble_eq_true rfl) (Nat.le_of_ble_eq_true rfl) (c_X4_init_r2 hc) (kv (fun S' hS => ?_))
  obtain ⟨h', z'⟩ := S'
  obtain ⟨rfl, rfl⟩ := hS
  refine ev_ret (pc := 4) dX2_init_4 rfl (Nat.le_of_ble_eq_true rfl) (Nat.le_of_ble_eq_true rfl) ?_
  exact ⟨rfl, rfl, rfl⟩
end KIND
