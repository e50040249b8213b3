/-! ===== the model: images ===== -/
section MIMG
variable {X : Cx} {h : Hp} {z m n mx : Nat} {cs : List Nat} {B : Bk} {N : Tl} {P : List Tl} {I J : Im} {wn op : List Nat} {tr : Int64}
theorem in_f {x : Int32} {b : Int} (h : ¬ (0 ≤ x.toInt ∧ x.toInt ≤ b)) (lo hi : Int64) (e1 : lo.toInt = 0) (e2 : hi.toInt = b) : decide (lo.toInt ≤ x.toInt64.toInt ∧ x.toInt64.toInt ≤ hi.toInt) = false := by
  rw [Int32.toInt_toInt64, e1, e2]
  exact decide_eq_false h
theorem c_M_keep_bad {x : Int32} (hx : ¬ (0 ≤ x.toInt ∧ x.toInt < 2)) : Ct X 1 mt_X12_keep [.ref m, .int x] (h, z) 0 0 (QP (.int (-1)) (h, z)) := by
  refine mk_X12_keep (Nat.le_of_ble_eq_true rfl) (L := [.ref m, .int x, .retAddr 0, .retAddr 0]) rfl ?_
  refine ev_iload_n (pc := 0) dX12_keep_0 rfl ?_
  refine ev_i2l (pc := 1) dX12_keep_1 ?_
  refine ev_lconst (pc := 2) (v := 0) dX12_keep_2 kl_0 ?_
  refine ev_lconst (pc := 3) (v := 1) dX12_keep_3 kl_1 ?_
  refine iv_X12_63 (pc := 4) rfl dX12_keep_4 (Nat.le_of_ble_eq_true rfl) (Nat.le_of_ble_eq_true rfl) (Nat.le_of_ble_eq_true rfl) (Nat.le_of_ble_eq_true rfl) (c_in _ _ _) (kp ?_)
  rw [in_f (x := x) (b := 1) (by omega) _ _ rfl rfl]
  refine ev_if_ne (pc := 7) 12 dX12_keep_7 (by decide) (fun c_7 => ?_) (fun c_7 => ?_)
  · exact absurd rfl c_7
  · (try simp (disch := omega) only [i32_lti, i32_lei, i32_eqi, nI_toInt, i32z] at c_7)
    refine ev_iconst (pc := 10) (v := (-1)) dX12_keep_10 kc_m1 ?_
    refine ev_iret (pc := 11) dX12_keep_11 rfl rfl (Nat.le_of_ble_eq_true rfl) (Nat.le_of_ble_eq_true rfl) ?_
    exact ⟨rfl, rfl⟩
theorem c_M_back_bad {x : Int32} (hx : ¬ (0 ≤ x.toInt ∧ x.toInt < 2)) : Ct X 1 mt_X12_back [.ref m, .int x] (h, z) 0 0 (QP (.int (-1)) (h, z)) := by
  refine mk_X12_back (Nat.le_of_ble_eq_true rfl) (L := [.ref m, .int x, .retAddr 0, .retAddr 0]) rfl ?_
  refine ev_iload_n (pc := 0) dX12_back_0 rfl ?_
  refine ev_i2l (pc := 1) dX12_back_1 ?_
  refine ev_lconst (pc := 2) (v := 0) dX12_back_2 kl_0 ?_
  refine ev_lconst (pc := 3) (v := 1) dX12_back_3 kl_1 ?_
  refine iv_X12_63 (pc := 4) rfl dX12_back_4 (Nat.le_of_ble_eq_true rfl) (Nat.le_of_ble_eq_true rfl) (Nat.le_of_ble_eq_true rfl) (Nat.le_of_ble_eq_true rfl) (c_in _ _ _) (kp ?_)
  rw [in_f (x := x) (b := 1) (by omega) _ _ rfl rfl]
  refine ev_if_ne (pc := 7) 12 dX12_back_7 (by decide) (fun c_7 => ?_) (fun c_7 => ?_)
  · exact absurd rfl c_7
  · (try simp (disch := omega) only [i32_lti, i32_lei, i32_eqi, nI_toInt, i32z] at c_7)
    refine ev_iconst (pc := 10) (v := (-1)) dX12_back_10 kc_m1 ?_
    refine ev_iret (pc := 11) dX12_back_11 rfl rfl (Nat.le_of_ble_eq_true rfl) (Nat.le_of_ble_eq_true rfl) ?_
    exact ⟨rfl, rfl⟩
theorem pM.im {I' J' : Im} {h' : Hp} (p : pM h m cs B N P I J wn op n tr) (e : ∀ q : Nat, q ≠ m + 16 → h' q = h q) (k : pKp h' m I' J') : pM h' m cs B N P I' J' wn op n tr := by
  obtain ⟨⟨at_, bg, tk, td, rt, rn, rm, rd, mn, bd, br, po⟩, px, pr, pb, pn, pq, ⟨pu, pl⟩, por, ph, pk⟩ := p
  exact ⟨⟨at_, bg, tk, td, rt, rn, rm, rd, mn, bd, br, (e _ (by omega)).trans po⟩, px.fr (e _ (by omega)), pr.fr (fun q a b => e q (by omega)), pb.fr (fun q a b => e q (by omega)), (e _ (by omega)).trans pn, pq.fr (e _ (by omega)), ⟨pu.fr (e _ (by omega)), pl⟩, por.fr (fun q a b => e q (by omega)), ph.fr (fun q a b => e q (by omega)), k⟩
theorem c_M_keep (p : pM h m cs B N P I J wn op n tr) {i : Nat} (hi : i < 2) : Ct X 1 mt_X12_keep [.ref m, .int (nI i)] (h, z) 0 0 (Qi (fun r S' => r = nI (tN N) ∧ S'.2 = z ∧ hfr h S'.1 m 17 ∧ pM S'.1 m cs B N P (if i = 0 then some (N, P) else I) (if i = 1 then some (N, P) else J) wn op n tr)) := by
  obtain ⟨⟨at_, bg, tk, td, rt, rn, rm, rd, mn, bd, br, po⟩, px, pr, pb, pn, pq, ⟨⟨u, u1, u2⟩, pl⟩, por, ph, ⟨f, k1, k2, k3⟩⟩ := id p
  unfold pMO at po
  unfold pRw at pn
  refine mk_X12_keep (Nat.le_of_ble_eq_true rfl) (L := [.ref m, .int (nI i), .retAddr 0, .retAddr 0]) rfl ?_
  have fin : ∀ g : Nat → Int32, (∀ x : Nat, x < 642 → (x < 321 * i ∨ 321 * i + 321 ≤ x) → g x = f x) → kO g (321 * i) (some (N, P)) → kO g 0 (if i = 0 then some (N, P) else I) ∧ kO g 321 (if i = 1 then some (N, P) else J) := by
    intro g hg hk
    have h01 : i = 0 ∨ i = 1 := by omega
    rcases h01 with q | q <;> subst q
    · exact ⟨hk, k3.fr (fun x a b => hg x (by omega) (by omega))⟩
    · exact ⟨k2.fr (fun x a b => hg x (by omega) (by omega)), hk⟩
  have loop2 : ∀ (c k : Nat), k + c = 290 → ∀ (h1 : Hp) (g : Nat → Int32), (∀ q : Nat, q ≠ m + 16 → h1 q = h q) → h1 (m + 16) = some (.inr (0, .inl (ar 642 g))) → (∀ x : Nat, x < 642 → (x < 321 * i ∨ 321 * i + 321 ≤ x) → g x = f x) → g (321 * i) = nI 1 → g (321 * i + 1) = nI (tS N) → g (321 * i + 2) = nI P.length → (∀ j : Nat, j < 28 → g (321 * i + 3 + j) = eT N j) → (∀ x : Nat, x < k → g (321 * i + 31 + x) = u x) → Ev X (mi_X12_keep 1 0 0) (Qi (fun r S' => r = nI (tN N) ∧ S'.2 = z ∧ hfr h S'.1 m 17 ∧ pM S'.1 m cs B N P (if i = 0 then some (N, P) else I) (if i = 1 then some (N, P) else J) wn op n tr)) 0 0 (h1, z) 81 [.ref m, .int (nI i), .int (nI (321 * i)), .int (nI k)] [] := by
    intro c
    induction c with
    | zero =>
      intro k hk h1 g f1 a1 g0 g1 g2 g3 g4 g5
      have po1 := (f1 m (by omega)).trans po
      have pn1 := (f1 (m + 8) (by omega)).trans pn
      refine ev_iload_n (pc := 81) dX12_keep_81 rfl ?_
      refine ev_sipush (pc := 82) (v := nI 290) dX12_keep_82 ks_290 ?_
      refine ev_icmp_ge (pc := 85) 111 dX12_keep_85 (by decide) (fun c_85 => ?_) (fun c_85 => ?_)
      · (try simp (disch := omega) only [i32_lti, i32_lei, i32_eqi, nI_toInt, i32z] at c_85)
        refine ev_aload_n (pc := 111) dX12_keep_111 rfl ?_
        refine gf_X12_31 (pc := 112) rfl dX12_keep_112 (by (try dsimp only); (repeat (first | rw [up_s] | rw [up_n (by omega)])) <;> first | rfl | assumption) ?_
        refine ev_iconst (pc := 115) (v := nI 0) dX12_keep_115 kc_0 ?_
        refine ev_iald (pc := 116) dX12_keep_116 (by (try dsimp only); (repeat (first | rw [up_s] | rw [up_n (by omega)])) <;> first | rfl | assumption) (nI_toInt (by omega)) (x_0 _) ?_
        refine ev_iret (pc := 117) dX12_keep_117 rfl rfl (Nat.le_of_ble_eq_true rfl) (Nat.le_of_ble_eq_true rfl) ?_
        exact ⟨_, rfl, rfl, rfl, (fun q a => f1 q (by omega)), p.im f1 ⟨g, a1, fin g g0 ⟨g1, g2, g3, g4, pl, u2.congr pl (fun x hx => g5 x (by omega))⟩⟩⟩
      · exfalso; (try simp (disch := omega) only [i32_lti, i32_lei, i32_eqi, nI_toInt, i32z] at c_85); omega
    | succ c ih =>
      intro k hk h1 g f1 a1 g0 g1 g2 g3 g4 g5
      have po1 := (f1 m (by omega)).trans po
      have w1 := (f1 (m + 10) (by omega)).trans u1
      refine ev_iload_n (pc := 81) dX12_keep_81 rfl ?_
      refine ev_sipush (pc := 82) (v := nI 290) dX12_keep_82 ks_290 ?_
      refine ev_icmp_ge (pc := 85) 111 dX12_keep_85 (by decide) (fun c_85 => ?_) (fun c_85 => ?_)
      · exfalso; (try simp (disch := omega) only [i32_lti, i32_lei, i32_eqi, nI_toInt, i32z] at c_85); omega
      · (try simp (disch := omega) only [i32_lti, i32_lei, i32_eqi, nI_toInt, i32z] at c_85)
        refine ev_aload_n (pc := 88) dX12_keep_88 rfl ?_
        refine gf_X12_55 (pc := 89) rfl dX12_keep_89 (by (try dsimp only); (repeat (first | rw [up_s] | rw [up_n (by omega)])) <;> first | rfl | assumption) ?_
        refine ev_iload_n (pc := 92) dX12_keep_92 rfl ?_
        refine ev_bipush (pc := 93) (v := nI 31) dX12_keep_93 kb_31 ?_
        refine ev_iadd (pc := 95) dX12_keep_95 ?_
        (try rw [nI_add])
        refine ev_iload_n (pc := 96) dX12_keep_96 rfl ?_
        refine ev_iadd (pc := 97) dX12_keep_97 ?_
        (try rw [nI_add])
        refine ev_aload_n (pc := 98) dX12_keep_98 rfl ?_
        refine gf_X12_37 (pc := 99) rfl dX12_keep_99 (by (try dsimp only); (repeat (first | rw [up_s] | rw [up_n (by omega)])) <;> first | rfl | assumption) ?_
        refine ev_iload_n (pc := 102) dX12_keep_102 rfl ?_
        refine ev_iald (pc := 103) dX12_keep_103 (by (try dsimp only); (repeat (first | rw [up_s] | rw [up_n (by omega)])) <;> first | rfl | assumption) (nI_toInt (by omega)) (ar_get (by omega)) ?_
        refine ev_iast (pc := 104) dX12_keep_104 (by (try dsimp only); (repeat (first | rw [up_s] | rw [up_n (by omega)])) <;> first | rfl | assumption) (nI_toInt (by omega)) (by rw [ar_len]; omega) ?_
        rw [ar_set (by omega)]
        refine ev_iinc (pc := 105) (L' := [_, _, _, _]) dX12_keep_105 rfl (nI_1 _) rfl ?_
        refine ev_goto (pc := 108) 81 dX12_keep_108 (by decide) ?_
        refine ih (k + 1) (by omega) _ (ru g (321 * i + 31 + k) (u k)) (by intro q e1; (try dsimp only); rw [up_n (by omega)]; exact f1 q e1) (by (try dsimp only); (repeat (first | rw [up_s] | rw [up_n (by omega)])) <;> first | rfl | assumption) (fun x a b => (ru_n (by omega)).trans (g0 x a b)) ((ru_n (by omega)).trans g1) ((ru_n (by omega)).trans g2) ((ru_n (by omega)).trans g3) (fun j hj => (ru_n (by omega)).trans (g4 j hj)) ?_
        intro x hx
        by_cases q : x = k
        · subst q; rw [ru_s]
        · rw [ru_n (by omega)]; exact g5 x (by omega)
  have loop1 : ∀ (c k : Nat), k + c = 28 → ∀ (h1 : Hp) (g : Nat → Int32), (∀ q : Nat, q ≠ m + 16 → h1 q = h q) → h1 (m + 16) = some (.inr (0, .inl (ar 642 g))) → (∀ x : Nat, x < 642 → (x < 321 * i ∨ 321 * i + 321 ≤ x) → g x = f x) → g (321 * i) = nI 1 → g (321 * i + 1) = nI (tS N) → g (321 * i + 2) = nI P.length → (∀ j : Nat, j < k → g (321 * i + 3 + j) = eT N j) → Ev X (mi_X12_keep 1 0 0) (Qi (fun r S' => r = nI (tN N) ∧ S'.2 = z ∧ hfr h S'.1 m 17 ∧ pM S'.1 m cs B N P (if i = 0 then some (N, P) else I) (if i = 1 then some (N, P) else J) wn op n tr)) 0 0 (h1, z) 51 [.ref m, .int (nI i), .int (nI (321 * i)), .int (nI k)] [] := by
    intro c
    induction c with
    | zero =>
      intro k hk h1 g f1 a1 g0 g1 g2 g3 g4
      have po1 := (f1 m (by omega)).trans po
      refine ev_iload_n (pc := 51) dX12_keep_51 rfl ?_
      refine ev_bipush (pc := 52) (v := nI 28) dX12_keep_52 kb_28 ?_
      refine ev_icmp_ge (pc := 54) 79 dX12_keep_54 (by decide) (fun c_54 => ?_) (fun c_54 => ?_)
      · (try simp (disch := omega) only [i32_lti, i32_lei, i32_eqi, nI_toInt, i32z] at c_54)
        refine ev_iconst (pc := 79) (v := nI 0) dX12_keep_79 kc_0 ?_
        refine ev_istore_n (pc := 80) (L' := [_, _, _, _]) dX12_keep_80 (Nat.le_of_ble_eq_true rfl) rfl ?_
        exact loop2 290 0 rfl h1 g f1 a1 g0 g1 g2 g3 (fun j hj => g4 j (by omega)) (fun x hx => by omega)
      · exfalso; (try simp (disch := omega) only [i32_lti, i32_lei, i32_eqi, nI_toInt, i32z] at c_54); omega
    | succ c ih =>
      intro k hk h1 g f1 a1 g0 g1 g2 g3 g4
      have po1 := (f1 m (by omega)).trans po
      have pn1 := (f1 (m + 8) (by omega)).trans pn
      refine ev_iload_n (pc := 51) dX12_keep_51 rfl ?_
      refine ev_bipush (pc := 52) (v := nI 28) dX12_keep_52 kb_28 ?_
      refine ev_icmp_ge (pc := 54) 79 dX12_keep_54 (by decide) (fun c_54 => ?_) (fun c_54 => ?_)
      · exfalso; (try simp (disch := omega) only [i32_lti, i32_lei, i32_eqi, nI_toInt, i32z] at c_54); omega
      · (try simp (disch := omega) only [i32_lti, i32_lei, i32_eqi, nI_toInt, i32z] at c_54)
        refine ev_aload_n (pc := 57) dX12_keep_57 rfl ?_
        refine gf_X12_55 (pc := 58) rfl dX12_keep_58 (by (try dsimp only); (repeat (first | rw [up_s] | rw [up_n (by omega)])) <;> first | rfl | assumption) ?_
        refine ev_iload_n (pc := 61) dX12_keep_61 rfl ?_
        refine ev_iconst (pc := 62) (v := nI 3) dX12_keep_62 kc_3 ?_
        refine ev_iadd (pc := 63) dX12_keep_63 ?_
        (try rw [nI_add])
        refine ev_iload_n (pc := 64) dX12_keep_64 rfl ?_
        refine ev_iadd (pc := 65) dX12_keep_65 ?_
        (try rw [nI_add])
        refine ev_aload_n (pc := 66) dX12_keep_66 rfl ?_
        refine gf_X12_31 (pc := 67) rfl dX12_keep_67 (by (try dsimp only); (repeat (first | rw [up_s] | rw [up_n (by omega)])) <;> first | rfl | assumption) ?_
        refine ev_iload_n (pc := 70) dX12_keep_70 rfl ?_
        refine ev_iald (pc := 71) dX12_keep_71 (by (try dsimp only); (repeat (first | rw [up_s] | rw [up_n (by omega)])) <;> first | rfl | assumption) (nI_toInt (by omega)) (ar_get (by omega)) ?_
        refine ev_iast (pc := 72) dX12_keep_72 (by (try dsimp only); (repeat (first | rw [up_s] | rw [up_n (by omega)])) <;> first | rfl | assumption) (nI_toInt (by omega)) (by rw [ar_len]; omega) ?_
        rw [ar_set (by omega)]
        refine ev_iinc (pc := 73) (L' := [_, _, _, _]) dX12_keep_73 rfl (nI_1 _) rfl ?_
        refine ev_goto (pc := 76) 51 dX12_keep_76 (by decide) ?_
        refine ih (k + 1) (by omega) _ (ru g (321 * i + 3 + k) (eT N k)) (by intro q e1; (try dsimp only); rw [up_n (by omega)]; exact f1 q e1) (by (try dsimp only); (repeat (first | rw [up_s] | rw [up_n (by omega)])) <;> first | rfl | assumption) (fun x a b => (ru_n (by omega)).trans (g0 x a b)) ((ru_n (by omega)).trans g1) ((ru_n (by omega)).trans g2) ((ru_n (by omega)).trans g3) ?_
        intro x hx
        by_cases q : x = k
        · subst q; rw [ru_s]
        · rw [ru_n (by omega)]; exact g4 x (by omega)
  refine ev_iload_n (pc := 0) dX12_keep_0 rfl ?_
  refine ev_i2l (pc := 1) dX12_keep_1 ?_
  refine ev_lconst (pc := 2) (v := 0) dX12_keep_2 kl_0 ?_
  refine ev_lconst (pc := 3) (v := 1) dX12_keep_3 kl_1 ?_
  refine iv_X12_63 (pc := 4) rfl dX12_keep_4 (Nat.le_of_ble_eq_true rfl) (Nat.le_of_ble_eq_true rfl) (Nat.le_of_ble_eq_true rfl) (Nat.le_of_ble_eq_true rfl) (c_in _ _ _) (kp ?_)
  rw [in_t (a := 0) (b := 1) (by omega) (by omega) _ _ rfl rfl]
  refine ev_if_ne (pc := 7) 12 dX12_keep_7 (by decide) (fun c_7 => ?_) (fun c_7 => ?_)
  · (try simp (disch := omega) only [i32_lti, i32_lei, i32_eqi, nI_toInt, i32z] at c_7)
    refine ev_sipush (pc := 12) (v := nI 321) dX12_keep_12 ks_321 ?_
    refine ev_iload_n (pc := 15) dX12_keep_15 rfl ?_
    refine ev_imul (pc := 16) dX12_keep_16 ?_
    rw [pk_mul]
    refine ev_istore_n (pc := 17) (L' := [_, _, _, _]) dX12_keep_17 (Nat.le_of_ble_eq_true rfl) rfl ?_
    refine ev_aload_n (pc := 18) dX12_keep_18 rfl ?_
    refine gf_X12_55 (pc := 19) rfl dX12_keep_19 (by (try dsimp only); (repeat (first | rw [up_s] | rw [up_n (by omega)])) <;> first | rfl | assumption) ?_
    refine ev_iload_n (pc := 22) dX12_keep_22 rfl ?_
    refine ev_iconst (pc := 23) (v := nI 1) dX12_keep_23 kc_1 ?_
    refine ev_iast (pc := 24) dX12_keep_24 (by (try dsimp only); (repeat (first | rw [up_s] | rw [up_n (by omega)])) <;> first | rfl | assumption) (nI_toInt (by omega)) (by rw [ar_len]; omega) ?_
    rw [ar_set (by omega)]
    refine ev_aload_n (pc := 25) dX12_keep_25 rfl ?_
    refine gf_X12_55 (pc := 26) rfl dX12_keep_26 (by (try dsimp only); (repeat (first | rw [up_s] | rw [up_n (by omega)])) <;> first | rfl | assumption) ?_
    refine ev_iload_n (pc := 29) dX12_keep_29 rfl ?_
    refine ev_iconst (pc := 30) (v := nI 1) dX12_keep_30 kc_1 ?_
    refine ev_iadd (pc := 31) dX12_keep_31 ?_
    (try rw [nI_add])
    refine ev_aload_n (pc := 32) dX12_keep_32 rfl ?_
    refine gf_X12_152 (pc := 33) rfl dX12_keep_33 (by (try dsimp only); (repeat (first | rw [up_s] | rw [up_n (by omega)])) <;> first | rfl | assumption) ?_
    refine ev_iast (pc := 36) dX12_keep_36 (by (try dsimp only); (repeat (first | rw [up_s] | rw [up_n (by omega)])) <;> first | rfl | assumption) (nI_toInt (by omega)) (by rw [ar_len]; omega) ?_
    rw [ar_set (by omega)]
    refine ev_aload_n (pc := 37) dX12_keep_37 rfl ?_
    refine gf_X12_55 (pc := 38) rfl dX12_keep_38 (by (try dsimp only); (repeat (first | rw [up_s] | rw [up_n (by omega)])) <;> first | rfl | assumption) ?_
    refine ev_iload_n (pc := 41) dX12_keep_41 rfl ?_
    refine ev_iconst (pc := 42) (v := nI 2) dX12_keep_42 kc_2 ?_
    refine ev_iadd (pc := 43) dX12_keep_43 ?_
    (try rw [nI_add])
    refine ev_aload_n (pc := 44) dX12_keep_44 rfl ?_
    refine gf_X12_155 (pc := 45) rfl dX12_keep_45 (by (try dsimp only); (repeat (first | rw [up_s] | rw [up_n (by omega)])) <;> first | rfl | assumption) ?_
    refine ev_iast (pc := 48) dX12_keep_48 (by (try dsimp only); (repeat (first | rw [up_s] | rw [up_n (by omega)])) <;> first | rfl | assumption) (nI_toInt (by omega)) (by rw [ar_len]; omega) ?_
    rw [ar_set (by omega)]
    refine ev_iconst (pc := 49) (v := nI 0) dX12_keep_49 kc_0 ?_
    refine ev_istore_n (pc := 50) (L' := [_, _, _, _]) dX12_keep_50 (Nat.le_of_ble_eq_true rfl) rfl ?_
    exact loop1 28 0 rfl _ _ (by intro q e1; (try dsimp only); rw [up_n (by omega), up_n (by omega), up_n (by omega)]) (by (try dsimp only); (repeat (first | rw [up_s] | rw [up_n (by omega)])) <;> first | rfl | assumption) (fun x a b => by rw [ru_n (by omega), ru_n (by omega), ru_n (by omega)]) (by rw [ru_n (by omega), ru_n (by omega), ru_s]) (by rw [ru_n (by omega), ru_s]) (by rw [ru_s]) (fun j hj => by omega)
  · exact absurd c_7 (by decide)
theorem c_M_back_no (p : pM h m cs B N P I J wn op n tr) {i : Nat} (hi : i < 2) (hn : (if i = 0 then I else J) = none) : Ct X 1 mt_X12_back [.ref m, .int (nI i)] (h, z) 0 0 (QP (.int (-2)) (h, z)) := by
  obtain ⟨⟨at_, bg, tk, td, rt, rn, rm, rd, mn, bd, br, po⟩, px, pr, pb, pn, pq, ⟨⟨u, u1, u2⟩, pl⟩, por, ph, ⟨f, k1, k2, k3⟩⟩ := id p
  unfold pMO at po
  have h0 : f (321 * i) = 0 := by
    have h01 : i = 0 ∨ i = 1 := by omega
    rcases h01 with q | q <;> subst q
    · rw [if_pos rfl] at hn; subst hn; exact k2
    · rw [if_neg (by decide)] at hn; subst hn; exact k3
  refine mk_X12_back (Nat.le_of_ble_eq_true rfl) (L := [.ref m, .int (nI i), .retAddr 0, .retAddr 0]) rfl ?_
  refine ev_iload_n (pc := 0) dX12_back_0 rfl ?_
  refine ev_i2l (pc := 1) dX12_back_1 ?_
  refine ev_lconst (pc := 2) (v := 0) dX12_back_2 kl_0 ?_
  refine ev_lconst (pc := 3) (v := 1) dX12_back_3 kl_1 ?_
  refine iv_X12_63 (pc := 4) rfl dX12_back_4 (Nat.le_of_ble_eq_true rfl) (Nat.le_of_ble_eq_true rfl) (Nat.le_of_ble_eq_true rfl) (Nat.le_of_ble_eq_true rfl) (c_in _ _ _) (kp ?_)
  rw [in_t (a := 0) (b := 1) (by omega) (by omega) _ _ rfl rfl]
  refine ev_if_ne (pc := 7) 12 dX12_back_7 (by decide) (fun c_7 => ?_) (fun c_7 => ?_)
  · (try simp (disch := omega) only [i32_lti, i32_lei, i32_eqi, nI_toInt, i32z] at c_7)
    refine ev_sipush (pc := 12) (v := nI 321) dX12_back_12 ks_321 ?_
    refine ev_iload_n (pc := 15) dX12_back_15 rfl ?_
    refine ev_imul (pc := 16) dX12_back_16 ?_
    rw [pk_mul]
    refine ev_istore_n (pc := 17) (L' := [_, _, _, _]) dX12_back_17 (Nat.le_of_ble_eq_true rfl) rfl ?_
    refine ev_aload_n (pc := 18) dX12_back_18 rfl ?_
    refine gf_X12_55 (pc := 19) rfl dX12_back_19 (by (try dsimp only); (repeat (first | rw [up_s] | rw [up_n (by omega)])) <;> first | rfl | assumption) ?_
    refine ev_iload_n (pc := 22) dX12_back_22 rfl ?_
    refine ev_iald (pc := 23) dX12_back_23 (by (try dsimp only); (repeat (first | rw [up_s] | rw [up_n (by omega)])) <;> first | rfl | assumption) (nI_toInt (by omega)) (xg (by omega) h0) ?_
    refine ev_if_ne (pc := 24) 30 dX12_back_24 (by decide) (fun c_24 => ?_) (fun c_24 => ?_)
    · exact absurd rfl c_24
    · (try simp (disch := omega) only [i32_lti, i32_lei, i32_eqi, nI_toInt, i32z] at c_24)
      refine ev_bipush (pc := 27) (v := (-2)) dX12_back_27 kb_m2 ?_
      refine ev_iret (pc := 29) dX12_back_29 rfl rfl (Nat.le_of_ble_eq_true rfl) (Nat.le_of_ble_eq_true rfl) ?_
      exact ⟨rfl, rfl⟩
  · exact absurd c_7 (by decide)
theorem c_M_back (p : pM h m cs B N P I J wn op n tr) {i : Nat} (hi : i < 2) {N' : Tl} {P' : List Tl} (hn : (if i = 0 then I else J) = some (N', P')) : Ct X 1 mt_X12_back [.ref m, .int (nI i)] (h, z) 0 0 (Qi (fun r S' => r = nI (tN N') ∧ S'.2 = z ∧ hfr h S'.1 m 17 ∧ pM S'.1 m cs B N' P' I J wn op n tr)) := by
  obtain ⟨⟨at_, bg, tk, td, rt, rn, rm, rd, mn, bd, br, po⟩, px, pr, pb, pn, pq, ⟨⟨u, u1, u2⟩, pl⟩, por, ph, ⟨f, k1, k2, k3⟩⟩ := id p
  unfold pMO at po
  unfold pRw at pn
  have hk : kO f (321 * i) (some (N', P')) := by
    have h01 : i = 0 ∨ i = 1 := by omega
    rcases h01 with q | q <;> subst q
    · rw [if_pos rfl] at hn; subst hn; exact k2
    · rw [if_neg (by decide)] at hn; subst hn; exact k3
  obtain ⟨y1, y2, y3, y4, y5, y6⟩ := hk
  refine mk_X12_back (Nat.le_of_ble_eq_true rfl) (L := [.ref m, .int (nI i), .retAddr 0, .retAddr 0]) rfl ?_
  have loop2 : ∀ (c k : Nat), k + c = 290 → ∀ (h1 : Hp) (g : Nat → Int32), (∀ q : Nat, q ≠ m → q ≠ m + 8 → q ≠ m + 10 → h1 q = h q) → pMO h1 m (nI cs.length) at_ bg tk td rt rn rm rd (nI (bT B)) (nI (bK B)) (nI (bM B)) (nI (bD B)) (nI 0) (nI (tS N')) (nI P'.length) mn bd br (nI n) tr → pRw h1 (m + 8) N' → h1 (m + 10) = some (.inr (0, .inl (ar 290 g))) → (∀ x : Nat, x < k → g x = f (321 * i + 31 + x)) → Ev X (mi_X12_back 1 0 0) (Qi (fun r S' => r = nI (tN N') ∧ S'.2 = z ∧ hfr h S'.1 m 17 ∧ pM S'.1 m cs B N' P' I J wn op n tr)) 0 0 (h1, z) 86 [.ref m, .int (nI i), .int (nI (321 * i)), .int (nI k)] [] := by
    intro c
    induction c with
    | zero =>
      intro k hk h1 g f1 o1 a1 a2 g1
      have o1' := o1
      unfold pMO at o1'
      have a1' := a1
      unfold pRw at a1'
      refine ev_iload_n (pc := 86) dX12_back_86 rfl ?_
      refine ev_sipush (pc := 87) (v := nI 290) dX12_back_87 ks_290 ?_
      refine ev_icmp_ge (pc := 90) 116 dX12_back_90 (by decide) (fun c_90 => ?_) (fun c_90 => ?_)
      · (try simp (disch := omega) only [i32_lti, i32_lei, i32_eqi, nI_toInt, i32z] at c_90)
        refine ev_aload_n (pc := 116) dX12_back_116 rfl ?_
        refine gf_X12_31 (pc := 117) rfl dX12_back_117 (by (try dsimp only); (repeat (first | rw [up_s] | rw [up_n (by omega)])) <;> first | rfl | assumption) ?_
        refine ev_iconst (pc := 120) (v := nI 0) dX12_back_120 kc_0 ?_
        refine ev_iald (pc := 121) dX12_back_121 (by (try dsimp only); (repeat (first | rw [up_s] | rw [up_n (by omega)])) <;> first | rfl | assumption) (nI_toInt (by omega)) (x_0 _) ?_
        refine ev_iret (pc := 122) dX12_back_122 rfl rfl (Nat.le_of_ble_eq_true rfl) (Nat.le_of_ble_eq_true rfl) ?_
        exact ⟨_, rfl, rfl, rfl, (fun q a => f1 q (by omega) (by omega) (by omega)), p.st f1 ⟨at_, bg, tk, td, rt, rn, rm, rd, mn, bd, br, o1⟩ a1 ⟨g, a2, y6.congr y5 (fun x hx => g1 x (by omega))⟩ y5⟩
      · exfalso; (try simp (disch := omega) only [i32_lti, i32_lei, i32_eqi, nI_toInt, i32z] at c_90); omega
    | succ c ih =>
      intro k hk h1 g f1 o1 a1 a2 g1
      have o1' := o1
      unfold pMO at o1'
      have k11 := (f1 (m + 16) (by omega) (by omega) (by omega)).trans k1
      refine ev_iload_n (pc := 86) dX12_back_86 rfl ?_
      refine ev_sipush (pc := 87) (v := nI 290) dX12_back_87 ks_290 ?_
      refine ev_icmp_ge (pc := 90) 116 dX12_back_90 (by decide) (fun c_90 => ?_) (fun c_90 => ?_)
      · exfalso; (try simp (disch := omega) only [i32_lti, i32_lei, i32_eqi, nI_toInt, i32z] at c_90); omega
      · (try simp (disch := omega) only [i32_lti, i32_lei, i32_eqi, nI_toInt, i32z] at c_90)
        refine ev_aload_n (pc := 93) dX12_back_93 rfl ?_
        refine gf_X12_37 (pc := 94) rfl dX12_back_94 (by (try dsimp only); (repeat (first | rw [up_s] | rw [up_n (by omega)])) <;> first | rfl | assumption) ?_
        refine ev_iload_n (pc := 97) dX12_back_97 rfl ?_
        refine ev_aload_n (pc := 98) dX12_back_98 rfl ?_
        refine gf_X12_55 (pc := 99) rfl dX12_back_99 (by (try dsimp only); (repeat (first | rw [up_s] | rw [up_n (by omega)])) <;> first | rfl | assumption) ?_
        refine ev_iload_n (pc := 102) dX12_back_102 rfl ?_
        refine ev_bipush (pc := 103) (v := nI 31) dX12_back_103 kb_31 ?_
        refine ev_iadd (pc := 105) dX12_back_105 ?_
        (try rw [nI_add])
        refine ev_iload_n (pc := 106) dX12_back_106 rfl ?_
        refine ev_iadd (pc := 107) dX12_back_107 ?_
        (try rw [nI_add])
        refine ev_iald (pc := 108) dX12_back_108 (by (try dsimp only); (repeat (first | rw [up_s] | rw [up_n (by omega)])) <;> first | rfl | assumption) (nI_toInt (by omega)) (ar_get (by omega)) ?_
        refine ev_iast (pc := 109) dX12_back_109 (by (try dsimp only); (repeat (first | rw [up_s] | rw [up_n (by omega)])) <;> first | rfl | assumption) (nI_toInt (by omega)) (by rw [ar_len]; omega) ?_
        rw [ar_set (by omega)]
        refine ev_iinc (pc := 110) (L' := [_, _, _, _]) dX12_back_110 rfl (nI_1 _) rfl ?_
        refine ev_goto (pc := 113) 86 dX12_back_113 (by decide) ?_
        refine ih (k + 1) (by omega) _ (ru g k (f (321 * i + 31 + k))) (by intro q e1 e2 e3; (try dsimp only); rw [up_n (by omega)]; exact f1 q e1 e2 e3) (by unfold pMO; exact (by (try dsimp only); (repeat (first | rw [up_s] | rw [up_n (by omega)])) <;> first | rfl | assumption)) (show _ = _ from (up_n (by omega)).trans a1) (by (try dsimp only); (repeat (first | rw [up_s] | rw [up_n (by omega)])) <;> first | rfl | assumption) ?_
        intro x hx
        by_cases q : x = k
        · subst q; rw [ru_s]
        · rw [ru_n q]; exact g1 x (by omega)
  have loop1 : ∀ (c k : Nat), k + c = 28 → ∀ (h1 : Hp) (g : Nat → Int32), (∀ q : Nat, q ≠ m → q ≠ m + 8 → q ≠ m + 10 → h1 q = h q) → pMO h1 m (nI cs.length) at_ bg tk td rt rn rm rd (nI (bT B)) (nI (bK B)) (nI (bM B)) (nI (bD B)) (nI 0) (nI (tS N')) (nI P'.length) mn bd br (nI n) tr → h1 (m + 8) = some (.inr (0, .inl (ar 28 g))) → h1 (m + 10) = h (m + 10) → (∀ j : Nat, j < k → g j = eT N' j) → Ev X (mi_X12_back 1 0 0) (Qi (fun r S' => r = nI (tN N') ∧ S'.2 = z ∧ hfr h S'.1 m 17 ∧ pM S'.1 m cs B N' P' I J wn op n tr)) 0 0 (h1, z) 56 [.ref m, .int (nI i), .int (nI (321 * i)), .int (nI k)] [] := by
    intro c
    induction c with
    | zero =>
      intro k hk h1 g f1 o1 a1 a2 g1
      have o1' := o1
      unfold pMO at o1'
      have ea : ar 28 g = ar 28 (eT N') := ar_ext (fun j hj => g1 j (by omega))
      rw [ea] at a1
      refine ev_iload_n (pc := 56) dX12_back_56 rfl ?_
      refine ev_bipush (pc := 57) (v := nI 28) dX12_back_57 kb_28 ?_
      refine ev_icmp_ge (pc := 59) 84 dX12_back_59 (by decide) (fun c_59 => ?_) (fun c_59 => ?_)
      · (try simp (disch := omega) only [i32_lti, i32_lei, i32_eqi, nI_toInt, i32z] at c_59)
        refine ev_iconst (pc := 84) (v := nI 0) dX12_back_84 kc_0 ?_
        refine ev_istore_n (pc := 85) (L' := [_, _, _, _]) dX12_back_85 (Nat.le_of_ble_eq_true rfl) rfl ?_
        exact loop2 290 0 rfl h1 u f1 o1 a1 (a2.trans u1) (fun x hx => by omega)
      · exfalso; (try simp (disch := omega) only [i32_lti, i32_lei, i32_eqi, nI_toInt, i32z] at c_59); omega
    | succ c ih =>
      intro k hk h1 g f1 o1 a1 a2 g1
      have o1' := o1
      unfold pMO at o1'
      have k11 := (f1 (m + 16) (by omega) (by omega) (by omega)).trans k1
      refine ev_iload_n (pc := 56) dX12_back_56 rfl ?_
      refine ev_bipush (pc := 57) (v := nI 28) dX12_back_57 kb_28 ?_
      refine ev_icmp_ge (pc := 59) 84 dX12_back_59 (by decide) (fun c_59 => ?_) (fun c_59 => ?_)
      · exfalso; (try simp (disch := omega) only [i32_lti, i32_lei, i32_eqi, nI_toInt, i32z] at c_59); omega
      · (try simp (disch := omega) only [i32_lti, i32_lei, i32_eqi, nI_toInt, i32z] at c_59)
        refine ev_aload_n (pc := 62) dX12_back_62 rfl ?_
        refine gf_X12_31 (pc := 63) rfl dX12_back_63 (by (try dsimp only); (repeat (first | rw [up_s] | rw [up_n (by omega)])) <;> first | rfl | assumption) ?_
        refine ev_iload_n (pc := 66) dX12_back_66 rfl ?_
        refine ev_aload_n (pc := 67) dX12_back_67 rfl ?_
        refine gf_X12_55 (pc := 68) rfl dX12_back_68 (by (try dsimp only); (repeat (first | rw [up_s] | rw [up_n (by omega)])) <;> first | rfl | assumption) ?_
        refine ev_iload_n (pc := 71) dX12_back_71 rfl ?_
        refine ev_iconst (pc := 72) (v := nI 3) dX12_back_72 kc_3 ?_
        refine ev_iadd (pc := 73) dX12_back_73 ?_
        (try rw [nI_add])
        refine ev_iload_n (pc := 74) dX12_back_74 rfl ?_
        refine ev_iadd (pc := 75) dX12_back_75 ?_
        (try rw [nI_add])
        refine ev_iald (pc := 76) dX12_back_76 (by (try dsimp only); (repeat (first | rw [up_s] | rw [up_n (by omega)])) <;> first | rfl | assumption) (nI_toInt (by omega)) (xg (by omega) (y4 k (by omega))) ?_
        refine ev_iast (pc := 77) dX12_back_77 (by (try dsimp only); (repeat (first | rw [up_s] | rw [up_n (by omega)])) <;> first | rfl | assumption) (nI_toInt (by omega)) (by rw [ar_len]; omega) ?_
        rw [ar_set (by omega)]
        refine ev_iinc (pc := 78) (L' := [_, _, _, _]) dX12_back_78 rfl (nI_1 _) rfl ?_
        refine ev_goto (pc := 81) 56 dX12_back_81 (by decide) ?_
        refine ih (k + 1) (by omega) _ (ru g k (eT N' k)) (by intro q e1 e2 e3; (try dsimp only); rw [up_n (by omega)]; exact f1 q e1 e2 e3) (by unfold pMO; exact (by (try dsimp only); (repeat (first | rw [up_s] | rw [up_n (by omega)])) <;> first | rfl | assumption)) (by (try dsimp only); (repeat (first | rw [up_s] | rw [up_n (by omega)])) <;> first | rfl | assumption) (by (try dsimp only); rw [up_n (by omega)]; exact a2) ?_
        intro x hx
        by_cases q : x = k
        · subst q; rw [ru_s]
        · rw [ru_n q]; exact g1 x (by omega)
  refine ev_iload_n (pc := 0) dX12_back_0 rfl ?_
  refine ev_i2l (pc := 1) dX12_back_1 ?_
  refine ev_lconst (pc := 2) (v := 0) dX12_back_2 kl_0 ?_
  refine ev_lconst (pc := 3) (v := 1) dX12_back_3 kl_1 ?_
  refine iv_X12_63 (pc := 4) rfl dX12_back_4 (Nat.le_of_ble_eq_true rfl) (Nat.le_of_ble_eq_true rfl) (Nat.le_of_ble_eq_true rfl) (Nat.le_of_ble_eq_true rfl) (c_in _ _ _) (kp ?_)
  rw [in_t (a := 0) (b := 1) (by omega) (by omega) _ _ rfl rfl]
  refine ev_if_ne (pc := 7) 12 dX12_back_7 (by decide) (fun c_7 => ?_) (fun c_7 => ?_)
  · (try simp (disch := omega) only [i32_lti, i32_lei, i32_eqi, nI_toInt, i32z] at c_7)
    refine ev_sipush (pc := 12) (v := nI 321) dX12_back_12 ks_321 ?_
    refine ev_iload_n (pc := 15) dX12_back_15 rfl ?_
    refine ev_imul (pc := 16) dX12_back_16 ?_
    rw [pk_mul]
    refine ev_istore_n (pc := 17) (L' := [_, _, _, _]) dX12_back_17 (Nat.le_of_ble_eq_true rfl) rfl ?_
    refine ev_aload_n (pc := 18) dX12_back_18 rfl ?_
    refine gf_X12_55 (pc := 19) rfl dX12_back_19 (by (try dsimp only); (repeat (first | rw [up_s] | rw [up_n (by omega)])) <;> first | rfl | assumption) ?_
    refine ev_iload_n (pc := 22) dX12_back_22 rfl ?_
    refine ev_iald (pc := 23) dX12_back_23 (by (try dsimp only); (repeat (first | rw [up_s] | rw [up_n (by omega)])) <;> first | rfl | assumption) (nI_toInt (by omega)) (xg (by omega) y1) ?_
    refine ev_if_ne (pc := 24) 30 dX12_back_24 (by decide) (fun c_24 => ?_) (fun c_24 => ?_)
    · (try simp (disch := omega) only [i32_lti, i32_lei, i32_eqi, nI_toInt, i32z] at c_24)
      refine ev_aload_n (pc := 30) dX12_back_30 rfl ?_
      refine ev_aload_n (pc := 31) dX12_back_31 rfl ?_
      refine gf_X12_55 (pc := 32) rfl dX12_back_32 (by (try dsimp only); (repeat (first | rw [up_s] | rw [up_n (by omega)])) <;> first | rfl | assumption) ?_
      refine ev_iload_n (pc := 35) dX12_back_35 rfl ?_
      refine ev_iconst (pc := 36) (v := nI 1) dX12_back_36 kc_1 ?_
      refine ev_iadd (pc := 37) dX12_back_37 ?_
      (try rw [nI_add])
      refine ev_iald (pc := 38) dX12_back_38 (by (try dsimp only); (repeat (first | rw [up_s] | rw [up_n (by omega)])) <;> first | rfl | assumption) (nI_toInt (by omega)) (xg (by omega) y2) ?_
      refine pf_X12_152 (pc := 39) rfl dX12_back_39 (by (try dsimp only); (repeat (first | rw [up_s] | rw [up_n (by omega)])) <;> first | rfl | assumption) ?_
      refine ev_aload_n (pc := 42) dX12_back_42 rfl ?_
      refine ev_aload_n (pc := 43) dX12_back_43 rfl ?_
      refine gf_X12_55 (pc := 44) rfl dX12_back_44 (by (try dsimp only); (repeat (first | rw [up_s] | rw [up_n (by omega)])) <;> first | rfl | assumption) ?_
      refine ev_iload_n (pc := 47) dX12_back_47 rfl ?_
      refine ev_iconst (pc := 48) (v := nI 2) dX12_back_48 kc_2 ?_
      refine ev_iadd (pc := 49) dX12_back_49 ?_
      (try rw [nI_add])
      refine ev_iald (pc := 50) dX12_back_50 (by (try dsimp only); (repeat (first | rw [up_s] | rw [up_n (by omega)])) <;> first | rfl | assumption) (nI_toInt (by omega)) (xg (by omega) y3) ?_
      refine pf_X12_155 (pc := 51) rfl dX12_back_51 (by (try dsimp only); (repeat (first | rw [up_s] | rw [up_n (by omega)])) <;> first | rfl | assumption) ?_
      refine ev_iconst (pc := 54) (v := nI 0) dX12_back_54 kc_0 ?_
      refine ev_istore_n (pc := 55) (L' := [_, _, _, _]) dX12_back_55 (Nat.le_of_ble_eq_true rfl) rfl ?_
      exact loop1 28 0 rfl _ (eT N) (by intro q e1 e2 e3; (try dsimp only); rw [up_n (by omega), up_n (by omega)]) (by unfold pMO; exact (by (try dsimp only); (repeat (first | rw [up_s] | rw [up_n (by omega)])) <;> first | rfl | assumption)) (by (try dsimp only); (repeat (first | rw [up_s] | rw [up_n (by omega)])) <;> first | rfl | assumption) (by (try dsimp only); rw [up_n (by omega), up_n (by omega)]) (fun j hj => by omega)
    · exact absurd c_24 (by decide)
  · exact absurd c_7 (by decide)
end MIMG
