/-! ===== Rows: walkAll ===== -/
section ALL
variable {X : Cx} {h : Hp} {z r size full k b m a n : Nat} {kn : Bool} {lb osz nx : Int32} {B : Bk} {W : List (List Nat)} {w : List Nat}
/-- what walkAll keeps -/
def pAll2 (h0 h : Hp) (r : Nat) (kn : Bool) (lb : Int32) (B : Bk) (i : Nat) : Prop := hfr h0 h r 11 ∧ (∃ osz nx : Int32, pRO h r (allW (bT B) (bT B)).length (preW (bT B) (bT B)).length kn lb osz nx) ∧ pRow h r (allW (bT B) (bT B)) ∧ pTab h r (allW (bT B) (bT B)) B i ∧ pAux h r
theorem pTab.step {h' : Hp} {r i : Nat} {W : List (List Nat)} {B : Bk} {w : List Nat} {sv ow st : List Nat} {x : Nat} (hi : i < 1957) (hw : W[i]? = some w) (l1 : sv.length = 1957) (l2 : ow.length = 5871) (l3 : st.length = 1957) (l4 : ∀ j : Nat, gN st j = 0 ∨ gN st j = 1) (l5 : ∀ (j : Nat) (v : List Nat), j < i → W[j]? = some v → gN sv j = (outW B v).length ∧ (∀ k : Nat, k < 3 → gN ow (3 * j + k) = wds (outW B v) k) ∧ (gN st j = 1 ↔ nxtW B v < v.length)) {xs : List Nat} {sp : Nat} (e1 : h' (r + 2) = some (.inr (1, .inl ((sv.set i (outW B w).length).map nI)))) (e2 : h' (r + 3) = some (.inr (3, .inr (.inl ((am_cp 0 xs ow sp (i * 3) 3).map lN))))) (hx : ∀ k : Nat, k < 3 → gN xs (sp + k) = wds (outW B w) k) (e3 : h' (r + 4) = some (.inr (2, .inl ((st.set i x).map nI)))) (hx1 : x = 0 ∨ x = 1) (hx2 : x = 1 ↔ nxtW B w < w.length) : pTab h' r W B (i + 1) := by
  refine ⟨_, _, _, e1, (List.length_set ..).trans l1, e2, (am_cp_len ..).trans l2, e3, (List.length_set ..).trans l3, ?_, ?_⟩
  · intro j
    rw [gN_set (by omega)]
    split
    · exact hx1
    · exact l4 j
  · intro j v hj hv
    rw [gN_set (by omega), gN_set (by omega)]
    by_cases hji : j = i
    · subst hji
      rw [hw] at hv
      cases hv
      rw [if_pos rfl, if_pos rfl]
      refine ⟨rfl, fun k hk => ?_, hx2⟩
      rw [gN_cp (by omega), if_pos (by omega), show 3 * j + k - j * 3 = k by omega]
      exact hx k hk
    · rw [if_neg hji, if_neg hji]
      obtain ⟨a1, a2, a3⟩ := l5 j v (by omega) hv
      refine ⟨a1, fun k hk => ?_, a3⟩
      rw [gN_cp (by omega), if_neg (by omega)]
      exact a2 k hk
theorem c_walkAll (b9 : wB m B) (hm : m < 100) (q : pBook h b B) (d : b + 4 ≤ r ∨ r + 11 ≤ b) (p : pRO h r size full kn lb osz nx) (pr : ∃ rs : List Nat, h (r + 1) = some (.inr (0, .inl (rs.map nI))) ∧ rs.length = 1957) (pt : pTab h r W B 0) (pa : pAux h r) : Ct X 4 mt_X5_walkAll [.ref r, .ref b] (h, z) 0 0 (Qv (fun S' => S'.2 = z ∧ pAll2 h S'.1 r kn lb B (allW (bT B) (bT B)).length)) := by
  obtain ⟨b1, b2, b3, b4, b5, b6, b7⟩ := id b9
  have h1957 := allW_len (bT B) (by omega)
  have p' := p
  unfold pRO at p'
  obtain ⟨hb, -⟩ := id q
  refine mk_X5_walkAll (Nat.le_of_ble_eq_true rfl) (L := [.ref r, .ref b, .retAddr 0, .retAddr 0]) rfl ?_
  have tail : ∀ (i s : Nat) (w : List Nat) (h1 : Hp), (allW (bT B) (bT B))[i]? = some w → pAll2 h h1 r kn lb B i → (∀ h2 : Hp, pAll2 h h2 r kn lb B (i + 1) → Ev X (mi_X5_walkAll 4 0 0) (Qv (fun S' => S'.2 = z ∧ pAll2 h S'.1 r kn lb B (allW (bT B) (bT B)).length)) 0 0 (h2, z) 144 [.ref r, .ref b, .int (nI s), .int (nI i)] []) → Ev X (mi_X5_walkAll 4 0 0) (Qv (fun S' => S'.2 = z ∧ pAll2 h S'.1 r kn lb B (allW (bT B) (bT B)).length)) 0 0 (h1, z) 79 [.ref r, .ref b, .int (nI s), .int (nI i)] [] := by
    intro i s w h1 hw P kk
    obtain ⟨f1, ⟨o1, x1, p1⟩, q1, t1, a1⟩ := P
    have hi := (List.getElem?_eq_some_iff.mp hw).1
    have hwm := allW_mem (List.mem_of_getElem? hw)
    have p1' := p1
    unfold pRO at p1'
    obtain ⟨rs, r1, r2, r3, r4⟩ := id q1
    have hg := (r4 i w hw).1
    have hc6 := cod_lt6 (w := w) (fun t ht => by have := hwm.2.2 t ht; omega) (by omega)
    have hb1 : pBook h1 b B := q.fr (fun x e1 e2 => f1 x (by omega))
    obtain ⟨hb1', -⟩ := id hb1
    have hsp : sprD (bT B) 6 (cod w) [] = some w := by
      rw [sprD_cod b1 6 w [] (by omega) hwm.2.2 (by rw [List.append_nil]; exact hwm.2.1), List.append_nil]
    have hok := walkW_ok b9 hm hwm.2.2 30 (startT B, 0) ⟨wT.start b9 hm, wF.start b9, Nat.zero_le _⟩ (by show 0 + 30 < 1000; omega)
    have hol : (outW B w).length ≤ 30 := hok.1
    have hnl : nxtW B w ≤ w.length := hok.2.2
    obtain ⟨sv, ow, st, s1, s2, s3, s4, s5, s6, s7, s8⟩ := id t1
    refine ev_aload_n (pc := 79) dX5_walkAll_79 rfl ?_
    refine ev_aload_n (pc := 80) dX5_walkAll_80 rfl ?_
    refine gf_X5_11 (pc := 81) rfl dX5_walkAll_81 (by (try dsimp only); (repeat (first | rw [up_s] | rw [up_n (by omega)])) <;> first | rfl | assumption) ?_
    refine ev_iload_n (pc := 84) dX5_walkAll_84 rfl ?_
    refine ev_iald (pc := 85) dX5_walkAll_85 (by (try dsimp only); (repeat (first | rw [up_s] | rw [up_n (by omega)])) <;> first | rfl | assumption) (nI_toInt (by omega)) (gm (by omega)) ?_
    rw [hg]
    refine ev_aload_n (pc := 86) dX5_walkAll_86 rfl ?_
    refine gf_X5_122 (pc := 87) rfl dX5_walkAll_87 (by (try dsimp only); (repeat (first | rw [up_s] | rw [up_n (by omega)])) <;> first | rfl | assumption) ?_
    refine iv_X5_135 (pc := 90) rfl dX5_walkAll_90 (by (try dsimp only); (repeat (first | rw [up_s] | rw [up_n (by omega)])) <;> first | rfl | assumption) (Nat.le_of_ble_eq_true rfl) (Nat.le_of_ble_eq_true rfl) (Nat.le_of_ble_eq_true rfl) (Nat.le_of_ble_eq_true rfl) (c_spread (by omega) b1 p1 a1.2.2) (ki (fun v S' hS => ?_))
    obtain ⟨h2, z'⟩ := S'
    obtain ⟨rfl, rfl, f2, k2, p2, o7, o8⟩ := hS
    have e9 := (o8 w hsp).1
    have o9 := (o8 w hsp).2
    subst e9
    obtain ⟨os, y1, y2, y3⟩ := id o9
    have p2' := p2
    unfold pRO at p2'
    have s1' := (f2 (r + 2) (by omega) (by omega)).trans s1
    have a2 : rTel h2 (r + 5) := a1.1.fr (fun y e1 e2 => f2 y (by omega) (by omega))
    have w2 : ∃ xs : List Int64, h2 (r + 9) = some (.inr (3, .inr (.inl xs))) ∧ xs.length = 3 := by
      obtain ⟨xs, e1, e2⟩ := a1.2.1
      exact ⟨xs, (f2 _ (by omega) (by omega)).trans e1, e2⟩
    have hb2 : pBook h2 b B := hb1.fr (fun x e1 e2 => f2 x (by omega) (by omega))
    refine ev_pop (pc := 93) dX5_walkAll_93 rfl ?_
    refine ev_aload_n (pc := 94) dX5_walkAll_94 rfl ?_
    refine gf_X5_15 (pc := 95) rfl dX5_walkAll_95 (by (try dsimp only); (repeat (first | rw [up_s] | rw [up_n (by omega)])) <;> first | rfl | assumption) ?_
    refine ev_iload_n (pc := 98) dX5_walkAll_98 rfl ?_
    refine ev_aload_n (pc := 99) dX5_walkAll_99 rfl ?_
    refine ev_aload_n (pc := 100) dX5_walkAll_100 rfl ?_
    refine iv_X5_139 (pc := 101) rfl dX5_walkAll_101 (by (try dsimp only); (repeat (first | rw [up_s] | rw [up_n (by omega)])) <;> first | rfl | assumption) (Nat.le_of_ble_eq_true rfl) (Nat.le_of_ble_eq_true rfl) (Nat.le_of_ble_eq_true rfl) (Nat.le_of_ble_eq_true rfl) (c_walk b9 hm hb2 d p2 o9 hwm.2.2 (by omega) a2 w2) (ki (fun v S' hS => ?_))
    obtain ⟨h3, z'⟩ := S'
    obtain ⟨rfl, rfl, f3, a3, w3, p3⟩ := hS
    have p3' := p3
    unfold pRO at p3'
    have w3' := w3
    unfold pWo at w3'
    have s1'' := (f3 (r + 2) (by omega) (by omega)).trans s1'
    have s3'' := (f3 (r + 3) (by omega) (by omega)).trans ((f2 (r + 3) (by omega) (by omega)).trans s3)
    have s5'' := (f3 (r + 4) (by omega) (by omega)).trans ((f2 (r + 4) (by omega) (by omega)).trans s5)
    refine ev_i2b (pc := 104) dX5_walkAll_104 ?_
    rw [by_n _ (by omega)]
    refine ev_bast (pc := 105) dX5_walkAll_105 (by (try dsimp only); (repeat (first | rw [up_s] | rw [up_n (by omega)])) <;> first | rfl | assumption) (nI_toInt (by omega)) (by simp only [List.length_map, List.length_set, List.length_replicate]; omega) (by_y (by omega)) ?_
    rw [gs]
    refine ev_aload_n (pc := 106) dX5_walkAll_106 rfl ?_
    refine gf_X5_34 (pc := 107) rfl dX5_walkAll_107 (by (try dsimp only); (repeat (first | rw [up_s] | rw [up_n (by omega)])) <;> first | rfl | assumption) ?_
    refine ev_iconst (pc := 110) (v := nI 0) dX5_walkAll_110 kc_0 ?_
    refine ev_aload_n (pc := 111) dX5_walkAll_111 rfl ?_
    refine gf_X5_19 (pc := 112) rfl dX5_walkAll_112 (by (try dsimp only); (repeat (first | rw [up_s] | rw [up_n (by omega)])) <;> first | rfl | assumption) ?_
    refine ev_iload_n (pc := 115) dX5_walkAll_115 rfl ?_
    refine ev_iconst (pc := 116) (v := nI 3) dX5_walkAll_116 kc_3 ?_
    refine ev_imul (pc := 117) dX5_walkAll_117 ?_
    rw [pk_mul]
    refine ev_iconst (pc := 118) (v := nI 3) dX5_walkAll_118 kc_3 ?_
    refine ev_copyl (pc := 119) dX5_walkAll_119 tw_653 (Nat.le_of_ble_eq_true rfl) (Nat.le_of_ble_eq_true rfl) (by (try dsimp only); (repeat (first | rw [up_s] | rw [up_n (by omega)])) <;> first | rfl | assumption) (by (try dsimp only); (repeat (first | rw [up_s] | rw [up_n (by omega)])) <;> first | rfl | assumption) (nI_toInt (by omega)) (nI_toInt (by omega)) (nI_toInt (by omega)) (by simp only [List.length_map, List.length_cons, List.length_nil]; omega) (by simp only [List.length_map]; omega) ?_
    rw [cp_lN]
    refine ev_aload_n (pc := 122) dX5_walkAll_122 rfl ?_
    refine gf_X5_23 (pc := 123) rfl dX5_walkAll_123 (by (try dsimp only); (repeat (first | rw [up_s] | rw [up_n (by omega)])) <;> first | rfl | assumption) ?_
    refine ev_iload_n (pc := 126) dX5_walkAll_126 rfl ?_
    refine ev_aload_n (pc := 127) dX5_walkAll_127 rfl ?_
    refine gf_X5_67 (pc := 128) rfl dX5_walkAll_128 (by (try dsimp only); (repeat (first | rw [up_s] | rw [up_n (by omega)])) <;> first | rfl | assumption) ?_
    refine ev_aload_n (pc := 131) dX5_walkAll_131 rfl ?_
    refine gf_X5_47 (pc := 132) rfl dX5_walkAll_132 (by (try dsimp only); (repeat (first | rw [up_s] | rw [up_n (by omega)])) <;> first | rfl | assumption) ?_
    refine ev_icmp_ge (pc := 135) 142 dX5_walkAll_135 (by decide) (fun c_135 => ?_) (fun c_135 => ?_)
    · (try simp (disch := omega) only [i32_lti, i32_lei, i32_eqi, nI_toInt, i32z] at c_135)
      refine ev_iconst (pc := 142) (v := nI 0) dX5_walkAll_142 kc_0 ?_
      refine ev_zast (pc := 143) dX5_walkAll_143 (by (try dsimp only); (repeat (first | rw [up_s] | rw [up_n (by omega)])) <;> first | rfl | assumption) (nI_toInt (by omega)) (by simp only [List.length_map, List.length_set, List.length_replicate]; omega) rfl ?_
      first | rw [show (nI 0 &&& 1 : Int32) = nI 0 by decide, gs] | rw [show (nI 1 &&& 1 : Int32) = nI 1 by decide, gs]
      refine kk _ ⟨by intro y e; rw [up_n (by omega), up_n (by omega), up_n (by omega)]; exact (f3 y (by omega) (by omega)).trans ((f2 y (by omega) (by omega)).trans (f1 y e)), ⟨nI w.length, nI (nxtW B w), (by unfold pRO; (try dsimp only); (repeat (first | rw [up_s] | rw [up_n (by omega)])) <;> first | rfl | assumption)⟩, pRow.fr q1 (by rw [up_n (by omega), up_n (by omega), up_n (by omega)]; exact (f3 (r + 1) (by omega) (by omega)).trans (f2 (r + 1) (by omega) (by omega))), ?_, ⟨a3.fr (fun y e1 e2 => by rw [up_n (by omega), up_n (by omega), up_n (by omega)]), ⟨_, (by rw [up_n (by omega), up_n (by omega), up_n (by omega)]; exact w3'), rfl⟩, ⟨os, (by rw [up_n (by omega), up_n (by omega), up_n (by omega)]; exact (f3 (r + 10) (by omega) (by omega)).trans y1), y2, fun k hk => (nomatch hk)⟩⟩⟩
      first
        | exact pTab.step (x := 0) (by omega) hw s2 s4 s6 s7 s8 (by (try dsimp only); (repeat (first | rw [up_s] | rw [up_n (by omega)])) <;> first | rfl | assumption) (by (try dsimp only); (repeat (first | rw [up_s] | rw [up_n (by omega)])) <;> first | rfl | assumption) (fun k hk => by rw [Nat.zero_add]; exact wds_g3 hk) (by (try dsimp only); (repeat (first | rw [up_s] | rw [up_n (by omega)])) <;> first | rfl | assumption) (Or.inl rfl) ⟨fun q => absurd q (by decide), fun q => by omega⟩
        | exact pTab.step (x := 1) (by omega) hw s2 s4 s6 s7 s8 (by (try dsimp only); (repeat (first | rw [up_s] | rw [up_n (by omega)])) <;> first | rfl | assumption) (by (try dsimp only); (repeat (first | rw [up_s] | rw [up_n (by omega)])) <;> first | rfl | assumption) (fun k hk => by rw [Nat.zero_add]; exact wds_g3 hk) (by (try dsimp only); (repeat (first | rw [up_s] | rw [up_n (by omega)])) <;> first | rfl | assumption) (Or.inr rfl) ⟨fun q => by omega, fun q => rfl⟩
    · (try simp (disch := omega) only [i32_lti, i32_lei, i32_eqi, nI_toInt, i32z] at c_135)
      refine ev_iconst (pc := 138) (v := nI 1) dX5_walkAll_138 kc_1 ?_
      refine ev_goto (pc := 139) 143 dX5_walkAll_139 (by decide) ?_
      refine ev_zast (pc := 143) dX5_walkAll_143 (by (try dsimp only); (repeat (first | rw [up_s] | rw [up_n (by omega)])) <;> first | rfl | assumption) (nI_toInt (by omega)) (by simp only [List.length_map, List.length_set, List.length_replicate]; omega) rfl ?_
      first | rw [show (nI 0 &&& 1 : Int32) = nI 0 by decide, gs] | rw [show (nI 1 &&& 1 : Int32) = nI 1 by decide, gs]
      refine kk _ ⟨by intro y e; rw [up_n (by omega), up_n (by omega), up_n (by omega)]; exact (f3 y (by omega) (by omega)).trans ((f2 y (by omega) (by omega)).trans (f1 y e)), ⟨nI w.length, nI (nxtW B w), (by unfold pRO; (try dsimp only); (repeat (first | rw [up_s] | rw [up_n (by omega)])) <;> first | rfl | assumption)⟩, pRow.fr q1 (by rw [up_n (by omega), up_n (by omega), up_n (by omega)]; exact (f3 (r + 1) (by omega) (by omega)).trans (f2 (r + 1) (by omega) (by omega))), ?_, ⟨a3.fr (fun y e1 e2 => by rw [up_n (by omega), up_n (by omega), up_n (by omega)]), ⟨_, (by rw [up_n (by omega), up_n (by omega), up_n (by omega)]; exact w3'), rfl⟩, ⟨os, (by rw [up_n (by omega), up_n (by omega), up_n (by omega)]; exact (f3 (r + 10) (by omega) (by omega)).trans y1), y2, fun k hk => (nomatch hk)⟩⟩⟩
      first
        | exact pTab.step (x := 0) (by omega) hw s2 s4 s6 s7 s8 (by (try dsimp only); (repeat (first | rw [up_s] | rw [up_n (by omega)])) <;> first | rfl | assumption) (by (try dsimp only); (repeat (first | rw [up_s] | rw [up_n (by omega)])) <;> first | rfl | assumption) (fun k hk => by rw [Nat.zero_add]; exact wds_g3 hk) (by (try dsimp only); (repeat (first | rw [up_s] | rw [up_n (by omega)])) <;> first | rfl | assumption) (Or.inl rfl) ⟨fun q => absurd q (by decide), fun q => by omega⟩
        | exact pTab.step (x := 1) (by omega) hw s2 s4 s6 s7 s8 (by (try dsimp only); (repeat (first | rw [up_s] | rw [up_n (by omega)])) <;> first | rfl | assumption) (by (try dsimp only); (repeat (first | rw [up_s] | rw [up_n (by omega)])) <;> first | rfl | assumption) (fun k hk => by rw [Nat.zero_add]; exact wds_g3 hk) (by (try dsimp only); (repeat (first | rw [up_s] | rw [up_n (by omega)])) <;> first | rfl | assumption) (Or.inr rfl) ⟨fun q => by omega, fun q => rfl⟩
  have loop : ∀ (c i s : Nat) (h1 : Hp), i + c = (allW (bT B) (bT B)).length → s ≤ i → pAll2 h h1 r kn lb B i → Ev X (mi_X5_walkAll 4 0 0) (Qv (fun S' => S'.2 = z ∧ pAll2 h S'.1 r kn lb B (allW (bT B) (bT B)).length)) 0 0 (h1, z) 12 [.ref r, .ref b, .int (nI s), .int (nI i)] [] := by
    intro c
    induction c with
    | zero =>
      intro i s h1 hc hs P
      have e : i = (allW (bT B) (bT B)).length := by omega
      obtain ⟨f1, ⟨o1, x1, p1⟩, q1, t1, a1⟩ := id P
      unfold pRO at p1
      rw [e] at P
      refine ev_iload_n (pc := 12) dX5_walkAll_12 rfl ?_
      refine ev_aload_n (pc := 13) dX5_walkAll_13 rfl ?_
      refine gf_X5_128 (pc := 14) rfl dX5_walkAll_14 (by (try dsimp only); (repeat (first | rw [up_s] | rw [up_n (by omega)])) <;> first | rfl | assumption) ?_
      refine ev_icmp_ge (pc := 17) 150 dX5_walkAll_17 (by decide) (fun c_17 => ?_) (fun c_17 => ?_)
      · (try simp (disch := omega) only [i32_lti, i32_lei, i32_eqi, nI_toInt, i32z] at c_17)
        refine ev_ret (pc := 150) dX5_walkAll_150 rfl (Nat.le_of_ble_eq_true rfl) (Nat.le_of_ble_eq_true rfl) ?_
        exact ⟨rfl, rfl, P⟩
      · exfalso; (try simp (disch := omega) only [i32_lti, i32_lei, i32_eqi, nI_toInt, i32z] at c_17); omega
    | succ c ih =>
      intro i s h1 hc hs P
      obtain ⟨w, hw⟩ : ∃ w, (allW (bT B) (bT B))[i]? = some w := ⟨_, List.getElem?_eq_getElem (show i < (allW (bT B) (bT B)).length by omega)⟩
      have kk : ∀ s : Nat, s ≤ i → ∀ h2 : Hp, pAll2 h h2 r kn lb B (i + 1) → Ev X (mi_X5_walkAll 4 0 0) (Qv (fun S' => S'.2 = z ∧ pAll2 h S'.1 r kn lb B (allW (bT B) (bT B)).length)) 0 0 (h2, z) 144 [.ref r, .ref b, .int (nI s), .int (nI i)] [] := by
        intro s hs h2 P2
        refine ev_iinc (pc := 144) (L' := [_, _, _, _]) dX5_walkAll_144 rfl (nI_1 _) rfl ?_
        refine ev_goto (pc := 147) 12 dX5_walkAll_147 (by decide) ?_
        exact ih (i + 1) s h2 (by omega) (by omega) P2
      obtain ⟨f1, ⟨o1, x1, p1⟩, q1, t1, a1⟩ := id P
      have p1' := p1
      unfold pRO at p1'
      obtain ⟨rs, r1, r2, r3, r4⟩ := id q1
      obtain ⟨sv, ow, st, s1, s2, s3, s4, s5, s6, s7, s8⟩ := id t1
      have hg := (r4 i w hw).1
      have hwm := allW_mem (List.mem_of_getElem? hw)
      have hc6 := cod_lt6 (w := w) (fun t ht => by have := hwm.2.2 t ht; omega) (by omega)
      have search : ∀ (c2 s : Nat), s + c2 = i → Ev X (mi_X5_walkAll 4 0 0) (Qv (fun S' => S'.2 = z ∧ pAll2 h S'.1 r kn lb B (allW (bT B) (bT B)).length)) 0 0 (h1, z) 27 [.ref r, .ref b, .int (nI s), .int (nI i)] [] := by
        intro c2
        induction c2 with
        | zero =>
          intro s hsi
          have e : s = i := by omega
          subst e
          have hst : gN st s < 2 := by rcases s7 s with q | q <;> omega
          refine ev_iload_n (pc := 27) dX5_walkAll_27 rfl ?_
          refine ev_iload_n (pc := 28) dX5_walkAll_28 rfl ?_
          refine ev_icmp_ge (pc := 29) 56 dX5_walkAll_29 (by decide) (fun c_29 => ?_) (fun c_29 => ?_)
          · (try simp (disch := omega) only [i32_lti, i32_lei, i32_eqi, nI_toInt, i32z] at c_29)
            refine ev_aload_n (pc := 56) dX5_walkAll_56 rfl ?_
            refine gf_X5_23 (pc := 57) rfl dX5_walkAll_57 (by (try dsimp only); (repeat (first | rw [up_s] | rw [up_n (by omega)])) <;> first | rfl | assumption) ?_
            refine ev_iload_n (pc := 60) dX5_walkAll_60 rfl ?_
            refine ev_zald (pc := 61) dX5_walkAll_61 (by (try dsimp only); (repeat (first | rw [up_s] | rw [up_n (by omega)])) <;> first | rfl | assumption) (nI_toInt (by omega)) (gm (by omega)) ?_
            refine ev_if_eq (pc := 62) 79 dX5_walkAll_62 (by decide) (fun c_62 => ?_) (fun c_62 => ?_)
            · (try simp (disch := omega) only [i32_lti, i32_lei, i32_eqi, nI_toInt, i32z] at c_62)
              exact tail s s w h1 hw P (kk s (Nat.le_refl _))
            · (try simp (disch := omega) only [i32_lti, i32_lei, i32_eqi, nI_toInt, i32z] at c_62)
              refine ev_iload_n (pc := 65) dX5_walkAll_65 rfl ?_
              refine ev_iload_n (pc := 66) dX5_walkAll_66 rfl ?_
              refine ev_icmp_ge (pc := 67) 79 dX5_walkAll_67 (by decide) (fun c_67 => ?_) (fun c_67 => ?_)
              · (try simp (disch := omega) only [i32_lti, i32_lei, i32_eqi, nI_toInt, i32z] at c_67)
                exact tail s s w h1 hw P (kk s (Nat.le_refl _))
              · exfalso; (try simp (disch := omega) only [i32_lti, i32_lei, i32_eqi, nI_toInt, i32z] at c_67); omega
          · exfalso; (try simp (disch := omega) only [i32_lti, i32_lei, i32_eqi, nI_toInt, i32z] at c_29); omega
        | succ c2 ih2 =>
          intro s hsi
          obtain ⟨v, hv⟩ : ∃ v, (allW (bT B) (bT B))[s]? = some v := ⟨_, List.getElem?_eq_getElem (show s < (allW (bT B) (bT B)).length by omega)⟩
          have hvg := (r4 s v hv).1
          have hvm := allW_mem (List.mem_of_getElem? hv)
          have hv6 := cod_lt6 (w := v) (fun t ht => by have := hvm.2.2 t ht; omega) (by omega)
          have hst : gN st s < 2 := by rcases s7 s with q | q <;> omega
          obtain ⟨g1, g2, g3⟩ := s8 s v (by omega) hv
          have hok := walkW_ok b9 hm hvm.2.2 30 (startT B, 0) ⟨wT.start b9 hm, wF.start b9, Nat.zero_le _⟩ (by show 0 + 30 < 1000; omega)
          have hol : (outW B v).length ≤ 30 := hok.1
          have hext : gN st s = 1 → cod v = cod w / 10 → outW B w = outW B v ∧ nxtW B w < w.length := by
            intro e1 e2
            have e3 := g3.mp e1
            rcases List.eq_nil_or_concat w with e | ⟨w', t, e⟩
            · subst e
              have e4 : v = [] := cod_lt0 e2
              rw [e4] at e3
              exact absurd e3 (Nat.not_lt_zero _)
            · rw [List.concat_eq_append] at e
              subst e
              have ht := hwm.2.2 t (by simp)
              rw [cod_app] at e2
              have e5 : w' = v := cod_inj (fun x hx => by have := hwm.2.2 x (List.mem_append_left _ hx); omega) (fun x hx => by have := hvm.2.2 x hx; omega) (by omega)
              subst e5
              have e6 := walkW_ext (B := B) (w := w') (t := t) 30 (startT B, 0) e3
              constructor
              · unfold outW; rw [e6]
              · unfold nxtW
                rw [e6]
                have e7 : (walkW B w' 30 (startT B, 0)).2 < w'.length := e3
                simp
                omega
          refine ev_iload_n (pc := 27) dX5_walkAll_27 rfl ?_
          refine ev_iload_n (pc := 28) dX5_walkAll_28 rfl ?_
          refine ev_icmp_ge (pc := 29) 56 dX5_walkAll_29 (by decide) (fun c_29 => ?_) (fun c_29 => ?_)
          · exfalso; (try simp (disch := omega) only [i32_lti, i32_lei, i32_eqi, nI_toInt, i32z] at c_29); omega
          · (try simp (disch := omega) only [i32_lti, i32_lei, i32_eqi, nI_toInt, i32z] at c_29)
            refine ev_aload_n (pc := 32) dX5_walkAll_32 rfl ?_
            refine gf_X5_11 (pc := 33) rfl dX5_walkAll_33 (by (try dsimp only); (repeat (first | rw [up_s] | rw [up_n (by omega)])) <;> first | rfl | assumption) ?_
            refine ev_iload_n (pc := 36) dX5_walkAll_36 rfl ?_
            refine ev_iald (pc := 37) dX5_walkAll_37 (by (try dsimp only); (repeat (first | rw [up_s] | rw [up_n (by omega)])) <;> first | rfl | assumption) (nI_toInt (by omega)) (gm (by omega)) ?_
            rw [hvg]
            refine ev_aload_n (pc := 38) dX5_walkAll_38 rfl ?_
            refine gf_X5_11 (pc := 39) rfl dX5_walkAll_39 (by (try dsimp only); (repeat (first | rw [up_s] | rw [up_n (by omega)])) <;> first | rfl | assumption) ?_
            refine ev_iload_n (pc := 42) dX5_walkAll_42 rfl ?_
            refine ev_iald (pc := 43) dX5_walkAll_43 (by (try dsimp only); (repeat (first | rw [up_s] | rw [up_n (by omega)])) <;> first | rfl | assumption) (nI_toInt (by omega)) (gm (by omega)) ?_
            rw [hg]
            refine ev_bipush (pc := 44) (v := nI 10) dX5_walkAll_44 kb_10 ?_
            refine ev_idiv (pc := 46) dX5_walkAll_46 (by decide) ?_
            rw [pk_div (by omega) (by omega) (by omega)]
            refine ev_icmp_eq (pc := 47) 56 dX5_walkAll_47 (by decide) (fun c_47 => ?_) (fun c_47 => ?_)
            · (try simp (disch := omega) only [i32_lti, i32_lei, i32_eqi, nI_toInt, i32z] at c_47)
              refine ev_aload_n (pc := 56) dX5_walkAll_56 rfl ?_
              refine gf_X5_23 (pc := 57) rfl dX5_walkAll_57 (by (try dsimp only); (repeat (first | rw [up_s] | rw [up_n (by omega)])) <;> first | rfl | assumption) ?_
              refine ev_iload_n (pc := 60) dX5_walkAll_60 rfl ?_
              refine ev_zald (pc := 61) dX5_walkAll_61 (by (try dsimp only); (repeat (first | rw [up_s] | rw [up_n (by omega)])) <;> first | rfl | assumption) (nI_toInt (by omega)) (gm (by omega)) ?_
              refine ev_if_eq (pc := 62) 79 dX5_walkAll_62 (by decide) (fun c_62 => ?_) (fun c_62 => ?_)
              · (try simp (disch := omega) only [i32_lti, i32_lei, i32_eqi, nI_toInt, i32z] at c_62)
                exact tail i s w h1 hw P (kk s (by omega))
              · (try simp (disch := omega) only [i32_lti, i32_lei, i32_eqi, nI_toInt, i32z] at c_62)
                refine ev_iload_n (pc := 65) dX5_walkAll_65 rfl ?_
                refine ev_iload_n (pc := 66) dX5_walkAll_66 rfl ?_
                refine ev_icmp_ge (pc := 67) 79 dX5_walkAll_67 (by decide) (fun c_67 => ?_) (fun c_67 => ?_)
                · exfalso; (try simp (disch := omega) only [i32_lti, i32_lei, i32_eqi, nI_toInt, i32z] at c_67); omega
                · (try simp (disch := omega) only [i32_lti, i32_lei, i32_eqi, nI_toInt, i32z] at c_67)
                  refine ev_aload_n (pc := 70) dX5_walkAll_70 rfl ?_
                  refine ev_iload_n (pc := 71) dX5_walkAll_71 rfl ?_
                  refine ev_iload_n (pc := 72) dX5_walkAll_72 rfl ?_
                  refine iv_X5_131 (pc := 73) rfl dX5_walkAll_73 (by (try dsimp only); (repeat (first | rw [up_s] | rw [up_n (by omega)])) <;> first | rfl | assumption) (Nat.le_of_ble_eq_true rfl) (Nat.le_of_ble_eq_true rfl) (Nat.le_of_ble_eq_true rfl) (Nat.le_of_ble_eq_true rfl) (c_takeOver p1 s1 s2 s3 s4 s5 s6 (i := s) (j := i) (by omega) (by omega) (by omega)) (kv (fun S' hS => ?_))
                  obtain ⟨h2, z'⟩ := S'
                  obtain ⟨rfl, f2, y1, y2, y3⟩ := hS
                  refine ev_goto (pc := 76) 144 dX5_walkAll_76 (by decide) ?_
                  obtain ⟨e1, e2⟩ := hext (by omega) (by omega)
                  rw [g1, ← e1] at y1
                  exact kk s (by omega) h2 ⟨fun y e => (f2 y (by omega)).trans (f1 y e), ⟨o1, x1, (f2 r (by omega)).trans p1'⟩, pRow.fr q1 (f2 (r + 1) (by omega)), pTab.step (x := 1) (by omega) hw s2 s4 s6 s7 s8 y1 y2 (fun k hk => by rw [e1, Nat.mul_comm]; exact g2 k hk) y3 (Or.inr rfl) ⟨fun _ => e2, fun _ => rfl⟩, a1.fr (fun y e3 e4 => f2 y (by omega))⟩
            · (try simp (disch := omega) only [i32_lti, i32_lei, i32_eqi, nI_toInt, i32z] at c_47)
              refine ev_iinc (pc := 50) (L' := [_, _, _, _]) dX5_walkAll_50 rfl (nI_1 _) rfl ?_
              refine ev_goto (pc := 53) 27 dX5_walkAll_53 (by decide) ?_
              exact ih2 (s + 1) (by omega)
      refine ev_iload_n (pc := 12) dX5_walkAll_12 rfl ?_
      refine ev_aload_n (pc := 13) dX5_walkAll_13 rfl ?_
      refine gf_X5_128 (pc := 14) rfl dX5_walkAll_14 (by (try dsimp only); (repeat (first | rw [up_s] | rw [up_n (by omega)])) <;> first | rfl | assumption) ?_
      refine ev_icmp_ge (pc := 17) 150 dX5_walkAll_17 (by decide) (fun c_17 => ?_) (fun c_17 => ?_)
      · exfalso; (try simp (disch := omega) only [i32_lti, i32_lei, i32_eqi, nI_toInt, i32z] at c_17); omega
      · (try simp (disch := omega) only [i32_lti, i32_lei, i32_eqi, nI_toInt, i32z] at c_17)
        refine ev_iload_n (pc := 20) dX5_walkAll_20 rfl ?_
        refine ev_sipush (pc := 21) (v := nI 1957) dX5_walkAll_21 ks_1957 ?_
        refine ev_icmp_ge (pc := 24) 150 dX5_walkAll_24 (by decide) (fun c_24 => ?_) (fun c_24 => ?_)
        · exfalso; (try simp (disch := omega) only [i32_lti, i32_lei, i32_eqi, nI_toInt, i32z] at c_24); omega
        · (try simp (disch := omega) only [i32_lti, i32_lei, i32_eqi, nI_toInt, i32z] at c_24)
          exact search (i - s) s (by omega)
  refine ev_aload_n (pc := 0) dX5_walkAll_0 rfl ?_
  refine ev_aload_n (pc := 1) dX5_walkAll_1 rfl ?_
  refine gf_X5_122 (pc := 2) rfl dX5_walkAll_2 (by (try dsimp only); (repeat (first | rw [up_s] | rw [up_n (by omega)])) <;> first | rfl | assumption) ?_
  refine iv_X5_125 (pc := 5) rfl dX5_walkAll_5 (by (try dsimp only); (repeat (first | rw [up_s] | rw [up_n (by omega)])) <;> first | rfl | assumption) (Nat.le_of_ble_eq_true rfl) (Nat.le_of_ble_eq_true rfl) (Nat.le_of_ble_eq_true rfl) (Nat.le_of_ble_eq_true rfl) (c_list p pr b1) (kv (fun S' hS => ?_))
  obtain ⟨h2, z'⟩ := S'
  obtain ⟨rfl, f2, p2, q2⟩ := hS
  refine ev_iconst (pc := 8) (v := nI 0) dX5_walkAll_8 kc_0 ?_
  refine ev_istore_n (pc := 9) (L' := [_, _, _, _]) dX5_walkAll_9 (Nat.le_of_ble_eq_true rfl) rfl ?_
  refine ev_iconst (pc := 10) (v := nI 0) dX5_walkAll_10 kc_0 ?_
  refine ev_istore_n (pc := 11) (L' := [_, _, _, _]) dX5_walkAll_11 (Nat.le_of_ble_eq_true rfl) rfl ?_
  exact loop _ 0 0 h2 (Nat.zero_add _) (Nat.le_refl _) ⟨fun y e => f2 y (by omega), ⟨osz, nx, p2⟩, q2, (pt.fr (fun y e1 e2 => f2 y (by omega))).zero _ _, pa.fr (fun y e1 e2 => f2 y (by omega))⟩
end ALL
