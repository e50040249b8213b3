/-! ===== Rows: one row's outcome taken over; a row with each tale behind it ===== -/
theorem by_n : ∀ v, v < 128 → (nI v).toInt8.toInt32 = nI v := by decide +kernel
theorem by_y {v : Nat} (h : v < 128) : narrow .byte (.int (nI v)) = .int (nI v) := by
  show Value.int ((nI v).toInt8.toInt32) = _
  rw [by_n v h]
theorem cp_lN {xs ys : List Nat} {sp dp n : Nat} : am_cp 0 (xs.map lN) (ys.map lN) sp dp n = (am_cp 0 xs ys sp dp n).map lN := by
  unfold am_cp
  rw [List.map_map, List.length_map]
  apply List.map_congr_left
  intro j _
  have e : ∀ (l : List Nat) (k : Nat), (l.map lN).getD k 0 = lN (l.getD k 0) := fun l k => by
    rw [List.getD_eq_getElem?_getD, List.getD_eq_getElem?_getD, List.getElem?_map]
    cases l[k]? <;> rfl
  show _ = lN (if _ then _ else _)
  rw [e, e]
  split <;> rfl
theorem gN_cp {xs ys : List Nat} {sp dp n j : Nat} (h : j < ys.length) : gN (am_cp 0 xs ys sp dp n) j = if dp ≤ j ∧ j < dp + n then gN xs (sp + (j - dp)) else gN ys j := by
  rw [gN, List.getD_eq_getElem?_getD, am_cp_get h]
  rfl
/-- a row with each tale below t behind it that it has not -/
def extT (w : List Nat) : Nat → List (List Nat)
  | 0 => []
  | t + 1 => if t ∈ w then extT w t else extT w t ++ [w ++ [t]]
theorem extT_le (w : List Nat) {t u : Nat} (h : t ≤ u) : (extT w t).length ≤ (extT w u).length := by
  induction u with
  | zero => rw [show t = 0 by omega]; exact Nat.le_refl _
  | succ u ih =>
    rcases Nat.lt_or_ge t (u + 1) with h1 | h1
    · refine Nat.le_trans (ih (by omega)) ?_
      simp only [extT]
      split <;> simp
    · rw [show t = u + 1 by omega]; exact Nat.le_refl _
section LIST
variable {X : Cx} {h : Hp} {z r size full k b m a n : Nat} {kn : Bool} {lb osz nx : Int32} {B : Bk} {W : List (List Nat)} {w : List Nat}
theorem c_takeOver {i j : Nat} {sv ow st : List Nat} (p : pRO h r size full kn lb osz nx) (h1 : h (r + 2) = some (.inr (1, .inl (sv.map nI)))) (l1 : sv.length = 1957) (h2 : h (r + 3) = some (.inr (3, .inr (.inl (ow.map lN))))) (l2 : ow.length = 5871) (h3 : h (r + 4) = some (.inr (2, .inl (st.map nI)))) (l3 : st.length = 1957) (hi : i < 1957) (hj : j < 1957) (hs : gN sv i < 128) : Ct X 1 mt_X5_takeOver [.ref r, .int (nI i), .int (nI j)] (h, z) 0 0 (Qv (fun S' => S'.2 = z ∧ hfr h S'.1 (r + 2) 3 ∧ S'.1 (r + 2) = some (.inr (1, .inl ((sv.set j (gN sv i)).map nI))) ∧ S'.1 (r + 3) = some (.inr (3, .inr (.inl ((am_cp 0 ow ow (i * 3) (j * 3) 3).map lN)))) ∧ S'.1 (r + 4) = some (.inr (2, .inl ((st.set j 1).map nI))))) := by
  unfold pRO at p
  refine mk_X5_takeOver (Nat.le_of_ble_eq_true rfl) (L := [.ref r, .int (nI i), .int (nI j)]) rfl ?_
  refine ev_aload_n (pc := 0) dX5_takeOver_0 rfl ?_
  refine gf_X5_15 (pc := 1) rfl dX5_takeOver_1 (by (try dsimp only); (repeat (first | rw [up_s] | rw [up_n (by omega)])) <;> first | rfl | assumption) ?_
  refine ev_iload_n (pc := 4) dX5_takeOver_4 rfl ?_
  refine ev_aload_n (pc := 5) dX5_takeOver_5 rfl ?_
  refine gf_X5_15 (pc := 6) rfl dX5_takeOver_6 (by (try dsimp only); (repeat (first | rw [up_s] | rw [up_n (by omega)])) <;> first | rfl | assumption) ?_
  refine ev_iload_n (pc := 9) dX5_takeOver_9 rfl ?_
  refine ev_bald (pc := 10) dX5_takeOver_10 (by (try dsimp only); (repeat (first | rw [up_s] | rw [up_n (by omega)])) <;> first | rfl | assumption) (nI_toInt (by omega)) (gm (by omega)) ?_
  refine ev_bast (pc := 11) dX5_takeOver_11 (by (try dsimp only); (repeat (first | rw [up_s] | rw [up_n (by omega)])) <;> first | rfl | assumption) (nI_toInt (by omega)) (by simp only [List.length_map, List.length_set, List.length_replicate]; omega) (by_y hs) ?_
  rw [gs]
  refine ev_aload_n (pc := 12) dX5_takeOver_12 rfl ?_
  refine gf_X5_19 (pc := 13) rfl dX5_takeOver_13 (by (try dsimp only); (repeat (first | rw [up_s] | rw [up_n (by omega)])) <;> first | rfl | assumption) ?_
  refine ev_iload_n (pc := 16) dX5_takeOver_16 rfl ?_
  refine ev_iconst (pc := 17) (v := nI 3) dX5_takeOver_17 kc_3 ?_
  refine ev_imul (pc := 18) dX5_takeOver_18 ?_
  rw [pk_mul]
  refine ev_aload_n (pc := 19) dX5_takeOver_19 rfl ?_
  refine gf_X5_19 (pc := 20) rfl dX5_takeOver_20 (by (try dsimp only); (repeat (first | rw [up_s] | rw [up_n (by omega)])) <;> first | rfl | assumption) ?_
  refine ev_iload_n (pc := 23) dX5_takeOver_23 rfl ?_
  refine ev_iconst (pc := 24) (v := nI 3) dX5_takeOver_24 kc_3 ?_
  refine ev_imul (pc := 25) dX5_takeOver_25 ?_
  rw [pk_mul]
  refine ev_iconst (pc := 26) (v := nI 3) dX5_takeOver_26 kc_3 ?_
  refine ev_copyl (pc := 27) dX5_takeOver_27 tw_653 (Nat.le_of_ble_eq_true rfl) (Nat.le_of_ble_eq_true rfl) (by (try dsimp only); (repeat (first | rw [up_s] | rw [up_n (by omega)])) <;> first | rfl | assumption) (by (try dsimp only); (repeat (first | rw [up_s] | rw [up_n (by omega)])) <;> first | rfl | assumption) (nI_toInt (by omega)) (nI_toInt (by omega)) (nI_toInt (by omega)) (by simp only [List.length_map]; omega) (by simp only [List.length_map]; omega) ?_
  rw [cp_lN]
  refine ev_aload_n (pc := 30) dX5_takeOver_30 rfl ?_
  refine gf_X5_23 (pc := 31) rfl dX5_takeOver_31 (by (try dsimp only); (repeat (first | rw [up_s] | rw [up_n (by omega)])) <;> first | rfl | assumption) ?_
  refine ev_iload_n (pc := 34) dX5_takeOver_34 rfl ?_
  refine ev_iconst (pc := 35) (v := nI 1) dX5_takeOver_35 kc_1 ?_
  refine ev_zast (pc := 36) dX5_takeOver_36 (by (try dsimp only); (repeat (first | rw [up_s] | rw [up_n (by omega)])) <;> first | rfl | assumption) (nI_toInt (by omega)) (by simp only [List.length_map, List.length_set, List.length_replicate]; omega) (b2i_z true) ?_
  rw [b2i_t, gs]
  refine ev_ret (pc := 37) dX5_takeOver_37 rfl (Nat.le_of_ble_eq_true rfl) (Nat.le_of_ble_eq_true rfl) ?_
  exact ⟨rfl, rfl, (by intro q hq; first | rfl | ((try dsimp only); (repeat (first | rw [up_n (by omega)])))), (by (try dsimp only); (repeat (first | rw [up_s] | rw [up_n (by omega)])) <;> first | rfl | assumption), (by (try dsimp only); (repeat (first | rw [up_s] | rw [up_n (by omega)])) <;> first | rfl | assumption), (by (try dsimp only); (repeat (first | rw [up_s] | rw [up_n (by omega)])) <;> first | rfl | assumption)⟩
theorem c_listLonger (p : pRO h r W.length full kn lb osz nx) (q : pRow h r W) (hn : n ≤ 6) (hw : ∀ t ∈ w, t < 6) (hl : w.length < 6) (hs : (W ++ extT w n).length ≤ 1957) : Ct X 2 mt_X5_listLonger [.ref r, .int (nI (cod w)), .int (nI n)] (h, z) 0 0 (Qv (fun S' => S'.2 = z ∧ hfr h S'.1 r 2 ∧ pRO S'.1 r (W ++ extT w n).length full kn lb osz nx ∧ pRow S'.1 r (W ++ extT w n))) := by
  refine mk_X5_listLonger (Nat.le_of_ble_eq_true rfl) (L := [.ref r, .int (nI (cod w)), .int (nI n), .retAddr 0, .retAddr 0]) rfl ?_
  have h64 := mk_lt hw
  have loop : ∀ (c t : Nat) (h1 : Hp), t + c = n → hfr h h1 r 2 → pRO h1 r (W ++ extT w t).length full kn lb osz nx → pRow h1 r (W ++ extT w t) → Ev X (mi_X5_listLonger 2 0 0) (Qv (fun S' => S'.2 = z ∧ hfr h S'.1 r 2 ∧ pRO S'.1 r (W ++ extT w n).length full kn lb osz nx ∧ pRow S'.1 r (W ++ extT w n))) 0 0 (h1, z) 8 [.ref r, .int (nI (cod w)), .int (nI n), .int (nI (mk w)), .int (nI t)] [] := by
    intro c
    induction c with
    | zero =>
      intro t h1 ht f1 p1 q1
      have e : t = n := by omega
      subst e
      refine ev_iload (pc := 8) dX5_listLonger_8 rfl ?_
      refine ev_iload_n (pc := 10) dX5_listLonger_10 rfl ?_
      refine ev_icmp_ge (pc := 11) 81 dX5_listLonger_11 (by decide) (fun c_11 => ?_) (fun c_11 => ?_)
      · (try simp (disch := omega) only [i32_lti, i32_lei, i32_eqi, nI_toInt, i32z] at c_11)
        refine ev_ret (pc := 81) dX5_listLonger_81 rfl (Nat.le_of_ble_eq_true rfl) (Nat.le_of_ble_eq_true rfl) ?_
        exact ⟨rfl, rfl, f1, p1, q1⟩
      · exfalso; (try simp (disch := omega) only [i32_lti, i32_lei, i32_eqi, nI_toInt, i32z] at c_11); omega
    | succ c ih =>
      intro t h1 ht f1 p1 q1
      have p1' := p1
      unfold pRO at p1'
      have hle := extT_le w (show t + 1 ≤ n by omega)
      have es : extT w (t + 1) = if t ∈ w then extT w t else extT w t ++ [w ++ [t]] := rfl
      have hcl := cod_lt6 hw (by omega)
      by_cases hm : t ∈ w
      · rw [if_pos hm] at es
        have hb : (mk w).testBit t = true := by rw [mk_bit]; exact decide_eq_true hm
        refine ev_iload (pc := 8) dX5_listLonger_8 rfl ?_
        refine ev_iload_n (pc := 10) dX5_listLonger_10 rfl ?_
        refine ev_icmp_ge (pc := 11) 81 dX5_listLonger_11 (by decide) (fun c_11 => ?_) (fun c_11 => ?_)
        · exfalso; (try simp (disch := omega) only [i32_lti, i32_lei, i32_eqi, nI_toInt, i32z] at c_11); omega
        · (try simp (disch := omega) only [i32_lti, i32_lei, i32_eqi, nI_toInt, i32z] at c_11)
          refine ev_iload (pc := 14) dX5_listLonger_14 rfl ?_
          refine ev_bipush (pc := 16) (v := nI 6) dX5_listLonger_16 kb_6 ?_
          refine ev_icmp_ge (pc := 18) 81 dX5_listLonger_18 (by decide) (fun c_18 => ?_) (fun c_18 => ?_)
          · exfalso; (try simp (disch := omega) only [i32_lti, i32_lei, i32_eqi, nI_toInt, i32z] at c_18); omega
          · (try simp (disch := omega) only [i32_lti, i32_lei, i32_eqi, nI_toInt, i32z] at c_18)
            refine ev_iload_n (pc := 21) dX5_listLonger_21 rfl ?_
            refine ev_iload (pc := 22) dX5_listLonger_22 rfl ?_
            refine ev_ishr (pc := 24) dX5_listLonger_24 ?_
            refine ev_iconst (pc := 25) (v := nI 1) dX5_listLonger_25 kc_1 ?_
            refine ev_iand (pc := 26) dX5_listLonger_26 ?_
            rw [bt_tst _ h64 _ (by omega), hb, b2i_t]
            refine ev_if_ne (pc := 27) 75 dX5_listLonger_27 (by decide) (fun c_27 => ?_) (fun c_27 => ?_)
            · (try simp (disch := omega) only [i32_lti, i32_lei, i32_eqi, nI_toInt, i32z] at c_27)
              refine ev_iinc (pc := 75) (L' := [_, _, _, _, _]) dX5_listLonger_75 rfl (nI_1 _) rfl ?_
              refine ev_goto (pc := 78) 8 dX5_listLonger_78 (by decide) ?_
              exact ih (t + 1) h1 (by omega) f1 (by rw [es]; exact p1) (by rw [es]; exact q1)
            · exfalso; (try simp (disch := omega) only [i32_lti, i32_lei, i32_eqi, nI_toInt, i32z] at c_27); omega
      · rw [if_neg hm] at es
        rw [es, List.length_append] at hle
        rw [List.length_append] at hs
        have e1 : (W ++ extT w t).length = W.length + (extT w t).length := List.length_append
        have hz : (W ++ extT w t).length < 1957 := by simp at hle; omega
        have hb : (mk w).testBit t = false := by rw [mk_bit]; exact decide_eq_false hm
        obtain ⟨rs, r1, r2, r3, r4⟩ := q1
        have hco := cod_app w t
        have hco6 := cod_lt6 (w := w ++ [t]) (fun x hx => by
          rcases List.mem_append.mp hx with e | e
          · exact hw x e
          · rw [List.mem_singleton.mp e]; omega) (by simp; omega)
        refine ev_iload (pc := 8) dX5_listLonger_8 rfl ?_
        refine ev_iload_n (pc := 10) dX5_listLonger_10 rfl ?_
        refine ev_icmp_ge (pc := 11) 81 dX5_listLonger_11 (by decide) (fun c_11 => ?_) (fun c_11 => ?_)
        · exfalso; (try simp (disch := omega) only [i32_lti, i32_lei, i32_eqi, nI_toInt, i32z] at c_11); omega
        · (try simp (disch := omega) only [i32_lti, i32_lei, i32_eqi, nI_toInt, i32z] at c_11)
          refine ev_iload (pc := 14) dX5_listLonger_14 rfl ?_
          refine ev_bipush (pc := 16) (v := nI 6) dX5_listLonger_16 kb_6 ?_
          refine ev_icmp_ge (pc := 18) 81 dX5_listLonger_18 (by decide) (fun c_18 => ?_) (fun c_18 => ?_)
          · exfalso; (try simp (disch := omega) only [i32_lti, i32_lei, i32_eqi, nI_toInt, i32z] at c_18); omega
          · (try simp (disch := omega) only [i32_lti, i32_lei, i32_eqi, nI_toInt, i32z] at c_18)
            refine ev_iload_n (pc := 21) dX5_listLonger_21 rfl ?_
            refine ev_iload (pc := 22) dX5_listLonger_22 rfl ?_
            refine ev_ishr (pc := 24) dX5_listLonger_24 ?_
            refine ev_iconst (pc := 25) (v := nI 1) dX5_listLonger_25 kc_1 ?_
            refine ev_iand (pc := 26) dX5_listLonger_26 ?_
            rw [bt_tst _ h64 _ (by omega), hb, b2i_f]
            refine ev_if_ne (pc := 27) 75 dX5_listLonger_27 (by decide) (fun c_27 => ?_) (fun c_27 => ?_)
            · exact absurd rfl c_27
            · (try simp (disch := omega) only [i32_lti, i32_lei, i32_eqi, nI_toInt, i32z] at c_27)
              refine ev_aload_n (pc := 30) dX5_listLonger_30 rfl ?_
              refine gf_X5_128 (pc := 31) rfl dX5_listLonger_31 (by (try dsimp only); (repeat (first | rw [up_s] | rw [up_n (by omega)])) <;> first | rfl | assumption) ?_
              refine ev_if_lt (pc := 34) 75 dX5_listLonger_34 (by decide) (fun c_34 => ?_) (fun c_34 => ?_)
              · exfalso; (try simp (disch := omega) only [i32_lti, i32_lei, i32_eqi, nI_toInt, i32z] at c_34); omega
              · (try simp (disch := omega) only [i32_lti, i32_lei, i32_eqi, nI_toInt, i32z] at c_34)
                refine ev_aload_n (pc := 37) dX5_listLonger_37 rfl ?_
                refine gf_X5_128 (pc := 38) rfl dX5_listLonger_38 (by (try dsimp only); (repeat (first | rw [up_s] | rw [up_n (by omega)])) <;> first | rfl | assumption) ?_
                refine ev_sipush (pc := 41) (v := nI 1957) dX5_listLonger_41 ks_1957 ?_
                refine ev_icmp_ge (pc := 44) 75 dX5_listLonger_44 (by decide) (fun c_44 => ?_) (fun c_44 => ?_)
                · exfalso; (try simp (disch := omega) only [i32_lti, i32_lei, i32_eqi, nI_toInt, i32z] at c_44); omega
                · (try simp (disch := omega) only [i32_lti, i32_lei, i32_eqi, nI_toInt, i32z] at c_44)
                  refine ev_aload_n (pc := 47) dX5_listLonger_47 rfl ?_
                  refine gf_X5_11 (pc := 48) rfl dX5_listLonger_48 (by (try dsimp only); (repeat (first | rw [up_s] | rw [up_n (by omega)])) <;> first | rfl | assumption) ?_
                  refine ev_aload_n (pc := 51) dX5_listLonger_51 rfl ?_
                  refine gf_X5_128 (pc := 52) rfl dX5_listLonger_52 (by (try dsimp only); (repeat (first | rw [up_s] | rw [up_n (by omega)])) <;> first | rfl | assumption) ?_
                  refine ev_iload_n (pc := 55) dX5_listLonger_55 rfl ?_
                  refine ev_bipush (pc := 56) (v := nI 10) dX5_listLonger_56 kb_10 ?_
                  refine ev_imul (pc := 58) dX5_listLonger_58 ?_
                  rw [pk_mul]
                  refine ev_iload (pc := 59) dX5_listLonger_59 rfl ?_
                  refine ev_iadd (pc := 61) dX5_listLonger_61 ?_
                  rw [nI_add]
                  refine ev_iconst (pc := 62) (v := nI 1) dX5_listLonger_62 kc_1 ?_
                  refine ev_iadd (pc := 63) dX5_listLonger_63 ?_
                  rw [nI_add, ← hco]
                  refine ev_iast (pc := 64) dX5_listLonger_64 (by (try dsimp only); (repeat (first | rw [up_s] | rw [up_n (by omega)])) <;> first | rfl | assumption) (nI_toInt (by omega)) (by simp only [List.length_map, List.length_set, List.length_replicate, List.length_cons, List.length_nil]; omega) ?_
                  (try rw [gs])
                  refine ev_aload_n (pc := 65) dX5_listLonger_65 rfl ?_
                  refine ev_dup (pc := 66) dX5_listLonger_66 rfl ?_
                  refine gf_X5_128 (pc := 67) rfl dX5_listLonger_67 (by (try dsimp only); (repeat (first | rw [up_s] | rw [up_n (by omega)])) <;> first | rfl | assumption) ?_
                  refine ev_iconst (pc := 70) (v := nI 1) dX5_listLonger_70 kc_1 ?_
                  refine ev_iadd (pc := 71) dX5_listLonger_71 ?_
                  rw [nI_add]
                  refine pf_X5_128 (pc := 72) rfl dX5_listLonger_72 (by (try dsimp only); (repeat (first | rw [up_s] | rw [up_n (by omega)])) <;> first | rfl | assumption) ?_
                  refine ev_iinc (pc := 75) (L' := [_, _, _, _, _]) dX5_listLonger_75 rfl (nI_1 _) rfl ?_
                  refine ev_goto (pc := 78) 8 dX5_listLonger_78 (by decide) ?_
                  refine ih (t + 1) _ (by omega) (by intro y e2; rw [up_n (by omega), up_n (by omega)]; exact f1 y e2) (by rw [es, ← List.append_assoc, List.length_append (as := W ++ extT w t)]; unfold pRO; rw [up_s]; rfl) ?_
                  rw [es, ← List.append_assoc]
                  refine ⟨rs.set (W ++ extT w t).length (cod (w ++ [t])), (by (try dsimp only); (repeat (first | rw [up_s] | rw [up_n (by omega)])) <;> first | rfl | assumption), (List.length_set ..).trans r2, by rw [List.length_append (as := W ++ extT w t)]; simp; omega, ?_⟩
                  intro i v hv
                  rw [gN_set (by omega)]
                  rcases Nat.lt_or_ge i (W ++ extT w t).length with hi | hi
                  · rw [if_neg (by omega)]
                    rw [List.getElem?_append_left hi] at hv
                    exact r4 i v hv
                  · rw [List.getElem?_append_right hi] at hv
                    have hi2 : i = (W ++ extT w t).length := by
                      have := (List.getElem?_eq_some_iff.mp hv).1
                      simp at this
                      simp
                      simp at hi
                      omega
                    subst hi2
                    rw [Nat.sub_self] at hv
                    cases hv
                    rw [if_pos rfl]
                    exact ⟨rfl, fun x hx => by
                      rcases List.mem_append.mp hx with e | e
                      · exact hw x e
                      · rw [List.mem_singleton.mp e]; omega, by simp; omega⟩
  refine ev_iload_n (pc := 0) dX5_listLonger_0 rfl ?_
  refine iv_X5_155 (pc := 1) rfl dX5_listLonger_1 (Nat.le_of_ble_eq_true rfl) (Nat.le_of_ble_eq_true rfl) (Nat.le_of_ble_eq_true rfl) (Nat.le_of_ble_eq_true rfl) (c_bitsOf hw (by omega)) (kp ?_)
  refine ev_istore_n (pc := 4) (L' := [_, _, _, _, _]) dX5_listLonger_4 (Nat.le_of_ble_eq_true rfl) rfl ?_
  refine ev_iconst (pc := 5) (v := nI 0) dX5_listLonger_5 kc_0 ?_
  refine ev_istore (pc := 6) (L' := [_, _, _, _, _]) dX5_listLonger_6 (Nat.le_of_ble_eq_true rfl) rfl ?_
  exact loop n 0 h (by omega) (hfr.rf _ _ _) (by rw [show extT w 0 = [] from rfl, List.append_nil]; exact p) (by rw [show extT w 0 = [] from rfl, List.append_nil]; exact q)
end LIST
