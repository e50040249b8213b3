/-! ===== DawnTales: its own object; isAsHeard ===== -/
/-- DawnTales' own object at d: text d+1, book d+3, draft d+7, stand d+11, images d+57, rows d+58, heardDawn d+73, heardOpen d+74, kinds d+75 -/
def pDO (h : Hp) (d : Nat) (kept cnt : Int32) : Prop := h d = some (.inl (11, [.ref (d + 1), .ref (d + 3), .ref (d + 7), .ref (d + 11), .ref (d + 57), .int kept, .ref (d + 58), .ref (d + 73), .ref (d + 74), .int cnt, .ref (d + 75)]))
def asH (ms wn op : List Nat) : Nat → Nat → Bool
  | 0, _ => true
  | n + 1, k => if gN wn k ≤ ms.length ∧ popN (gN ms (gN wn k - 1)) = gN op k then asH ms wn op n (k + 1) else false
def pHeard (h : Hp) (d : Nat) (wn op : List Nat) (n : Nat) : Prop := h (d + 73) = some (.inr (0, .inl (wn.map nI))) ∧ wn.length = 6 ∧ h (d + 74) = some (.inr (0, .inl (op.map nI))) ∧ op.length = 6 ∧ n ≤ 6 ∧ ∀ k : Nat, k < n → 1 ≤ gN wn k ∧ gN wn k ≤ 30 ∧ gN op k ≤ 6
section HEARD
variable {X : Cx} {h : Hp} {z d size full i n : Nat} {kn : Bool} {lb osz nx kept : Int32} {W : List (List Nat)} {O : List Nat → List Nat} {wn op : List Nat}
theorem c_isAsHeard (pd : pDO h d kept (nI n)) (ph : pHeard h d wn op n) (p : pRO h (d + 58) size full kn lb osz nx) (q : pOut h (d + 58) W O) (hi : i < W.length) (h19 : i < 1957) : Ct X 2 mt_X11_isAsHeard [.ref d, .int (nI i)] (h, z) 0 0 (QP (.int (b2i (asH (O (gW W i)) wn op n 0))) (h, z)) := by
  obtain ⟨a1, l1, a2, l2, hn6, ho⟩ := ph
  have o1 := (q.ok hi).1
  have o2 := (q.ok hi).2
  unfold pDO at pd
  have p' := p
  unfold pRO at p'
  refine mk_X11_isAsHeard (Nat.le_of_ble_eq_true rfl) (L := [.ref d, .int (nI i), .retAddr 0, .retAddr 0]) rfl ?_
  have loop : ∀ (c k : Nat) (x : Value), k + c = n → Ev X (mi_X11_isAsHeard 2 0 0) (QP (.int (b2i (asH (O (gW W i)) wn op c k))) (h, z)) 0 0 (h, z) 2 [.ref d, .int (nI i), .int (nI k), x] [] := by
    intro c
    induction c with
    | zero =>
      intro k x hk
      refine ev_iload_n (pc := 2) dX11_isAsHeard_2 rfl ?_
      refine ev_aload_n (pc := 3) dX11_isAsHeard_3 rfl ?_
      refine gf_X11_244 (pc := 4) rfl dX11_isAsHeard_4 (by (try dsimp only); (repeat (first | rw [up_s] | rw [up_n (by omega)])) <;> first | rfl | assumption) ?_
      refine ev_icmp_ge (pc := 7) 64 dX11_isAsHeard_7 (by decide) (fun c_7 => ?_) (fun c_7 => ?_)
      · (try simp (disch := omega) only [i32_lti, i32_lei, i32_eqi, nI_toInt, i32z] at c_7)
        refine ev_iconst (pc := 64) (v := nI 1) dX11_isAsHeard_64 kc_1 ?_
        refine ev_iret (pc := 65) dX11_isAsHeard_65 rfl rfl (Nat.le_of_ble_eq_true rfl) (Nat.le_of_ble_eq_true rfl) ?_
        exact ⟨rfl, rfl⟩
      · exfalso; (try simp (disch := omega) only [i32_lti, i32_lei, i32_eqi, nI_toInt, i32z] at c_7); omega
    | succ c ih =>
      intro k x hk
      obtain ⟨g1, g2, g3⟩ := ho k (by omega)
      have h64 : gN (O (gW W i)) (gN wn k - 1) < 64 := gN_lt o2 (by omega) _
      have h6 := popN_le (gN (O (gW W i)) (gN wn k - 1))
      have es : asH (O (gW W i)) wn op (c + 1) k = if gN wn k ≤ (O (gW W i)).length ∧ popN (gN (O (gW W i)) (gN wn k - 1)) = gN op k then asH (O (gW W i)) wn op c (k + 1) else false := rfl
      rw [es]
      refine ev_iload_n (pc := 2) dX11_isAsHeard_2 rfl ?_
      refine ev_aload_n (pc := 3) dX11_isAsHeard_3 rfl ?_
      refine gf_X11_244 (pc := 4) rfl dX11_isAsHeard_4 (by (try dsimp only); (repeat (first | rw [up_s] | rw [up_n (by omega)])) <;> first | rfl | assumption) ?_
      refine ev_icmp_ge (pc := 7) 64 dX11_isAsHeard_7 (by decide) (fun c_7 => ?_) (fun c_7 => ?_)
      · exfalso; (try simp (disch := omega) only [i32_lti, i32_lei, i32_eqi, nI_toInt, i32z] at c_7); omega
      · (try simp (disch := omega) only [i32_lti, i32_lei, i32_eqi, nI_toInt, i32z] at c_7)
        refine ev_iload_n (pc := 10) dX11_isAsHeard_10 rfl ?_
        refine ev_bipush (pc := 11) (v := nI 6) dX11_isAsHeard_11 kb_6 ?_
        refine ev_icmp_ge (pc := 13) 64 dX11_isAsHeard_13 (by decide) (fun c_13 => ?_) (fun c_13 => ?_)
        · exfalso; (try simp (disch := omega) only [i32_lti, i32_lei, i32_eqi, nI_toInt, i32z] at c_13); omega
        · (try simp (disch := omega) only [i32_lti, i32_lei, i32_eqi, nI_toInt, i32z] at c_13)
          refine ev_aload_n (pc := 16) dX11_isAsHeard_16 rfl ?_
          refine gf_X11_44 (pc := 17) rfl dX11_isAsHeard_17 (by (try dsimp only); (repeat (first | rw [up_s] | rw [up_n (by omega)])) <;> first | rfl | assumption) ?_
          refine ev_iload_n (pc := 20) dX11_isAsHeard_20 rfl ?_
          refine ev_iald (pc := 21) dX11_isAsHeard_21 (by (try dsimp only); (repeat (first | rw [up_s] | rw [up_n (by omega)])) <;> first | rfl | assumption) (nI_toInt (by omega)) (gm (by omega)) ?_
          refine ev_istore_n (pc := 22) (L' := [_, _, _, _]) dX11_isAsHeard_22 (Nat.le_of_ble_eq_true rfl) rfl ?_
          refine ev_aload_n (pc := 23) dX11_isAsHeard_23 rfl ?_
          refine gf_X11_40 (pc := 24) rfl dX11_isAsHeard_24 (by (try dsimp only); (repeat (first | rw [up_s] | rw [up_n (by omega)])) <;> first | rfl | assumption) ?_
          refine ev_iload_n (pc := 27) dX11_isAsHeard_27 rfl ?_
          refine iv_X11_213 (pc := 28) rfl dX11_isAsHeard_28 (by (try dsimp only); (repeat (first | rw [up_s] | rw [up_n (by omega)])) <;> first | rfl | assumption) (Nat.le_of_ble_eq_true rfl) (Nat.le_of_ble_eq_true rfl) (Nat.le_of_ble_eq_true rfl) (Nat.le_of_ble_eq_true rfl) (c_savedBy p q (gW_get hi) h19) (kp ?_)
          refine ev_iload_n (pc := 31) dX11_isAsHeard_31 rfl ?_
          refine ev_icmp_lt (pc := 32) 56 dX11_isAsHeard_32 (by decide) (fun c_32 => ?_) (fun c_32 => ?_)
          · (try simp (disch := omega) only [i32_lti, i32_lei, i32_eqi, nI_toInt, i32z] at c_32)
            refine ev_iconst (pc := 56) (v := nI 0) dX11_isAsHeard_56 kc_0 ?_
            refine ev_iret (pc := 57) dX11_isAsHeard_57 rfl rfl (Nat.le_of_ble_eq_true rfl) (Nat.le_of_ble_eq_true rfl) ?_
            rw [if_neg (by omega)]; exact ⟨rfl, rfl⟩
          · (try simp (disch := omega) only [i32_lti, i32_lei, i32_eqi, nI_toInt, i32z] at c_32)
            refine ev_aload_n (pc := 35) dX11_isAsHeard_35 rfl ?_
            refine gf_X11_40 (pc := 36) rfl dX11_isAsHeard_36 (by (try dsimp only); (repeat (first | rw [up_s] | rw [up_n (by omega)])) <;> first | rfl | assumption) ?_
            refine ev_iload_n (pc := 39) dX11_isAsHeard_39 rfl ?_
            refine ev_iload_n (pc := 40) dX11_isAsHeard_40 rfl ?_
            refine iv_X11_256 (pc := 41) rfl dX11_isAsHeard_41 (by (try dsimp only); (repeat (first | rw [up_s] | rw [up_n (by omega)])) <;> first | rfl | assumption) (Nat.le_of_ble_eq_true rfl) (Nat.le_of_ble_eq_true rfl) (Nat.le_of_ble_eq_true rfl) (Nat.le_of_ble_eq_true rfl) (c_rOpenAt p q (gW_get hi) h19 g1 g2) (kp ?_)
            refine iv_X11_302 (pc := 44) rfl dX11_isAsHeard_44 (Nat.le_of_ble_eq_true rfl) (Nat.le_of_ble_eq_true rfl) (Nat.le_of_ble_eq_true rfl) (Nat.le_of_ble_eq_true rfl) (c_bitCountN h64) (kp ?_)
            refine ev_aload_n (pc := 47) dX11_isAsHeard_47 rfl ?_
            refine gf_X11_48 (pc := 48) rfl dX11_isAsHeard_48 (by (try dsimp only); (repeat (first | rw [up_s] | rw [up_n (by omega)])) <;> first | rfl | assumption) ?_
            refine ev_iload_n (pc := 51) dX11_isAsHeard_51 rfl ?_
            refine ev_iald (pc := 52) dX11_isAsHeard_52 (by (try dsimp only); (repeat (first | rw [up_s] | rw [up_n (by omega)])) <;> first | rfl | assumption) (nI_toInt (by omega)) (gm (by omega)) ?_
            refine ev_icmp_eq (pc := 53) 58 dX11_isAsHeard_53 (by decide) (fun c_53 => ?_) (fun c_53 => ?_)
            · (try simp (disch := omega) only [i32_lti, i32_lei, i32_eqi, nI_toInt, i32z] at c_53)
              refine ev_iinc (pc := 58) (L' := [_, _, _, _]) dX11_isAsHeard_58 rfl (nI_1 _) rfl ?_
              refine ev_goto (pc := 61) 2 dX11_isAsHeard_61 (by decide) ?_
              rw [if_pos ⟨by omega, by omega⟩]; exact ih (k + 1) _ (by omega)
            · (try simp (disch := omega) only [i32_lti, i32_lei, i32_eqi, nI_toInt, i32z] at c_53)
              refine ev_iconst (pc := 56) (v := nI 0) dX11_isAsHeard_56 kc_0 ?_
              refine ev_iret (pc := 57) dX11_isAsHeard_57 rfl rfl (Nat.le_of_ble_eq_true rfl) (Nat.le_of_ble_eq_true rfl) ?_
              rw [if_neg (by omega)]; exact ⟨rfl, rfl⟩
  refine ev_iconst (pc := 0) (v := nI 0) dX11_isAsHeard_0 kc_0 ?_
  refine ev_istore_n (pc := 1) (L' := [_, _, _, _]) dX11_isAsHeard_1 (Nat.le_of_ble_eq_true rfl) rfl ?_
  exact loop n 0 _ (by omega)
end HEARD
