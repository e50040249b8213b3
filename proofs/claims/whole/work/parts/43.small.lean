/-! ===== DawnTales: its small methods ===== -/
section SMALL
variable {X : Cx} {h : Hp} {z : Nat}
theorem c_isDawn (x : Int32) : Ct X 0 mt_X11_isDawn [.int x] (h, z) 0 0 (QP (.int (b2i (decide (1 ≤ x.toInt ∧ x.toInt ≤ 30)))) (h, z)) := by
  refine mk_X11_isDawn (Nat.le_of_ble_eq_true rfl) (L := [.int x]) rfl ?_
  refine ev_iload_n (pc := 0) dX11_isDawn_0 rfl ?_
  refine ev_iconst (pc := 1) (v := nI 1) dX11_isDawn_1 kc_1 ?_
  refine ev_icmp_lt (pc := 2) 15 dX11_isDawn_2 (by decide) (fun c_2 => ?_) (fun c_2 => ?_)
  · (try simp (disch := omega) only [i32_lti, i32_lei, i32_eqi, nI_toInt, i32z] at c_2)
    refine ev_iconst (pc := 15) (v := nI 0) dX11_isDawn_15 kc_0 ?_
    refine ev_iret (pc := 16) dX11_isDawn_16 rfl rfl (Nat.le_of_ble_eq_true rfl) (Nat.le_of_ble_eq_true rfl) ?_
    first | exact qb1 (decide_eq_true (by omega)) | exact qb0 (decide_eq_false (by omega))
  · (try simp (disch := omega) only [i32_lti, i32_lei, i32_eqi, nI_toInt, i32z] at c_2)
    refine ev_iload_n (pc := 5) dX11_isDawn_5 rfl ?_
    refine ev_bipush (pc := 6) (v := nI 30) dX11_isDawn_6 kb_30 ?_
    refine ev_icmp_gt (pc := 8) 15 dX11_isDawn_8 (by decide) (fun c_8 => ?_) (fun c_8 => ?_)
    · (try simp (disch := omega) only [i32_lti, i32_lei, i32_eqi, nI_toInt, i32z] at c_8)
      refine ev_iconst (pc := 15) (v := nI 0) dX11_isDawn_15 kc_0 ?_
      refine ev_iret (pc := 16) dX11_isDawn_16 rfl rfl (Nat.le_of_ble_eq_true rfl) (Nat.le_of_ble_eq_true rfl) ?_
      first | exact qb1 (decide_eq_true (by omega)) | exact qb0 (decide_eq_false (by omega))
    · (try simp (disch := omega) only [i32_lti, i32_lei, i32_eqi, nI_toInt, i32z] at c_8)
      refine ev_iconst (pc := 11) (v := nI 1) dX11_isDawn_11 kc_1 ?_
      refine ev_goto (pc := 12) 16 dX11_isDawn_12 (by decide) ?_
      refine ev_iret (pc := 16) dX11_isDawn_16 rfl rfl (Nat.le_of_ble_eq_true rfl) (Nat.le_of_ble_eq_true rfl) ?_
      first | exact qb1 (decide_eq_true (by omega)) | exact qb0 (decide_eq_false (by omega))
theorem c_isPairPart (x : Int32) : Ct X 0 mt_X11_isPairPart [.int x] (h, z) 0 0 (QP (.int (b2i (decide (x.toInt = 0 ∨ x.toInt = 1)))) (h, z)) := by
  refine mk_X11_isPairPart (Nat.le_of_ble_eq_true rfl) (L := [.int x]) rfl ?_
  refine ev_iload_n (pc := 0) dX11_isPairPart_0 rfl ?_
  refine ev_if_eq (pc := 1) 9 dX11_isPairPart_1 (by decide) (fun c_1 => ?_) (fun c_1 => ?_)
  · (try simp (disch := omega) only [i32_lti, i32_lei, i32_eqi, nI_toInt, i32z] at c_1)
    refine ev_iconst (pc := 9) (v := nI 1) dX11_isPairPart_9 kc_1 ?_
    refine ev_goto (pc := 10) 14 dX11_isPairPart_10 (by decide) ?_
    refine ev_iret (pc := 14) dX11_isPairPart_14 rfl rfl (Nat.le_of_ble_eq_true rfl) (Nat.le_of_ble_eq_true rfl) ?_
    first | exact qb1 (decide_eq_true (by omega)) | exact qb0 (decide_eq_false (by omega))
  · (try simp (disch := omega) only [i32_lti, i32_lei, i32_eqi, nI_toInt, i32z] at c_1)
    refine ev_iload_n (pc := 4) dX11_isPairPart_4 rfl ?_
    refine ev_iconst (pc := 5) (v := nI 1) dX11_isPairPart_5 kc_1 ?_
    refine ev_icmp_ne (pc := 6) 13 dX11_isPairPart_6 (by decide) (fun c_6 => ?_) (fun c_6 => ?_)
    · (try simp (disch := omega) only [i32_lti, i32_lei, i32_eqi, nI_toInt, i32z] at c_6)
      refine ev_iconst (pc := 13) (v := nI 0) dX11_isPairPart_13 kc_0 ?_
      refine ev_iret (pc := 14) dX11_isPairPart_14 rfl rfl (Nat.le_of_ble_eq_true rfl) (Nat.le_of_ble_eq_true rfl) ?_
      first | exact qb1 (decide_eq_true (by omega)) | exact qb0 (decide_eq_false (by omega))
    · (try simp (disch := omega) only [i32_lti, i32_lei, i32_eqi, nI_toInt, i32z] at c_6)
      refine ev_iconst (pc := 9) (v := nI 1) dX11_isPairPart_9 kc_1 ?_
      refine ev_goto (pc := 10) 14 dX11_isPairPart_10 (by decide) ?_
      refine ev_iret (pc := 14) dX11_isPairPart_14 rfl rfl (Nat.le_of_ble_eq_true rfl) (Nat.le_of_ble_eq_true rfl) ?_
      first | exact qb1 (decide_eq_true (by omega)) | exact qb0 (decide_eq_false (by omega))
theorem c_isImage (x : Int32) : Ct X 0 mt_X11_isImage [.int x] (h, z) 0 0 (QP (.int (b2i (decide (0 ≤ x.toInt ∧ x.toInt < 2)))) (h, z)) := by
  refine mk_X11_isImage (Nat.le_of_ble_eq_true rfl) (L := [.int x]) rfl ?_
  refine ev_iload_n (pc := 0) dX11_isImage_0 rfl ?_
  refine ev_if_lt (pc := 1) 13 dX11_isImage_1 (by decide) (fun c_1 => ?_) (fun c_1 => ?_)
  · (try simp (disch := omega) only [i32_lti, i32_lei, i32_eqi, nI_toInt, i32z] at c_1)
    refine ev_iconst (pc := 13) (v := nI 0) dX11_isImage_13 kc_0 ?_
    refine ev_iret (pc := 14) dX11_isImage_14 rfl rfl (Nat.le_of_ble_eq_true rfl) (Nat.le_of_ble_eq_true rfl) ?_
    first | exact qb1 (decide_eq_true (by omega)) | exact qb0 (decide_eq_false (by omega))
  · (try simp (disch := omega) only [i32_lti, i32_lei, i32_eqi, nI_toInt, i32z] at c_1)
    refine ev_iload_n (pc := 4) dX11_isImage_4 rfl ?_
    refine ev_iconst (pc := 5) (v := nI 2) dX11_isImage_5 kc_2 ?_
    refine ev_icmp_ge (pc := 6) 13 dX11_isImage_6 (by decide) (fun c_6 => ?_) (fun c_6 => ?_)
    · (try simp (disch := omega) only [i32_lti, i32_lei, i32_eqi, nI_toInt, i32z] at c_6)
      refine ev_iconst (pc := 13) (v := nI 0) dX11_isImage_13 kc_0 ?_
      refine ev_iret (pc := 14) dX11_isImage_14 rfl rfl (Nat.le_of_ble_eq_true rfl) (Nat.le_of_ble_eq_true rfl) ?_
      first | exact qb1 (decide_eq_true (by omega)) | exact qb0 (decide_eq_false (by omega))
    · (try simp (disch := omega) only [i32_lti, i32_lei, i32_eqi, nI_toInt, i32z] at c_6)
      refine ev_iconst (pc := 9) (v := nI 1) dX11_isImage_9 kc_1 ?_
      refine ev_goto (pc := 10) 14 dX11_isImage_10 (by decide) ?_
      refine ev_iret (pc := 14) dX11_isImage_14 rfl rfl (Nat.le_of_ble_eq_true rfl) (Nat.le_of_ble_eq_true rfl) ?_
      first | exact qb1 (decide_eq_true (by omega)) | exact qb0 (decide_eq_false (by omega))
theorem c_firstOf {m : Nat} (hm : m < 64) : Ct X 0 mt_X11_firstOf [.int (nI m)] (h, z) 0 0 (QP (.int (oI (fiX (fun t => m.testBit t) 6 0))) (h, z)) := by
  refine mk_X11_firstOf (Nat.le_of_ble_eq_true rfl) (L := [.int (nI m), .retAddr 0]) rfl ?_
  have loop : ∀ (n j : Nat), j + n = 6 → Ev X (mi_X11_firstOf 0 0 0) (QP (.int (oI (fiX (fun t => m.testBit t) n j))) (h, z)) 0 0 (h, z) 2 [.int (nI m), .int (nI j)] [] := by
    intro n
    induction n with
    | zero =>
      intro j hn
      refine ev_iload_n (pc := 2) dX11_firstOf_2 rfl ?_
      refine ev_bipush (pc := 3) (v := nI 6) dX11_firstOf_3 kb_6 ?_
      refine ev_icmp_ge (pc := 5) 25 dX11_firstOf_5 (by decide) (fun c_5 => ?_) (fun c_5 => ?_)
      · (try simp (disch := omega) only [i32_lti, i32_lei, i32_eqi, nI_toInt, i32z] at c_5)
        refine ev_bipush (pc := 25) (v := (-9)) dX11_firstOf_25 kb_m9 ?_
        refine ev_iret (pc := 27) dX11_firstOf_27 rfl rfl (Nat.le_of_ble_eq_true rfl) (Nat.le_of_ble_eq_true rfl) ?_
        exact ⟨rfl, rfl⟩
      · exfalso; (try simp (disch := omega) only [i32_lti, i32_lei, i32_eqi, nI_toInt, i32z] at c_5); omega
    | succ n ih =>
      intro j hn
      have es : fiX (fun t => m.testBit t) (n + 1) j = if m.testBit j = true then some j else fiX (fun t => m.testBit t) n (j + 1) := rfl
      by_cases hb : m.testBit j = true
      · rw [if_pos hb] at es
        rw [es]
        refine ev_iload_n (pc := 2) dX11_firstOf_2 rfl ?_
        refine ev_bipush (pc := 3) (v := nI 6) dX11_firstOf_3 kb_6 ?_
        refine ev_icmp_ge (pc := 5) 25 dX11_firstOf_5 (by decide) (fun c_5 => ?_) (fun c_5 => ?_)
        · exfalso; (try simp (disch := omega) only [i32_lti, i32_lei, i32_eqi, nI_toInt, i32z] at c_5); omega
        · (try simp (disch := omega) only [i32_lti, i32_lei, i32_eqi, nI_toInt, i32z] at c_5)
          refine ev_iload_n (pc := 8) dX11_firstOf_8 rfl ?_
          refine ev_iload_n (pc := 9) dX11_firstOf_9 rfl ?_
          refine ev_ishr (pc := 10) dX11_firstOf_10 ?_
          refine ev_iconst (pc := 11) (v := nI 1) dX11_firstOf_11 kc_1 ?_
          refine ev_iand (pc := 12) dX11_firstOf_12 ?_
          rw [bt_tst _ hm _ (by omega), hb, b2i_t]
          refine ev_iconst (pc := 13) (v := nI 1) dX11_firstOf_13 kc_1 ?_
          refine ev_icmp_ne (pc := 14) 19 dX11_firstOf_14 (by decide) (fun c_14 => ?_) (fun c_14 => ?_)
          · exact absurd rfl c_14
          · (try simp (disch := omega) only [i32_lti, i32_lei, i32_eqi, nI_toInt, i32z] at c_14)
            refine ev_iload_n (pc := 17) dX11_firstOf_17 rfl ?_
            refine ev_iret (pc := 18) dX11_firstOf_18 rfl rfl (Nat.le_of_ble_eq_true rfl) (Nat.le_of_ble_eq_true rfl) ?_
            exact ⟨rfl, rfl⟩
      · rw [if_neg hb] at es
        rw [es]
        have hb2 : m.testBit j = false := by simpa using hb
        refine ev_iload_n (pc := 2) dX11_firstOf_2 rfl ?_
        refine ev_bipush (pc := 3) (v := nI 6) dX11_firstOf_3 kb_6 ?_
        refine ev_icmp_ge (pc := 5) 25 dX11_firstOf_5 (by decide) (fun c_5 => ?_) (fun c_5 => ?_)
        · exfalso; (try simp (disch := omega) only [i32_lti, i32_lei, i32_eqi, nI_toInt, i32z] at c_5); omega
        · (try simp (disch := omega) only [i32_lti, i32_lei, i32_eqi, nI_toInt, i32z] at c_5)
          refine ev_iload_n (pc := 8) dX11_firstOf_8 rfl ?_
          refine ev_iload_n (pc := 9) dX11_firstOf_9 rfl ?_
          refine ev_ishr (pc := 10) dX11_firstOf_10 ?_
          refine ev_iconst (pc := 11) (v := nI 1) dX11_firstOf_11 kc_1 ?_
          refine ev_iand (pc := 12) dX11_firstOf_12 ?_
          rw [bt_tst _ hm _ (by omega), hb2, b2i_f]
          refine ev_iconst (pc := 13) (v := nI 1) dX11_firstOf_13 kc_1 ?_
          refine ev_icmp_ne (pc := 14) 19 dX11_firstOf_14 (by decide) (fun c_14 => ?_) (fun c_14 => ?_)
          · (try simp (disch := omega) only [i32_lti, i32_lei, i32_eqi, nI_toInt, i32z] at c_14)
            refine ev_iinc (pc := 19) (L' := [_, _]) dX11_firstOf_19 rfl (nI_1 _) rfl ?_
            refine ev_goto (pc := 22) 2 dX11_firstOf_22 (by decide) ?_
            exact ih (j + 1) (by omega)
          · exfalso; (try simp (disch := omega) only [i32_lti, i32_lei, i32_eqi, nI_toInt, i32z] at c_14); omega
  refine ev_iconst (pc := 0) (v := nI 0) dX11_firstOf_0 kc_0 ?_
  refine ev_istore_n (pc := 1) (L' := [_, _]) dX11_firstOf_1 (Nat.le_of_ble_eq_true rfl) rfl ?_
  exact loop 6 0 rfl
end SMALL
