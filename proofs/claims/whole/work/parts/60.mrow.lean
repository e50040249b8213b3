/-! ===== the model: rows of ints ===== -/
def ar (n : Nat) (f : Nat → Int32) : List Int32 := (List.range n).map f
theorem ar_len {n : Nat} {f : Nat → Int32} : (ar n f).length = n := by simp [ar]
theorem ar_get {n : Nat} {f : Nat → Int32} {i : Nat} (h : i < n) : (ar n f)[i]? = some (f i) := by simp [ar, h]
def ru (f : Nat → Int32) (i : Nat) (v : Int32) (j : Nat) : Int32 := if j = i then v else f j
theorem ru_s {f : Nat → Int32} {i : Nat} {v : Int32} : ru f i v i = v := if_pos rfl
theorem ru_n {f : Nat → Int32} {i j : Nat} {v : Int32} (h : j ≠ i) : ru f i v j = f j := if_neg h
theorem ar_ext {n : Nat} {f g : Nat → Int32} (h : ∀ j : Nat, j < n → f j = g j) : ar n f = ar n g := by
  unfold ar
  exact List.map_congr_left (fun j hj => h j (List.mem_range.mp hj))
theorem ar_set {n : Nat} {f : Nat → Int32} {i : Nat} {v : Int32} (h : i < n) : (ar n f).set i v = ar n (ru f i v) := by
  apply List.ext_getElem?
  intro j
  rw [List.getElem?_set, ar_len]
  by_cases hj : j < n
  · rw [ar_get hj]
    by_cases hq : i = j
    · subst hq; rw [if_pos rfl, if_pos h, ar_get h, ru_s]
    · rw [if_neg hq, ar_get hj, ru_n (fun q => hq q.symm)]
  · rw [List.getElem?_eq_none (by rw [ar_len]; omega), List.getElem?_eq_none (by rw [ar_len]; omega), if_neg (by omega)]
theorem ar_rep (n : Nat) : List.replicate n (0 : Int32) = ar n (fun _ => 0) := by
  apply List.ext_getElem?
  intro j
  by_cases hj : j < n
  · rw [ar_get hj]; simp [hj]
  · rw [List.getElem?_eq_none (by simp; omega), List.getElem?_eq_none (by rw [ar_len]; omega)]
theorem ar_nI (l : List Nat) : l.map nI = ar l.length (fun j => nI (gN l j)) := by
  apply List.ext_getElem?
  intro j
  by_cases hj : j < l.length
  · rw [ar_get hj, List.getElem?_map, List.getElem?_eq_getElem hj, gN_eq hj]; rfl
  · rw [List.getElem?_eq_none (by simp; omega), List.getElem?_eq_none (by rw [ar_len]; omega)]
/-- a telling as the model's row of 28 -/
def eT (T : Tl) (j : Nat) : Int32 := if j = 0 then nI (tN T) else if j = 1 then nI (tH T) else if j = 2 then nI (tO T).length else if j = 3 then b2i (tV T) else if j < 10 then (if j - 4 < (tO T).length then nI (gN (tO T) (j - 4)) else -9) else if j < 16 then nI (gN (tF T) (j - 10)) else if j < 22 then b2i ((tB T).testBit (j - 16)) else if (tB T).testBit (j - 22) = true then nI (gN (tA T) (j - 22)) else -9
theorem eT_O (T : Tl) {k : Nat} (h : k < 6) : eT T (4 + k) = if k < (tO T).length then nI (gN (tO T) k) else -9 := by
  unfold eT
  rw [if_neg (by omega), if_neg (by omega), if_neg (by omega), if_neg (by omega), if_pos (by omega), show 4 + k - 4 = k by omega]
theorem eT_F (T : Tl) {k : Nat} (h : k < 6) : eT T (10 + k) = nI (gN (tF T) k) := by
  unfold eT
  rw [if_neg (by omega), if_neg (by omega), if_neg (by omega), if_neg (by omega), if_neg (by omega), if_pos (by omega), show 10 + k - 10 = k by omega]
theorem eT_B (T : Tl) {k : Nat} (h : k < 6) : eT T (16 + k) = b2i ((tB T).testBit k) := by
  unfold eT
  rw [if_neg (by omega), if_neg (by omega), if_neg (by omega), if_neg (by omega), if_neg (by omega), if_neg (by omega), if_pos (by omega), show 16 + k - 16 = k by omega]
theorem eT_A (T : Tl) {k : Nat} : eT T (22 + k) = if (tB T).testBit k = true then nI (gN (tA T) k) else -9 := by
  unfold eT
  rw [if_neg (by omega), if_neg (by omega), if_neg (by omega), if_neg (by omega), if_neg (by omega), if_neg (by omega), if_neg (by omega), show 22 + k - 22 = k by omega]
/-- the array at a holds the telling T as a row -/
def pRw (h : Hp) (a : Nat) (T : Tl) : Prop := h a = some (.inr (0, .inl (ar 28 (eT T))))
theorem x_0 (T : Tl) : (ar 28 (eT T))[0]? = some (nI (tN T)) := ar_get (by omega)
theorem x_1 (T : Tl) : (ar 28 (eT T))[1]? = some (nI (tH T)) := ar_get (by omega)
theorem x_2 (T : Tl) : (ar 28 (eT T))[2]? = some (nI (tO T).length) := ar_get (by omega)
theorem x_3 (T : Tl) : (ar 28 (eT T))[3]? = some (b2i (tV T)) := ar_get (by omega)
theorem x_O {T : Tl} {k : Nat} (h6 : (tO T).length ≤ 6) (h : k < (tO T).length) : (ar 28 (eT T))[4 + k]? = some (nI (gN (tO T) k)) := by rw [ar_get (by omega), eT_O T (by omega), if_pos h]
theorem x_F {T : Tl} {k : Nat} (h : k < 6) : (ar 28 (eT T))[10 + k]? = some (nI (gN (tF T) k)) := by rw [ar_get (by omega), eT_F T (by omega)]
theorem x_B {T : Tl} {k : Nat} (h : k < 6) : (ar 28 (eT T))[16 + k]? = some (b2i ((tB T).testBit k)) := by rw [ar_get (by omega), eT_B T (by omega)]
theorem x_A {T : Tl} {k : Nat} (h : k < 6) (hb : (tB T).testBit k = true) : (ar 28 (eT T))[22 + k]? = some (nI (gN (tA T) k)) := by rw [ar_get (by omega), eT_A T, if_pos hb]
theorem gN_last {l : List Nat} {t : Nat} (h : l.getLast? = some t) : 0 < l.length ∧ gN l (l.length - 1) = t := by
  obtain ⟨k, rfl⟩ := lastL h
  refine ⟨by simp, ?_⟩
  rw [List.length_append, List.length_singleton, Nat.add_sub_cancel]
  simp [gN, List.getD_eq_getElem?_getD]
theorem x_in {T : Tl} {t : Nat} (h6 : (tO T).length ≤ 6) (h : (tO T).getLast? = some t) : (ar 28 (eT T))[3 + (tO T).length]? = some (nI t) := by
  obtain ⟨h0, e⟩ := gN_last h
  have := x_O (T := T) (k := (tO T).length - 1) h6 (by omega)
  rw [show 4 + ((tO T).length - 1) = 3 + (tO T).length by omega, e] at this
  exact this
theorem b2i_toInt (b : Bool) : (b2i b).toInt = if b = true then 1 else 0 := by cases b <;> rfl
theorem lgc_lt (x y : Int64) : (lg_cmp x y).toInt < 0 ↔ x.toInt < y.toInt := by
  unfold lg_cmp
  simp only [gt_iff_lt, Int64.lt_iff_toInt_lt, ← Int64.toInt_inj]
  split
  · exact ⟨fun q => absurd q (by decide), fun q => by omega⟩
  · split
    · exact ⟨fun q => absurd q (by decide), fun q => by omega⟩
    · exact ⟨fun q => by omega, fun q => by decide⟩
theorem lgc_le (x y : Int64) : (lg_cmp x y).toInt ≤ 0 ↔ x.toInt ≤ y.toInt := by
  unfold lg_cmp
  simp only [gt_iff_lt, Int64.lt_iff_toInt_lt, ← Int64.toInt_inj]
  split
  · exact ⟨fun q => absurd q (by decide), fun q => by omega⟩
  · split
    · exact ⟨fun q => by omega, fun q => by decide⟩
    · exact ⟨fun q => by omega, fun q => by decide⟩
/-- one part of the innermost tale is told; where none is open: one hour passes -/
def goS (T : Tl) : Tl := match (tO T).getLast? with
  | none => (tN T, tH T - 1, tS T, tV T, tB T, tO T, tF T, tA T)
  | some t => tPart T t 1
section MROW
variable {X : Cx} {h : Hp} {z a : Nat} {T : Tl}
theorem c_in (v lo hi : Int64) : Ct X 0 mt_X12_in [.long v, .long lo, .long hi] (h, z) 0 0 (QP (.int (b2i (decide (lo.toInt ≤ v.toInt ∧ v.toInt ≤ hi.toInt)))) (h, z)) := by
  refine mk_X12_in (Nat.le_of_ble_eq_true rfl) (L := [.long v, .retAddr 0, .long lo, .retAddr 0, .long hi, .retAddr 0]) rfl ?_
  refine ev_lload_n (pc := 0) dX12_in_0 rfl ?_
  refine ev_lload_n (pc := 1) dX12_in_1 rfl ?_
  refine ev_lcmp (pc := 2) dX12_in_2 ?_
  refine ev_if_lt (pc := 3) 17 dX12_in_3 (by decide) (fun c_3 => ?_) (fun c_3 => ?_)
  · (try simp (disch := omega) only [i32_lti, i32_lei, i32_eqi, nI_toInt, i32z] at c_3)
    rw [lgc_lt] at c_3
    refine ev_iconst (pc := 17) (v := nI 0) dX12_in_17 kc_0 ?_
    refine ev_iret (pc := 18) dX12_in_18 rfl rfl (Nat.le_of_ble_eq_true rfl) (Nat.le_of_ble_eq_true rfl) ?_
    first | exact qb1 (decide_eq_true (by omega)) | exact qb0 (decide_eq_false (by omega))
  · (try simp (disch := omega) only [i32_lti, i32_lei, i32_eqi, nI_toInt, i32z] at c_3)
    rw [lgc_lt] at c_3
    refine ev_lload_n (pc := 6) dX12_in_6 rfl ?_
    refine ev_lload (pc := 7) dX12_in_7 rfl ?_
    refine ev_lcmp (pc := 9) dX12_in_9 ?_
    refine ev_if_gt (pc := 10) 17 dX12_in_10 (by decide) (fun c_10 => ?_) (fun c_10 => ?_)
    · (try simp (disch := omega) only [i32_lti, i32_lei, i32_eqi, nI_toInt, i32z] at c_10)
      (try rw [← Int.not_le] at c_10)
      (try simp only [Int.not_le, Int.not_lt] at c_10)
      (try rw [lgc_le] at c_10)
      (try rw [← Int.not_le, lgc_le] at c_10)
      refine ev_iconst (pc := 17) (v := nI 0) dX12_in_17 kc_0 ?_
      refine ev_iret (pc := 18) dX12_in_18 rfl rfl (Nat.le_of_ble_eq_true rfl) (Nat.le_of_ble_eq_true rfl) ?_
      first | exact qb1 (decide_eq_true (by omega)) | exact qb0 (decide_eq_false (by omega))
    · (try simp (disch := omega) only [i32_lti, i32_lei, i32_eqi, nI_toInt, i32z] at c_10)
      (try rw [← Int.not_le] at c_10)
      (try simp only [Int.not_le, Int.not_lt] at c_10)
      (try rw [lgc_le] at c_10)
      (try rw [← Int.not_le, lgc_le] at c_10)
      refine ev_iconst (pc := 13) (v := nI 1) dX12_in_13 kc_1 ?_
      refine ev_goto (pc := 14) 18 dX12_in_14 (by decide) ?_
      refine ev_iret (pc := 18) dX12_in_18 rfl rfl (Nat.le_of_ble_eq_true rfl) (Nat.le_of_ble_eq_true rfl) ?_
      first | exact qb1 (decide_eq_true (by omega)) | exact qb0 (decide_eq_false (by omega))
theorem c_isLetter2 {c : Nat} (hc : c < 2 ^ 31) : Ct X 1 mt_X12_isLetter [.int (nI c)] (h, z) 0 0 (QP (.int (b2i (isL c))) (h, z)) := by
  refine mk_X12_isLetter (Nat.le_of_ble_eq_true rfl) (L := [.int (nI c)]) rfl ?_
  refine ev_iload_n (pc := 0) dX12_isLetter_0 rfl ?_
  refine ev_i2l (pc := 1) dX12_isLetter_1 ?_
  refine ev_ldc2_w (pc := 2) dX12_isLetter_2 tw_987 ?_
  refine ev_ldc2_w (pc := 5) dX12_isLetter_5 tw_988 ?_
  refine iv_X12_63 (pc := 8) rfl dX12_isLetter_8 (Nat.le_of_ble_eq_true rfl) (Nat.le_of_ble_eq_true rfl) (Nat.le_of_ble_eq_true rfl) (Nat.le_of_ble_eq_true rfl) (c_in _ _ _) (kp ?_)
  refine ev_iret (pc := 11) dX12_isLetter_11 rfl (b2i_z _) (Nat.le_of_ble_eq_true rfl) (Nat.le_of_ble_eq_true rfl) ?_
  refine ⟨?_, rfl⟩
  unfold isL
  rw [Int32.toInt_toInt64, nI_toInt hc]
  congr 4
  apply propext
  rw [show (97 : Int64).toInt = 97 from rfl, show (122 : Int64).toInt = 122 from rfl]
  omega
theorem c_isFigure2 {c : Nat} (hc : c < 2 ^ 31) : Ct X 1 mt_X12_isFigure [.int (nI c)] (h, z) 0 0 (QP (.int (b2i (isD c))) (h, z)) := by
  refine mk_X12_isFigure (Nat.le_of_ble_eq_true rfl) (L := [.int (nI c)]) rfl ?_
  refine ev_iload_n (pc := 0) dX12_isFigure_0 rfl ?_
  refine ev_i2l (pc := 1) dX12_isFigure_1 ?_
  refine ev_ldc2_w (pc := 2) dX12_isFigure_2 tw_996 ?_
  refine ev_ldc2_w (pc := 5) dX12_isFigure_5 tw_997 ?_
  refine iv_X12_63 (pc := 8) rfl dX12_isFigure_8 (Nat.le_of_ble_eq_true rfl) (Nat.le_of_ble_eq_true rfl) (Nat.le_of_ble_eq_true rfl) (Nat.le_of_ble_eq_true rfl) (c_in _ _ _) (kp ?_)
  refine ev_iret (pc := 11) dX12_isFigure_11 rfl (b2i_z _) (Nat.le_of_ble_eq_true rfl) (Nat.le_of_ble_eq_true rfl) ?_
  refine ⟨?_, rfl⟩
  unfold isD
  rw [Int32.toInt_toInt64, nI_toInt hc]
  congr 4
  apply propext
  rw [show (48 : Int64).toInt = 48 from rfl, show (57 : Int64).toInt = 57 from rfl]
  omega
theorem c_inner (p : pRw h a T) (h6 : (tO T).length ≤ 6) : Ct X 0 mt_X12_inner [.ref a] (h, z) 0 0 (QP (.int (inn T)) (h, z)) := by
  unfold pRw at p
  refine mk_X12_inner (Nat.le_of_ble_eq_true rfl) (L := [.ref a]) rfl ?_
  cases e : (tO T).getLast? with
  | none =>
    have e0 : tO T = [] := List.getLast?_eq_none_iff.mp e
    have e1 : inn T = -9 := by unfold inn; rw [e]
    have e2 : (tO T).length = 0 := by rw [e0]; rfl
    refine ev_aload_n (pc := 0) dX12_inner_0 rfl ?_
    refine ev_iconst (pc := 1) (v := nI 2) dX12_inner_1 kc_2 ?_
    refine ev_iald (pc := 2) dX12_inner_2 (by (try dsimp only); (repeat (first | rw [up_s] | rw [up_n (by omega)])) <;> first | rfl | assumption) (nI_toInt (by omega)) (x_2 T) ?_
    refine ev_if_ne (pc := 3) 11 dX12_inner_3 (by decide) (fun c_3 => ?_) (fun c_3 => ?_)
    · exfalso; (try simp (disch := omega) only [i32_lti, i32_lei, i32_eqi, nI_toInt, i32z] at c_3); omega
    · (try simp (disch := omega) only [i32_lti, i32_lei, i32_eqi, nI_toInt, i32z] at c_3)
      refine ev_bipush (pc := 6) (v := (-9)) dX12_inner_6 kb_m9 ?_
      refine ev_goto (pc := 8) 18 dX12_inner_8 (by decide) ?_
      refine ev_iret (pc := 18) dX12_inner_18 rfl rfl (Nat.le_of_ble_eq_true rfl) (Nat.le_of_ble_eq_true rfl) ?_
      exact ⟨by rw [e1], rfl⟩
  | some t =>
    have e0 := (gN_last e).1
    have e1 : inn T = nI t := by unfold inn; rw [e]
    refine ev_aload_n (pc := 0) dX12_inner_0 rfl ?_
    refine ev_iconst (pc := 1) (v := nI 2) dX12_inner_1 kc_2 ?_
    refine ev_iald (pc := 2) dX12_inner_2 (by (try dsimp only); (repeat (first | rw [up_s] | rw [up_n (by omega)])) <;> first | rfl | assumption) (nI_toInt (by omega)) (x_2 T) ?_
    refine ev_if_ne (pc := 3) 11 dX12_inner_3 (by decide) (fun c_3 => ?_) (fun c_3 => ?_)
    · (try simp (disch := omega) only [i32_lti, i32_lei, i32_eqi, nI_toInt, i32z] at c_3)
      refine ev_aload_n (pc := 11) dX12_inner_11 rfl ?_
      refine ev_iconst (pc := 12) (v := nI 3) dX12_inner_12 kc_3 ?_
      refine ev_aload_n (pc := 13) dX12_inner_13 rfl ?_
      refine ev_iconst (pc := 14) (v := nI 2) dX12_inner_14 kc_2 ?_
      refine ev_iald (pc := 15) dX12_inner_15 (by (try dsimp only); (repeat (first | rw [up_s] | rw [up_n (by omega)])) <;> first | rfl | assumption) (nI_toInt (by omega)) (x_2 T) ?_
      refine ev_iadd (pc := 16) dX12_inner_16 ?_
      rw [nI_add]
      refine ev_iald (pc := 17) dX12_inner_17 (by (try dsimp only); (repeat (first | rw [up_s] | rw [up_n (by omega)])) <;> first | rfl | assumption) (nI_toInt (by omega)) (x_in h6 e) ?_
      refine ev_iret (pc := 18) dX12_inner_18 rfl rfl (Nat.le_of_ble_eq_true rfl) (Nat.le_of_ble_eq_true rfl) ?_
      exact ⟨by rw [e1], rfl⟩
    · exfalso; (try simp (disch := omega) only [i32_lti, i32_lei, i32_eqi, nI_toInt, i32z] at c_3); omega
theorem xg {n : Nat} {f : Nat → Int32} {i : Nat} {v : Int32} (h : i < n) (e : f i = v) : (ar n f)[i]? = some v := by rw [ar_get h, e]
theorem c_inner0 {f : Nat → Int32} {n : Nat} (p : h a = some (.inr (0, .inl (ar 28 f)))) (e2 : f 2 = nI n) (h6 : n ≤ 6) (h0 : 0 < n) : Ct X 0 mt_X12_inner [.ref a] (h, z) 0 0 (QP (.int (f (3 + n))) (h, z)) := by
  refine mk_X12_inner (Nat.le_of_ble_eq_true rfl) (L := [.ref a]) rfl ?_
  refine ev_aload_n (pc := 0) dX12_inner_0 rfl ?_
  refine ev_iconst (pc := 1) (v := nI 2) dX12_inner_1 kc_2 ?_
  refine ev_iald (pc := 2) dX12_inner_2 (by (try dsimp only); (repeat (first | rw [up_s] | rw [up_n (by omega)])) <;> first | rfl | assumption) (nI_toInt (by omega)) (xg (by omega) e2) ?_
  refine ev_if_ne (pc := 3) 11 dX12_inner_3 (by decide) (fun c_3 => ?_) (fun c_3 => ?_)
  · (try simp (disch := omega) only [i32_lti, i32_lei, i32_eqi, nI_toInt, i32z] at c_3)
    refine ev_aload_n (pc := 11) dX12_inner_11 rfl ?_
    refine ev_iconst (pc := 12) (v := nI 3) dX12_inner_12 kc_3 ?_
    refine ev_aload_n (pc := 13) dX12_inner_13 rfl ?_
    refine ev_iconst (pc := 14) (v := nI 2) dX12_inner_14 kc_2 ?_
    refine ev_iald (pc := 15) dX12_inner_15 (by (try dsimp only); (repeat (first | rw [up_s] | rw [up_n (by omega)])) <;> first | rfl | assumption) (nI_toInt (by omega)) (xg (by omega) e2) ?_
    refine ev_iadd (pc := 16) dX12_inner_16 ?_
    rw [nI_add]
    refine ev_iald (pc := 17) dX12_inner_17 (by (try dsimp only); (repeat (first | rw [up_s] | rw [up_n (by omega)])) <;> first | rfl | assumption) (nI_toInt (by omega)) (ar_get (by omega)) ?_
    refine ev_iret (pc := 18) dX12_inner_18 rfl rfl (Nat.le_of_ble_eq_true rfl) (Nat.le_of_ble_eq_true rfl) ?_
    exact ⟨rfl, rfl⟩
  · exfalso; (try simp (disch := omega) only [i32_lti, i32_lei, i32_eqi, nI_toInt, i32z] at c_3); omega
theorem tPart_O {T : Tl} {t : Nat} : tO (tPart T t 1) = if gN (tF T) t - 1 = 0 then (tO T).dropLast else tO T := rfl
theorem eT_tail {T : Tl} {t j : Nat} (t6 : t < 6) (tb : (tB T).testBit t = true) (w8 : (tA T).length = 6) (w9 : (tF T).length = 6) (h10 : 10 ≤ j) : eT (tPart T t 1) j = if j = 10 + t then nI (gN (tF T) t - 1) else if j = 22 + t then nI (tN T) else eT T j := by
  by_cases j16 : j < 16
  · obtain ⟨k, rfl⟩ : ∃ k, j = 10 + k := ⟨j - 10, by omega⟩
    rw [eT_F _ (by omega), eT_F _ (by omega), if_neg (show ¬ 10 + k = 22 + t by omega)]
    show nI (gN ((tF T).set t (gN (tF T) t - 1)) k) = _
    rw [gN_set (by omega)]
    by_cases hk : k = t
    · rw [if_pos hk, if_pos (by omega)]
    · rw [if_neg hk, if_neg (by omega)]
  rw [if_neg (show ¬ j = 10 + t by omega)]
  by_cases j22 : j < 22
  · obtain ⟨k, rfl⟩ : ∃ k, j = 16 + k := ⟨j - 16, by omega⟩
    rw [if_neg (show ¬ 16 + k = 22 + t by omega), eT_B _ (by omega), eT_B _ (by omega)]
    rfl
  · obtain ⟨k, rfl⟩ : ∃ k, j = 22 + k := ⟨j - 22, by omega⟩
    rw [eT_A, eT_A]
    show (if (tB T).testBit k = true then nI (gN ((tA T).set t (tN T)) k) else -9) = _
    by_cases hk : k = t
    · rw [if_pos (show 22 + k = 22 + t by omega), hk, if_pos tb, gN_set (by omega), if_pos rfl]
    · rw [if_neg (show ¬ 22 + k = 22 + t by omega)]
      have e : gN ((tA T).set t (tN T)) k = gN (tA T) k := by
        simp [gN, List.getD_eq_getElem?_getD, List.getElem?_set, if_neg (fun q => hk (Eq.symm q) : ¬ t = k)]
      rw [e]
theorem eT_part1 {T : Tl} {t : Nat} (h : (tO T).getLast? = some t) (t6 : t < 6) (tb : (tB T).testBit t = true) (w8 : (tA T).length = 6) (w9 : (tF T).length = 6) (hz : gN (tF T) t - 1 ≠ 0) {f : Nat → Int32} (hf : ∀ j : Nat, j < 28 → f j = if j = 1 then nI (tH T - 1) else if j = 10 + t then nI (gN (tF T) t - 1) else if j = 22 + t then nI (tN T) else eT T j) : ar 28 f = ar 28 (eT (tPart T t 1)) := by
  apply ar_ext
  intro j hj
  rw [hf j hj]
  have hO : tO (tPart T t 1) = tO T := by rw [tPart_O, if_neg hz]
  by_cases j10 : 10 ≤ j
  · rw [if_neg (by omega), eT_tail t6 tb w8 w9 j10]
  rw [if_neg (show ¬ j = 10 + t by omega), if_neg (show ¬ j = 22 + t by omega)]
  by_cases j1 : j = 1
  · subst j1; rfl
  rw [if_neg j1]
  by_cases j4 : j < 4
  · have : j = 0 ∨ j = 2 ∨ j = 3 := by omega
    rcases this with q | q | q <;> subst q
    · rfl
    · show nI _ = nI (tO (tPart T t 1)).length
      rw [hO]
    · rfl
  obtain ⟨k, rfl⟩ : ∃ k, j = 4 + k := ⟨j - 4, by omega⟩
  rw [eT_O _ (by omega), eT_O _ (by omega), hO]
theorem eT_part0 {T : Tl} {t : Nat} (h : (tO T).getLast? = some t) (t6 : t < 6) (tb : (tB T).testBit t = true) (w4 : (tO T).length ≤ 6) (w8 : (tA T).length = 6) (w9 : (tF T).length = 6) (hz : gN (tF T) t - 1 = 0) {f : Nat → Int32} (hf : ∀ j : Nat, j < 28 → f j = if j = 1 then nI (tH T - 1) else if j = 2 then nI ((tO T).length - 1) else if j = 3 + (tO T).length then -9 else if j = 10 + t then nI (gN (tF T) t - 1) else if j = 22 + t then nI (tN T) else eT T j) : ar 28 f = ar 28 (eT (tPart T t 1)) := by
  obtain ⟨h0, e⟩ := gN_last h
  apply ar_ext
  intro j hj
  rw [hf j hj]
  have hO : tO (tPart T t 1) = (tO T).dropLast := by rw [tPart_O, if_pos hz]
  have hd : (tO T).dropLast.length = (tO T).length - 1 := List.length_dropLast
  by_cases j10 : 10 ≤ j
  · rw [if_neg (by omega), if_neg (by omega), if_neg (by omega), eT_tail t6 tb w8 w9 j10]
  rw [if_neg (show ¬ j = 10 + t by omega), if_neg (show ¬ j = 22 + t by omega)]
  by_cases j1 : j = 1
  · subst j1; rfl
  rw [if_neg j1]
  by_cases j2 : j = 2
  · subst j2
    rw [if_pos rfl]
    show _ = nI (tO (tPart T t 1)).length
    rw [hO, hd]
  rw [if_neg j2]
  by_cases j4 : j < 4
  · rw [if_neg (by omega)]
    have : j = 0 ∨ j = 3 := by omega
    rcases this with q | q <;> subst q <;> rfl
  obtain ⟨k, rfl⟩ : ∃ k, j = 4 + k := ⟨j - 4, by omega⟩
  rw [eT_O _ (by omega), eT_O _ (by omega), hO, hd]
  by_cases hk : 4 + k = 3 + (tO T).length
  · rw [if_pos hk, if_neg (by omega)]
  · rw [if_neg hk]
    by_cases hk2 : k < (tO T).length
    · rw [if_pos hk2, if_pos (by omega)]
      congr 1
      have := wT.split h
      conv => lhs; rw [this]
      rw [gN_eq (by rw [List.length_append, hd, List.length_singleton]; omega), gN_eq (by omega), List.getElem_append_left]
    · rw [if_neg hk2, if_neg (by omega)]
theorem c_goesOn0 {f : Nat → Int32} {t : Nat} (p : h a = some (.inr (0, .inl (ar 28 f)))) (hf : ∀ j : Nat, j < 28 → j ≠ 22 + t → f j = eT T j) (ht : (tO T).getLast? = some t) (t6 : t < 6) (tb : (tB T).testBit t = true) (w4 : (tO T).length ≤ 6) (w8 : (tA T).length = 6) (w9 : (tF T).length = 6) (h1 : 0 < tH T) (h2 : 0 < gN (tF T) t) (h3 : gN (tF T) t < 100) : Ct X 1 mt_X12_goesOn [.ref a] (h, z) 0 0 (Qv (fun S' => S'.2 = z ∧ hfr h S'.1 a 1 ∧ pRw S'.1 a (tPart T t 1))) := by
  have ⟨hl0, hle⟩ := gN_last ht
  have e0 : f 0 = nI (tN T) := hf 0 (by omega) (by omega)
  have e1 : f 1 = nI (tH T) := hf 1 (by omega) (by omega)
  have e2 : f 2 = nI (tO T).length := hf 2 (by omega) (by omega)
  have e3 : f (3 + (tO T).length) = nI t := by
    rw [hf _ (by omega) (by omega), show 3 + (tO T).length = 4 + ((tO T).length - 1) by omega, eT_O _ (by omega), if_pos (by omega), hle]
  have e4 : f (10 + t) = nI (gN (tF T) t) := by rw [hf _ (by omega) (by omega), eT_F _ t6]
  refine mk_X12_goesOn (Nat.le_of_ble_eq_true rfl) (L := [.ref a, .retAddr 0]) rfl ?_
  refine ev_aload_n (pc := 0) dX12_goesOn_0 rfl ?_
  refine iv_X12_168 (pc := 1) rfl dX12_goesOn_1 (Nat.le_of_ble_eq_true rfl) (Nat.le_of_ble_eq_true rfl) (Nat.le_of_ble_eq_true rfl) (Nat.le_of_ble_eq_true rfl) (c_inner0 p e2 w4 hl0) (kp ?_)
  rw [e3]
  refine ev_istore_n (pc := 4) (L' := [_, _]) dX12_goesOn_4 (Nat.le_of_ble_eq_true rfl) rfl ?_
  refine ev_aload_n (pc := 5) dX12_goesOn_5 rfl ?_
  refine ev_bipush (pc := 6) (v := nI 10) dX12_goesOn_6 kb_10 ?_
  refine ev_iload_n (pc := 8) dX12_goesOn_8 rfl ?_
  refine ev_iadd (pc := 9) dX12_goesOn_9 ?_
  rw [nI_add]
  refine ev_dup2 (pc := 10) dX12_goesOn_10 rfl rfl ?_
  refine ev_iald (pc := 11) dX12_goesOn_11 (by (try dsimp only); (repeat (first | rw [up_s] | rw [up_n (by omega)])) <;> first | rfl | assumption) (nI_toInt (by omega)) (xg (by omega) e4) ?_
  refine ev_iconst (pc := 12) (v := nI 1) dX12_goesOn_12 kc_1 ?_
  refine ev_isub (pc := 13) dX12_goesOn_13 ?_
  rw [nI_sub1 h2]
  refine ev_iast (pc := 14) dX12_goesOn_14 (by (try dsimp only); (repeat (first | rw [up_s] | rw [up_n (by omega)])) <;> first | rfl | assumption) (nI_toInt (by omega)) (by rw [ar_len]; omega) ?_
  rw [ar_set (by omega)]
  refine ev_aload_n (pc := 15) dX12_goesOn_15 rfl ?_
  refine ev_bipush (pc := 16) (v := nI 22) dX12_goesOn_16 kb_22 ?_
  refine ev_iload_n (pc := 18) dX12_goesOn_18 rfl ?_
  refine ev_iadd (pc := 19) dX12_goesOn_19 ?_
  rw [nI_add]
  refine ev_aload_n (pc := 20) dX12_goesOn_20 rfl ?_
  refine ev_iconst (pc := 21) (v := nI 0) dX12_goesOn_21 kc_0 ?_
  refine ev_iald (pc := 22) dX12_goesOn_22 (by (try dsimp only); (repeat (first | rw [up_s] | rw [up_n (by omega)])) <;> first | rfl | assumption) (nI_toInt (by omega)) (xg (by omega) ((ru_n (by omega)).trans e0)) ?_
  refine ev_iast (pc := 23) dX12_goesOn_23 (by (try dsimp only); (repeat (first | rw [up_s] | rw [up_n (by omega)])) <;> first | rfl | assumption) (nI_toInt (by omega)) (by rw [ar_len]; omega) ?_
  rw [ar_set (by omega)]
  refine ev_aload_n (pc := 24) dX12_goesOn_24 rfl ?_
  refine ev_iconst (pc := 25) (v := nI 1) dX12_goesOn_25 kc_1 ?_
  refine ev_dup2 (pc := 26) dX12_goesOn_26 rfl rfl ?_
  refine ev_iald (pc := 27) dX12_goesOn_27 (by (try dsimp only); (repeat (first | rw [up_s] | rw [up_n (by omega)])) <;> first | rfl | assumption) (nI_toInt (by omega)) (xg (by omega) ((ru_n (by omega)).trans ((ru_n (by omega)).trans e1))) ?_
  refine ev_iconst (pc := 28) (v := nI 1) dX12_goesOn_28 kc_1 ?_
  refine ev_isub (pc := 29) dX12_goesOn_29 ?_
  rw [nI_sub1 h1]
  refine ev_iast (pc := 30) dX12_goesOn_30 (by (try dsimp only); (repeat (first | rw [up_s] | rw [up_n (by omega)])) <;> first | rfl | assumption) (nI_toInt (by omega)) (by rw [ar_len]; omega) ?_
  rw [ar_set (by omega)]
  refine ev_aload_n (pc := 31) dX12_goesOn_31 rfl ?_
  refine ev_bipush (pc := 32) (v := nI 10) dX12_goesOn_32 kb_10 ?_
  refine ev_iload_n (pc := 34) dX12_goesOn_34 rfl ?_
  refine ev_iadd (pc := 35) dX12_goesOn_35 ?_
  rw [nI_add]
  refine ev_iald (pc := 36) dX12_goesOn_36 (by (try dsimp only); (repeat (first | rw [up_s] | rw [up_n (by omega)])) <;> first | rfl | assumption) (nI_toInt (by omega)) (xg (by omega) ((ru_n (by omega)).trans ((ru_n (by omega)).trans ru_s))) ?_
  refine ev_if_ne (pc := 37) 56 dX12_goesOn_37 (by decide) (fun c_37 => ?_) (fun c_37 => ?_)
  · (try simp (disch := omega) only [i32_lti, i32_lei, i32_eqi, nI_toInt, i32z] at c_37)
    have fin := fun (f' : Nat → Int32) => eT_part1 (f := f') ht t6 tb w8 w9 (by omega)
    refine ev_ret (pc := 56) dX12_goesOn_56 rfl (Nat.le_of_ble_eq_true rfl) (Nat.le_of_ble_eq_true rfl) ?_
    refine ⟨rfl, rfl, (by intro q hq; first | rfl | ((try dsimp only); (repeat (first | rw [up_n (by omega)])))), (up_s _ _ _).trans (congrArg (fun l => (some (.inr (0, .inl l)) : Option Ob)) (fin _ ?_))⟩
    intro j hj
    simp only [ru]
    by_cases q1 : j = 1
    · subst q1; (repeat (first | rw [if_pos rfl] | rw [if_neg (show ¬ (1 : Nat) = 2 by omega)] | rw [if_neg (show ¬ (1 : Nat) = 3 + (tO T).length by omega)]))
    by_cases q2 : j = 22 + t
    · subst q2; (repeat (first | rw [if_pos rfl] | rw [if_neg (by omega)]))
    have q3 := hf j hj q2
    rw [q3]
    split <;> (repeat' split) <;> first | rfl | omega
  · (try simp (disch := omega) only [i32_lti, i32_lei, i32_eqi, nI_toInt, i32z] at c_37)
    have fin := fun (f' : Nat → Int32) => eT_part0 (f := f') ht t6 tb w4 w8 w9 (by omega)
    refine ev_aload_n (pc := 40) dX12_goesOn_40 rfl ?_
    refine ev_iconst (pc := 41) (v := nI 3) dX12_goesOn_41 kc_3 ?_
    refine ev_aload_n (pc := 42) dX12_goesOn_42 rfl ?_
    refine ev_iconst (pc := 43) (v := nI 2) dX12_goesOn_43 kc_2 ?_
    refine ev_iald (pc := 44) dX12_goesOn_44 (by (try dsimp only); (repeat (first | rw [up_s] | rw [up_n (by omega)])) <;> first | rfl | assumption) (nI_toInt (by omega)) (xg (by omega) ((ru_n (by omega)).trans ((ru_n (by omega)).trans ((ru_n (by omega)).trans e2)))) ?_
    refine ev_iadd (pc := 45) dX12_goesOn_45 ?_
    rw [nI_add]
    refine ev_bipush (pc := 46) (v := (-9)) dX12_goesOn_46 kb_m9 ?_
    refine ev_iast (pc := 48) dX12_goesOn_48 (by (try dsimp only); (repeat (first | rw [up_s] | rw [up_n (by omega)])) <;> first | rfl | assumption) (nI_toInt (by omega)) (by rw [ar_len]; omega) ?_
    rw [ar_set (by omega)]
    refine ev_aload_n (pc := 49) dX12_goesOn_49 rfl ?_
    refine ev_iconst (pc := 50) (v := nI 2) dX12_goesOn_50 kc_2 ?_
    refine ev_dup2 (pc := 51) dX12_goesOn_51 rfl rfl ?_
    refine ev_iald (pc := 52) dX12_goesOn_52 (by (try dsimp only); (repeat (first | rw [up_s] | rw [up_n (by omega)])) <;> first | rfl | assumption) (nI_toInt (by omega)) (xg (by omega) ((ru_n (by omega)).trans ((ru_n (by omega)).trans ((ru_n (by omega)).trans ((ru_n (by omega)).trans e2))))) ?_
    refine ev_iconst (pc := 53) (v := nI 1) dX12_goesOn_53 kc_1 ?_
    refine ev_isub (pc := 54) dX12_goesOn_54 ?_
    rw [nI_sub1 hl0]
    refine ev_iast (pc := 55) dX12_goesOn_55 (by (try dsimp only); (repeat (first | rw [up_s] | rw [up_n (by omega)])) <;> first | rfl | assumption) (nI_toInt (by omega)) (by rw [ar_len]; omega) ?_
    rw [ar_set (by omega)]
    refine ev_ret (pc := 56) dX12_goesOn_56 rfl (Nat.le_of_ble_eq_true rfl) (Nat.le_of_ble_eq_true rfl) ?_
    refine ⟨rfl, rfl, (by intro q hq; first | rfl | ((try dsimp only); (repeat (first | rw [up_n (by omega)])))), (up_s _ _ _).trans (congrArg (fun l => (some (.inr (0, .inl l)) : Option Ob)) (fin _ ?_))⟩
    intro j hj
    simp only [ru]
    by_cases q1 : j = 1
    · subst q1; (repeat (first | rw [if_pos rfl] | rw [if_neg (show ¬ (1 : Nat) = 2 by omega)] | rw [if_neg (show ¬ (1 : Nat) = 3 + (tO T).length by omega)]))
    by_cases q2 : j = 22 + t
    · subst q2; (repeat (first | rw [if_pos rfl] | rw [if_neg (by omega)]))
    have q3 := hf j hj q2
    rw [q3]
    split <;> (repeat' split) <;> first | rfl | omega
theorem c_goesOn (p : pRw h a T) (w : wT T) {t : Nat} (ht : (tO T).getLast? = some t) (h1 : 0 < tH T) : Ct X 1 mt_X12_goesOn [.ref a] (h, z) 0 0 (Qv (fun S' => S'.2 = z ∧ hfr h S'.1 a 1 ∧ pRw S'.1 a (tPart T t 1))) := by
  have hm := w.2.1 t (w.mem ht)
  exact c_goesOn0 p (fun j _ _ => rfl) ht hm.1 hm.2.1 w.2.2.2.1 w.2.2.2.2.2.2.2.1 w.2.2.2.2.2.2.2.2.1 h1 hm.2.2.1 (w.2.2.2.2.1 t)
theorem c_goesIn (p : pRw h a T) (w : wT T) {t : Nat} (t6 : t < 6) (hn : (tB T).testBit t = false) (h1 : 0 < tH T) (h2 : 0 < gN (tF T) t) : Ct X 2 mt_X12_goesIn [.ref a, .int (nI t)] (h, z) 0 0 (Qv (fun S' => S'.2 = z ∧ hfr h S'.1 a 1 ∧ pRw S'.1 a (tBeg T t))) := by
  have hl := w.len t6 hn
  unfold pRw at p
  refine mk_X12_goesIn (Nat.le_of_ble_eq_true rfl) (L := [.ref a, .int (nI t)]) rfl ?_
  have key : ∀ j : Nat, j < 28 → j ≠ 22 + t → ru (ru (ru (eT T) (16 + t) (nI 1)) 2 (nI ((tO T).length + 1))) (3 + ((tO T).length + 1)) (nI t) j = eT (tN T, tH T, tS T, tV T, tB T ||| (1 <<< t), tO T ++ [t], tF T, tA T) j := by
    intro j hj hne
    have hlen : (tO T ++ [t]).length = (tO T).length + 1 := by simp
    have hbit : ∀ k : Nat, (tB T ||| (1 <<< t)).testBit k = if k = t then true else (tB T).testBit k := by
      intro k
      rw [Nat.testBit_or, Nat.one_shiftLeft, Nat.testBit_two_pow]
      by_cases hk : k = t
      · rw [if_pos hk, hk, decide_eq_true rfl, Bool.or_true]
      · rw [if_neg hk, decide_eq_false (fun q => hk q.symm), Bool.or_false]
    by_cases j4 : j < 4
    · have : j = 0 ∨ j = 1 ∨ j = 2 ∨ j = 3 := by omega
      rcases this with q | q | q | q <;> subst q
      · rw [ru_n (by omega), ru_n (by omega), ru_n (by omega)]; rfl
      · rw [ru_n (by omega), ru_n (by omega), ru_n (by omega)]; rfl
      · rw [ru_n (by omega), ru_s]
        show _ = nI (tO T ++ [t]).length
        rw [hlen]
      · rw [ru_n (by omega), ru_n (by omega), ru_n (by omega)]; rfl
    by_cases j10 : j < 10
    · obtain ⟨k, rfl⟩ : ∃ k, j = 4 + k := ⟨j - 4, by omega⟩
      rw [eT_O _ (by omega)]
      show _ = if k < (tO T ++ [t]).length then nI (gN (tO T ++ [t]) k) else -9
      rw [hlen]
      by_cases hk : k = (tO T).length
      · subst hk
        rw [if_pos (by omega), gN_app (by omega), if_pos rfl, show 4 + (tO T).length = 3 + ((tO T).length + 1) by omega, ru_s]
      · rw [ru_n (by omega), ru_n (by omega), ru_n (by omega), eT_O _ (by omega)]
        by_cases hk2 : k < (tO T).length
        · rw [if_pos hk2, if_pos (by omega), gN_app (by omega), if_neg hk]
        · rw [if_neg hk2, if_neg (by omega)]
    rw [ru_n (by omega), ru_n (by omega)]
    by_cases j16 : j < 16
    · obtain ⟨k, rfl⟩ : ∃ k, j = 10 + k := ⟨j - 10, by omega⟩
      rw [ru_n (by omega), eT_F _ (by omega), eT_F _ (by omega)]
    by_cases j22 : j < 22
    · obtain ⟨k, rfl⟩ : ∃ k, j = 16 + k := ⟨j - 16, by omega⟩
      rw [eT_B _ (by omega)]
      show _ = b2i ((tB T ||| (1 <<< t)).testBit k)
      rw [hbit]
      by_cases hk : k = t
      · subst hk; rw [ru_s, if_pos rfl]; rfl
      · rw [ru_n (by omega), if_neg hk, eT_B _ (by omega)]
    · obtain ⟨k, rfl⟩ : ∃ k, j = 22 + k := ⟨j - 22, by omega⟩
      rw [ru_n (by omega), eT_A, eT_A]
      show _ = if (tB T ||| (1 <<< t)).testBit k = true then _ else _
      rw [hbit, if_neg (show ¬ k = t by omega)]
  refine ev_aload_n (pc := 0) dX12_goesIn_0 rfl ?_
  refine ev_bipush (pc := 1) (v := nI 16) dX12_goesIn_1 kb_16 ?_
  refine ev_iload_n (pc := 3) dX12_goesIn_3 rfl ?_
  refine ev_iadd (pc := 4) dX12_goesIn_4 ?_
  rw [nI_add]
  refine ev_iconst (pc := 5) (v := nI 1) dX12_goesIn_5 kc_1 ?_
  refine ev_iast (pc := 6) dX12_goesIn_6 (by (try dsimp only); (repeat (first | rw [up_s] | rw [up_n (by omega)])) <;> first | rfl | assumption) (nI_toInt (by omega)) (by rw [ar_len]; omega) ?_
  rw [ar_set (by omega)]
  refine ev_aload_n (pc := 7) dX12_goesIn_7 rfl ?_
  refine ev_iconst (pc := 8) (v := nI 2) dX12_goesIn_8 kc_2 ?_
  refine ev_dup2 (pc := 9) dX12_goesIn_9 rfl rfl ?_
  refine ev_iald (pc := 10) dX12_goesIn_10 (by (try dsimp only); (repeat (first | rw [up_s] | rw [up_n (by omega)])) <;> first | rfl | assumption) (nI_toInt (by omega)) (xg (by omega) ((ru_n (by omega)).trans (show eT T 2 = nI (tO T).length from rfl))) ?_
  refine ev_iconst (pc := 11) (v := nI 1) dX12_goesIn_11 kc_1 ?_
  refine ev_iadd (pc := 12) dX12_goesIn_12 ?_
  rw [nI_add]
  refine ev_iast (pc := 13) dX12_goesIn_13 (by (try dsimp only); (repeat (first | rw [up_s] | rw [up_n (by omega)])) <;> first | rfl | assumption) (nI_toInt (by omega)) (by rw [ar_len]; omega) ?_
  rw [ar_set (by omega)]
  refine ev_aload_n (pc := 14) dX12_goesIn_14 rfl ?_
  refine ev_iconst (pc := 15) (v := nI 3) dX12_goesIn_15 kc_3 ?_
  refine ev_aload_n (pc := 16) dX12_goesIn_16 rfl ?_
  refine ev_iconst (pc := 17) (v := nI 2) dX12_goesIn_17 kc_2 ?_
  refine ev_iald (pc := 18) dX12_goesIn_18 (by (try dsimp only); (repeat (first | rw [up_s] | rw [up_n (by omega)])) <;> first | rfl | assumption) (nI_toInt (by omega)) (xg (by omega) ru_s) ?_
  refine ev_iadd (pc := 19) dX12_goesIn_19 ?_
  rw [nI_add]
  refine ev_iload_n (pc := 20) dX12_goesIn_20 rfl ?_
  refine ev_iast (pc := 21) dX12_goesIn_21 (by (try dsimp only); (repeat (first | rw [up_s] | rw [up_n (by omega)])) <;> first | rfl | assumption) (nI_toInt (by omega)) (by rw [ar_len]; omega) ?_
  rw [ar_set (by omega)]
  refine ev_aload_n (pc := 22) dX12_goesIn_22 rfl ?_
  refine iv_X12_172 (pc := 23) rfl dX12_goesIn_23 (Nat.le_of_ble_eq_true rfl) (Nat.le_of_ble_eq_true rfl) (Nat.le_of_ble_eq_true rfl) (Nat.le_of_ble_eq_true rfl) (c_goesOn0 (T := (tN T, tH T, tS T, tV T, tB T ||| (1 <<< t), tO T ++ [t], tF T, tA T)) (up_s _ _ _) key (by show (tO T ++ [t]).getLast? = some t; simp) t6 (by show (tB T ||| 1 <<< t).testBit t = true; rw [Nat.testBit_or, Nat.one_shiftLeft, Nat.testBit_two_pow, decide_eq_true rfl, Bool.or_true]) (by show (tO T ++ [t]).length ≤ 6; rw [List.length_append, List.length_singleton]; omega) w.2.2.2.2.2.2.2.1 w.2.2.2.2.2.2.2.2.1 h1 h2 (w.2.2.2.2.1 t)) (kv (fun S' hS => ?_))
  obtain ⟨h', z'⟩ := S'
  obtain ⟨rfl, f2, p2⟩ := hS
  refine ev_ret (pc := 26) dX12_goesIn_26 rfl (Nat.le_of_ble_eq_true rfl) (Nat.le_of_ble_eq_true rfl) ?_
  exact ⟨rfl, rfl, (by intro q hq; refine (f2 q hq).trans ?_; (try dsimp only); (repeat (first | rw [up_n (by omega)]))), p2⟩
end MROW
