/-! ===== Rows: the table, read ===== -/
def wordL : List Nat → Nat
  | [] => 0
  | m :: ms => m + 64 * wordL ms
theorem wordL_lt : ∀ (l : List Nat), (∀ m ∈ l, m < 64) → wordL l < 64 ^ l.length
  | [], _ => by simp [wordL]
  | m :: ms, h => by
    have h1 := h m List.mem_cons_self
    have h2 := wordL_lt ms (fun x hx => h x (List.mem_cons_of_mem _ hx))
    rw [wordL, List.length_cons, Nat.pow_succ]
    omega
theorem wordL_app : ∀ (l : List Nat) (m : Nat), wordL (l ++ [m]) = wordL l + m * 64 ^ l.length
  | [], m => by simp [wordL]
  | a :: l, m => by
    rw [List.cons_append, wordL, wordL_app l m, wordL, List.length_cons, Nat.pow_succ, Nat.mul_add, ← Nat.mul_assoc, Nat.mul_comm 64 m, Nat.mul_assoc m 64, Nat.mul_comm 64 (64 ^ l.length)]
    omega
theorem wordL_get : ∀ (l : List Nat) (j : Nat), (∀ m ∈ l, m < 64) → wordL l / 64 ^ j % 64 = gN l j
  | [], j, _ => by simp [wordL, gN]
  | m :: ms, 0, h => by
    have h1 := h m List.mem_cons_self
    rw [wordL, Nat.pow_zero, Nat.div_one]
    show _ = m
    omega
  | m :: ms, j + 1, h => by
    have h1 := h m List.mem_cons_self
    have h2 := wordL_get ms j (fun x hx => h x (List.mem_cons_of_mem _ hx))
    rw [wordL, Nat.pow_succ, Nat.mul_comm (64 ^ j) 64, ← Nat.div_div_eq_div_mul, show (m + 64 * wordL ms) / 64 = wordL ms by omega]
    exact h2
/-- the k-th word of what was open at the dawns -/
def wds (ms : List Nat) (k : Nat) : Nat := wordL ((ms.drop (10 * k)).take 10)
theorem wds_lt {ms : List Nat} (h : ∀ m ∈ ms, m < 64) (k : Nat) : wds ms k < 2 ^ 60 := by
  have h1 : ∀ m ∈ (ms.drop (10 * k)).take 10, m < 64 := fun m hm => h m (List.mem_of_mem_drop (List.mem_of_mem_take hm))
  have h2 := wordL_lt _ h1
  have h3 : ((ms.drop (10 * k)).take 10).length ≤ 10 := by rw [List.length_take]; omega
  have h4 : (64 : Nat) ^ ((ms.drop (10 * k)).take 10).length ≤ 64 ^ 10 := Nat.pow_le_pow_right (by omega) h3
  unfold wds
  have h5 : (64 : Nat) ^ 10 = 2 ^ 60 := by decide
  omega
theorem wds_get {ms : List Nat} (h : ∀ m ∈ ms, m < 64) {d : Nat} : wds ms (d / 10) / 2 ^ (d % 10 * 6) % 64 = gN ms d := by
  have h1 : ∀ m ∈ (ms.drop (10 * (d / 10))).take 10, m < 64 := fun m hm => h m (List.mem_of_mem_drop (List.mem_of_mem_take hm))
  have h2 := wordL_get _ (d % 10) h1
  have e : (2 : Nat) ^ (d % 10 * 6) = 64 ^ (d % 10) := by rw [Nat.mul_comm, Nat.pow_mul]
  unfold wds
  rw [e, h2]
  simp only [gN, List.getD_eq_getElem?_getD, List.getElem?_take, List.getElem?_drop]
  rw [if_pos (by omega), show 10 * (d / 10) + d % 10 = d by omega]
theorem wds_app {ms : List Nat} (h : ∀ m ∈ ms, m < 64) (m : Nat) (k : Nat) : wds (ms ++ [m]) k = if k = ms.length / 10 then wds ms k + m * 2 ^ (ms.length % 10 * 6) else wds ms k := by
  unfold wds
  by_cases h1 : k = ms.length / 10
  · rw [if_pos h1, List.drop_append_of_le_length (by omega), List.take_append]
    have hl : (ms.drop (10 * k)).length = ms.length % 10 := by rw [List.length_drop]; omega
    rw [hl, List.take_of_length_le (show (ms.drop (10 * k)).length ≤ 10 by omega), List.take_of_length_le (show [m].length ≤ 10 - ms.length % 10 by simp; omega), wordL_app, hl, Nat.mul_comm (ms.length % 10) 6, Nat.pow_mul]
  · rw [if_neg h1]
    rcases Nat.lt_or_ge k (ms.length / 10) with h2 | h2
    · rw [List.drop_append_of_le_length (by omega), List.take_append_of_le_length (by rw [List.length_drop]; omega)]
    · rw [List.drop_eq_nil_of_le (by simp; omega), List.drop_eq_nil_of_le (by omega)]
theorem lgm {l : List Nat} {n : Nat} (h : n < l.length) : (l.map lN)[n]? = some (lN (gN l n)) := by
  rw [List.getElem?_map, List.getElem?_eq_getElem h]
  simp [gN, List.getD_eq_getElem?_getD, List.getElem?_eq_getElem h]
theorem lgs (l : List Nat) (n v : Nat) : (l.map lN).set n (lN v) = (l.set n v).map lN := (List.map_set ..).symm
/-- a row of tales as figures -/
def cod (w : List Nat) : Nat := w.foldl (fun c t => c * 10 + t + 1) 0
theorem cod_app (w : List Nat) (t : Nat) : cod (w ++ [t]) = cod w * 10 + t + 1 := by simp [cod]
theorem cod_lt {w : List Nat} (h : ∀ t ∈ w, t < 9) : cod w < 10 ^ w.length := by
  rcases List.eq_nil_or_concat w with e | ⟨l, t, e⟩
  · subst e; simp [cod]
  · rw [List.concat_eq_append] at e
    subst e
    have h1 := cod_lt (w := l) (fun x hx => h x (List.mem_append_left _ hx))
    have h2 := h t (by simp)
    rw [cod_app, List.length_append, List.length_singleton, Nat.pow_succ]
    omega
termination_by w.length
decreasing_by subst e; simp
theorem cod_lt6 {w : List Nat} (h : ∀ t ∈ w, t < 6) (h6 : w.length ≤ 6) : cod w < 1000000 := by
  have h1 := cod_lt (w := w) (fun t ht => by have := h t ht; omega)
  have h2 : (10 : Nat) ^ w.length ≤ 10 ^ 6 := Nat.pow_le_pow_right (by omega) h6
  omega
def popN (m : Nat) : Nat := (List.range 6).countP (fun t => m.testBit t)
theorem popN_le (m : Nat) : popN m ≤ 6 := by
  have := List.countP_le_length (p := fun t => m.testBit t) (l := List.range 6)
  simpa [popN] using this
def bcI (x : Int32) : Int32 :=
  let a := x - ((x.toUInt32 >>> ((nI 1).toUInt32 &&& Int32.toUInt32 31)).toInt32 &&& 1431655765)
  let b := (a &&& 858993459) + ((a.toUInt32 >>> ((nI 2).toUInt32 &&& Int32.toUInt32 31)).toInt32 &&& 858993459)
  let c := (b + (b.toUInt32 >>> ((nI 4).toUInt32 &&& Int32.toUInt32 31)).toInt32) &&& 252645135
  let d := c + (c.toUInt32 >>> ((nI 8).toUInt32 &&& Int32.toUInt32 31)).toInt32
  let e := d + (d.toUInt32 >>> ((nI 16).toUInt32 &&& Int32.toUInt32 31)).toInt32
  e &&& nI 63
theorem bcI_popN : ∀ m, m < 64 → bcI (nI m) = nI (popN m) := by decide +kernel
def pRow (h : Hp) (r : Nat) (W : List (List Nat)) : Prop := ∃ rs : List Nat, h (r + 1) = some (.inr (0, .inl (rs.map nI))) ∧ rs.length = 1957 ∧ W.length ≤ 1957 ∧ (∀ (i : Nat) (w : List Nat), W[i]? = some w → gN rs i = cod w ∧ (∀ t ∈ w, t < 6) ∧ w.length ≤ 6)
def pOut (h : Hp) (r : Nat) (W : List (List Nat)) (O : List Nat → List Nat) : Prop := ∃ sv ow st : List Nat, h (r + 2) = some (.inr (1, .inl (sv.map nI))) ∧ sv.length = 1957 ∧ h (r + 3) = some (.inr (3, .inr (.inl (ow.map lN)))) ∧ ow.length = 5871 ∧ h (r + 4) = some (.inr (2, .inl (st.map nI))) ∧ st.length = 1957 ∧ (∀ (i : Nat) (w : List Nat), W[i]? = some w → gN sv i = (O w).length ∧ (∀ k : Nat, k < 3 → gN ow (3 * i + k) = wds (O w) k) ∧ (O w).length ≤ 30 ∧ ∀ m ∈ O w, m < 64)
/-- Rows' own object -/
def pRO (h : Hp) (r size full : Nat) (kn : Bool) (lb osz nx : Int32) : Prop := h r = some (.inl (5, [.ref (r + 1), .ref (r + 2), .ref (r + 3), .ref (r + 4), .int (nI size), .int (nI full), .int (b2i kn), .int lb, .ref (r + 5), .ref (r + 9), .ref (r + 10), .int osz, .int nx, .ref (r + 11)]))
section ROWS
variable {X : Cx} {h : Hp} {z r size full i d : Nat} {kn : Bool} {lb osz nx : Int32} {W : List (List Nat)} {O : List Nat → List Nat} {w : List Nat}
theorem c_bitCount (x : Int32) : Ct X 0 mt_J6_bitCount_0f7a4 [.int x] (h, z) 0 0 (QP (.int (bcI x)) (h, z)) := by
  refine mk_J6_bitCount_0f7a4 (Nat.le_of_ble_eq_true rfl) (L := [.int x]) rfl ?_
  refine ev_iload_n (pc := 0) dJ6_bitCount_0f7a4_0 rfl ?_
  refine ev_iload_n (pc := 1) dJ6_bitCount_0f7a4_1 rfl ?_
  refine ev_iconst (pc := 2) (v := nI 1) dJ6_bitCount_0f7a4_2 kc_1 ?_
  refine ev_iushr (pc := 3) dJ6_bitCount_0f7a4_3 rfl ?_
  refine ev_ldc_w (pc := 4) dJ6_bitCount_0f7a4_4 tw_685 ?_
  refine ev_iand (pc := 7) dJ6_bitCount_0f7a4_7 ?_
  refine ev_isub (pc := 8) dJ6_bitCount_0f7a4_8 ?_
  refine ev_istore_n (pc := 9) (L' := [_]) dJ6_bitCount_0f7a4_9 (Nat.le_of_ble_eq_true rfl) rfl ?_
  refine ev_iload_n (pc := 10) dJ6_bitCount_0f7a4_10 rfl ?_
  refine ev_ldc_w (pc := 11) dJ6_bitCount_0f7a4_11 tw_686 ?_
  refine ev_iand (pc := 14) dJ6_bitCount_0f7a4_14 ?_
  refine ev_iload_n (pc := 15) dJ6_bitCount_0f7a4_15 rfl ?_
  refine ev_iconst (pc := 16) (v := nI 2) dJ6_bitCount_0f7a4_16 kc_2 ?_
  refine ev_iushr (pc := 17) dJ6_bitCount_0f7a4_17 rfl ?_
  refine ev_ldc_w (pc := 18) dJ6_bitCount_0f7a4_18 tw_686 ?_
  refine ev_iand (pc := 21) dJ6_bitCount_0f7a4_21 ?_
  refine ev_iadd (pc := 22) dJ6_bitCount_0f7a4_22 ?_
  refine ev_istore_n (pc := 23) (L' := [_]) dJ6_bitCount_0f7a4_23 (Nat.le_of_ble_eq_true rfl) rfl ?_
  refine ev_iload_n (pc := 24) dJ6_bitCount_0f7a4_24 rfl ?_
  refine ev_iload_n (pc := 25) dJ6_bitCount_0f7a4_25 rfl ?_
  refine ev_iconst (pc := 26) (v := nI 4) dJ6_bitCount_0f7a4_26 kc_4 ?_
  refine ev_iushr (pc := 27) dJ6_bitCount_0f7a4_27 rfl ?_
  refine ev_iadd (pc := 28) dJ6_bitCount_0f7a4_28 ?_
  refine ev_ldc_w (pc := 29) dJ6_bitCount_0f7a4_29 tw_687 ?_
  refine ev_iand (pc := 32) dJ6_bitCount_0f7a4_32 ?_
  refine ev_istore_n (pc := 33) (L' := [_]) dJ6_bitCount_0f7a4_33 (Nat.le_of_ble_eq_true rfl) rfl ?_
  refine ev_iload_n (pc := 34) dJ6_bitCount_0f7a4_34 rfl ?_
  refine ev_iload_n (pc := 35) dJ6_bitCount_0f7a4_35 rfl ?_
  refine ev_bipush (pc := 36) (v := nI 8) dJ6_bitCount_0f7a4_36 kb_8 ?_
  refine ev_iushr (pc := 38) dJ6_bitCount_0f7a4_38 rfl ?_
  refine ev_iadd (pc := 39) dJ6_bitCount_0f7a4_39 ?_
  refine ev_istore_n (pc := 40) (L' := [_]) dJ6_bitCount_0f7a4_40 (Nat.le_of_ble_eq_true rfl) rfl ?_
  refine ev_iload_n (pc := 41) dJ6_bitCount_0f7a4_41 rfl ?_
  refine ev_iload_n (pc := 42) dJ6_bitCount_0f7a4_42 rfl ?_
  refine ev_bipush (pc := 43) (v := nI 16) dJ6_bitCount_0f7a4_43 kb_16 ?_
  refine ev_iushr (pc := 45) dJ6_bitCount_0f7a4_45 rfl ?_
  refine ev_iadd (pc := 46) dJ6_bitCount_0f7a4_46 ?_
  refine ev_istore_n (pc := 47) (L' := [_]) dJ6_bitCount_0f7a4_47 (Nat.le_of_ble_eq_true rfl) rfl ?_
  refine ev_iload_n (pc := 48) dJ6_bitCount_0f7a4_48 rfl ?_
  refine ev_bipush (pc := 49) (v := nI 63) dJ6_bitCount_0f7a4_49 kb_63 ?_
  refine ev_iand (pc := 51) dJ6_bitCount_0f7a4_51 ?_
  refine ev_iret (pc := 52) dJ6_bitCount_0f7a4_52 rfl rfl (Nat.le_of_ble_eq_true rfl) (Nat.le_of_ble_eq_true rfl) ?_
  exact ⟨rfl, rfl⟩
theorem c_bitCountN {m : Nat} (hm : m < 64) : Ct X 0 mt_J6_bitCount_0f7a4 [.int (nI m)] (h, z) 0 0 (QP (.int (nI (popN m))) (h, z)) := by
  rw [← bcI_popN m hm]
  exact c_bitCount _
theorem c_fill {a : Nat} {xs : List Int64} (ha : h a = some (.inr (3, .inr (.inl xs)))) (hl : xs.length < 1000) (v : Int64) : Ct X 0 mt_J7_fill_d0a16 [.ref a, .long v] (h, z) 0 0 (Qv (fun S' => S'.2 = z ∧ hfr h S'.1 a 1 ∧ S'.1 a = some (.inr (3, .inr (.inl (List.replicate xs.length v)))))) := by
  refine mk_J7_fill_d0a16 (Nat.le_of_ble_eq_true rfl) (L := [.ref a, .long v, .retAddr 0, .retAddr 0, .retAddr 0]) rfl ?_
  have loop : ∀ (n i : Nat), xs.length - i = n → i ≤ xs.length → ∀ (h1 : Hp) (ys : List Int64), hfr h h1 a 1 → ys.length = xs.length → h1 a = some (.inr (3, .inr (.inl ys))) → (∀ j : Nat, j < i → ys[j]? = some v) → Ev X (mi_J7_fill_d0a16 0 0 0) (Qv (fun S' => S'.2 = z ∧ hfr h S'.1 a 1 ∧ S'.1 a = some (.inr (3, .inr (.inl (List.replicate xs.length v)))))) 0 0 (h1, z) 6 [.ref a, .long v, .retAddr 0, .int (nI i), .int (nI xs.length)] [] := by
    intro n
    induction n with
    | zero =>
      intro i hn hi h1 ys f1 l1 ha hj
      have hi2 : i = xs.length := by omega
      subst hi2
      have e : ys = List.replicate xs.length v := by
        apply List.ext_getElem?
        intro j
        by_cases hq : j < xs.length
        · rw [hj j hq, List.getElem?_replicate, if_pos hq]
        · rw [List.getElem?_eq_none (by omega), List.getElem?_eq_none (by simp; omega)]
      subst e
      refine ev_iload_n (pc := 6) dJ7_fill_d0a16_6 rfl ?_
      refine ev_iload (pc := 7) dJ7_fill_d0a16_7 rfl ?_
      refine ev_icmp_ge (pc := 9) 22 dJ7_fill_d0a16_9 (by decide) (fun c_9 => ?_) (fun c_9 => ?_)
      · (try simp (disch := omega) only [i32_lti, i32_lei, i32_eqi, nI_toInt, i32z] at c_9)
        refine ev_ret (pc := 22) dJ7_fill_d0a16_22 rfl (Nat.le_of_ble_eq_true rfl) (Nat.le_of_ble_eq_true rfl) ?_
        exact ⟨rfl, rfl, f1, ha⟩
      · exfalso; (try simp (disch := omega) only [i32_lti, i32_lei, i32_eqi, nI_toInt, i32z] at c_9); omega
    | succ n ih =>
      intro i hn hi h1 ys f1 l1 ha hj
      refine ev_iload_n (pc := 6) dJ7_fill_d0a16_6 rfl ?_
      refine ev_iload (pc := 7) dJ7_fill_d0a16_7 rfl ?_
      refine ev_icmp_ge (pc := 9) 22 dJ7_fill_d0a16_9 (by decide) (fun c_9 => ?_) (fun c_9 => ?_)
      · exfalso; (try simp (disch := omega) only [i32_lti, i32_lei, i32_eqi, nI_toInt, i32z] at c_9); omega
      · (try simp (disch := omega) only [i32_lti, i32_lei, i32_eqi, nI_toInt, i32z] at c_9)
        refine ev_aload_n (pc := 12) dJ7_fill_d0a16_12 rfl ?_
        refine ev_iload_n (pc := 13) dJ7_fill_d0a16_13 rfl ?_
        refine ev_lload_n (pc := 14) dJ7_fill_d0a16_14 rfl ?_
        refine ev_last (pc := 15) dJ7_fill_d0a16_15 (by (try dsimp only); (repeat (first | rw [up_s] | rw [up_n (by omega)])) <;> first | rfl | assumption) (nI_toInt (by omega)) (by omega) ?_
        refine ev_iinc (pc := 16) (L' := [_, _, _, _, _]) dJ7_fill_d0a16_16 rfl (nI_1 _) rfl ?_
        refine ev_goto (pc := 19) 6 dJ7_fill_d0a16_19 (by decide) ?_
        refine ih (i + 1) (by omega) (by omega) _ (ys.set i v) (by intro q hq; (try dsimp only); (repeat (first | rw [up_n (by omega)])) <;> first | rfl | exact f1 q hq) ((List.length_set ..).trans l1) (by (try dsimp only); (repeat (first | rw [up_s] | rw [up_n (by omega)])) <;> first | rfl | assumption) (fun j hj2 => ?_)
        rw [List.getElem?_set]
        by_cases hq : i = j
        · rw [if_pos hq, if_pos (by omega)]
        · rw [if_neg hq]; exact hj j (by omega)
  refine ev_iconst (pc := 0) (v := nI 0) dJ7_fill_d0a16_0 kc_0 ?_
  refine ev_istore_n (pc := 1) (L' := [_, _, _, _, _]) dJ7_fill_d0a16_1 (Nat.le_of_ble_eq_true rfl) rfl ?_
  refine ev_aload_n (pc := 2) dJ7_fill_d0a16_2 rfl ?_
  refine ev_alen (pc := 3) (t := 3) dJ7_fill_d0a16_3 (Nat.le_of_ble_eq_true rfl) (by (try dsimp only); (repeat (first | rw [up_s] | rw [up_n (by omega)])) <;> first | rfl | assumption) ?_
  refine ev_istore (pc := 4) (L' := [_, _, _, _, _]) dJ7_fill_d0a16_4 (Nat.le_of_ble_eq_true rfl) rfl ?_
  exact loop _ 0 rfl (Nat.zero_le _) h xs (hfr.rf _ _ _) rfl ha (fun j hj => by omega)
theorem c_shiftOf {d : Nat} (hd : d < 1000) : Ct X 0 mt_X5_shiftOf [.int (nI d)] (h, z) 0 0 (QP (.int (nI (d % 10 * 6))) (h, z)) := by
  refine mk_X5_shiftOf (Nat.le_of_ble_eq_true rfl) (L := [.int (nI d)]) rfl ?_
  refine ev_iload_n (pc := 0) dX5_shiftOf_0 rfl ?_
  refine ev_bipush (pc := 1) (v := nI 10) dX5_shiftOf_1 kb_10 ?_
  refine ev_irem (pc := 3) dX5_shiftOf_3 (by decide) ?_
  rw [pk_rem (by omega) (by omega) (by omega)]
  refine ev_bipush (pc := 4) (v := nI 6) dX5_shiftOf_4 kb_6 ?_
  refine ev_imul (pc := 6) dX5_shiftOf_6 ?_
  rw [pk_mul]
  refine ev_iret (pc := 7) dX5_shiftOf_7 rfl rfl (Nat.le_of_ble_eq_true rfl) (Nat.le_of_ble_eq_true rfl) ?_
  exact ⟨rfl, rfl⟩
theorem c_rowAt (p : pRO h r size full kn lb osz nx) (q : pRow h r W) (hi : W[i]? = some w) : Ct X 0 mt_X5_rowAt [.ref r, .int (nI i)] (h, z) 0 0 (QP (.int (nI (cod w))) (h, z)) := by
  obtain ⟨rs, h1, l1, l2, l3⟩ := q
  unfold pRO at p
  have hil := (List.getElem?_eq_some_iff.mp hi).1
  refine mk_X5_rowAt (Nat.le_of_ble_eq_true rfl) (L := [.ref r, .int (nI i)]) rfl ?_
  refine ev_iload_n (pc := 0) dX5_rowAt_0 rfl ?_
  refine ev_if_lt (pc := 1) 20 dX5_rowAt_1 (by decide) (fun c_1 => ?_) (fun c_1 => ?_)
  · exfalso; (try simp (disch := omega) only [i32_lti, i32_lei, i32_eqi, nI_toInt, i32z] at c_1); omega
  · (try simp (disch := omega) only [i32_lti, i32_lei, i32_eqi, nI_toInt, i32z] at c_1)
    refine ev_iload_n (pc := 4) dX5_rowAt_4 rfl ?_
    refine ev_sipush (pc := 5) (v := nI 1957) dX5_rowAt_5 ks_1957 ?_
    refine ev_icmp_ge (pc := 8) 20 dX5_rowAt_8 (by decide) (fun c_8 => ?_) (fun c_8 => ?_)
    · exfalso; (try simp (disch := omega) only [i32_lti, i32_lei, i32_eqi, nI_toInt, i32z] at c_8); omega
    · (try simp (disch := omega) only [i32_lti, i32_lei, i32_eqi, nI_toInt, i32z] at c_8)
      refine ev_aload_n (pc := 11) dX5_rowAt_11 rfl ?_
      refine gf_X5_11 (pc := 12) rfl dX5_rowAt_12 (by (try dsimp only); (repeat (first | rw [up_s] | rw [up_n (by omega)])) <;> first | rfl | assumption) ?_
      refine ev_iload_n (pc := 15) dX5_rowAt_15 rfl ?_
      refine ev_iald (pc := 16) dX5_rowAt_16 (by (try dsimp only); (repeat (first | rw [up_s] | rw [up_n (by omega)])) <;> first | rfl | assumption) (nI_toInt (by omega)) (gm (by omega)) ?_
      refine ev_goto (pc := 17) 21 dX5_rowAt_17 (by decide) ?_
      refine ev_iret (pc := 21) dX5_rowAt_21 rfl rfl (Nat.le_of_ble_eq_true rfl) (Nat.le_of_ble_eq_true rfl) ?_
      exact ⟨by rw [(l3 i w hi).1], rfl⟩
theorem c_savedBy (p : pRO h r size full kn lb osz nx) (q : pOut h r W O) (hi : W[i]? = some w) (h19 : i < 1957) : Ct X 0 mt_X5_savedBy [.ref r, .int (nI i)] (h, z) 0 0 (QP (.int (nI (O w).length)) (h, z)) := by
  obtain ⟨sv, ow, st, h1, l1, h2, l2, h3, l3, l4⟩ := q
  unfold pRO at p
  refine mk_X5_savedBy (Nat.le_of_ble_eq_true rfl) (L := [.ref r, .int (nI i)]) rfl ?_
  refine ev_iload_n (pc := 0) dX5_savedBy_0 rfl ?_
  refine ev_if_lt (pc := 1) 20 dX5_savedBy_1 (by decide) (fun c_1 => ?_) (fun c_1 => ?_)
  · exfalso; (try simp (disch := omega) only [i32_lti, i32_lei, i32_eqi, nI_toInt, i32z] at c_1); omega
  · (try simp (disch := omega) only [i32_lti, i32_lei, i32_eqi, nI_toInt, i32z] at c_1)
    refine ev_iload_n (pc := 4) dX5_savedBy_4 rfl ?_
    refine ev_sipush (pc := 5) (v := nI 1957) dX5_savedBy_5 ks_1957 ?_
    refine ev_icmp_ge (pc := 8) 20 dX5_savedBy_8 (by decide) (fun c_8 => ?_) (fun c_8 => ?_)
    · exfalso; (try simp (disch := omega) only [i32_lti, i32_lei, i32_eqi, nI_toInt, i32z] at c_8); omega
    · (try simp (disch := omega) only [i32_lti, i32_lei, i32_eqi, nI_toInt, i32z] at c_8)
      refine ev_aload_n (pc := 11) dX5_savedBy_11 rfl ?_
      refine gf_X5_15 (pc := 12) rfl dX5_savedBy_12 (by (try dsimp only); (repeat (first | rw [up_s] | rw [up_n (by omega)])) <;> first | rfl | assumption) ?_
      refine ev_iload_n (pc := 15) dX5_savedBy_15 rfl ?_
      refine ev_bald (pc := 16) dX5_savedBy_16 (by (try dsimp only); (repeat (first | rw [up_s] | rw [up_n (by omega)])) <;> first | rfl | assumption) (nI_toInt (by omega)) (gm (by omega)) ?_
      refine ev_goto (pc := 17) 21 dX5_savedBy_17 (by decide) ?_
      refine ev_iret (pc := 21) dX5_savedBy_21 rfl rfl (Nat.le_of_ble_eq_true rfl) (Nat.le_of_ble_eq_true rfl) ?_
      exact ⟨by rw [(l4 i w hi).1], rfl⟩
theorem c_rOpenAt (p : pRO h r size full kn lb osz nx) (q : pOut h r W O) (hi : W[i]? = some w) (h19 : i < 1957) (h1d : 1 ≤ d) (hd : d ≤ 30) : Ct X 1 mt_X5_openAt [.ref r, .int (nI i), .int (nI d)] (h, z) 0 0 (QP (.int (nI (gN (O w) (d - 1)))) (h, z)) := by
  obtain ⟨sv, ow, st, h1, l1, h2, l2, h3, l3, l4⟩ := q
  obtain ⟨m1, m2, m3, m4⟩ := l4 i w hi
  unfold pRO at p
  have e0 := m2 ((d - 1) / 10) (by omega)
  have e1 := wds_get m4 (d := d - 1)
  have e2 := wds_lt m4 ((d - 1) / 10)
  refine mk_X5_openAt (Nat.le_of_ble_eq_true rfl) (L := [.ref r, .int (nI i), .int (nI d), .retAddr 0]) rfl ?_
  refine ev_iload_n (pc := 0) dX5_openAt_0 rfl ?_
  refine ev_iconst (pc := 1) (v := nI 3) dX5_openAt_1 kc_3 ?_
  refine ev_imul (pc := 2) dX5_openAt_2 ?_
  rw [pk_mul]
  refine ev_iload_n (pc := 3) dX5_openAt_3 rfl ?_
  refine ev_iconst (pc := 4) (v := nI 1) dX5_openAt_4 kc_1 ?_
  refine ev_isub (pc := 5) dX5_openAt_5 ?_
  rw [nI_sub1 (by omega)]
  refine ev_bipush (pc := 6) (v := nI 10) dX5_openAt_6 kb_10 ?_
  refine ev_idiv (pc := 8) dX5_openAt_8 (by decide) ?_
  rw [pk_div (by omega) (by omega) (by omega)]
  refine ev_iadd (pc := 9) dX5_openAt_9 ?_
  rw [nI_add]
  refine ev_istore_n (pc := 10) (L' := [_, _, _, _]) dX5_openAt_10 (Nat.le_of_ble_eq_true rfl) rfl ?_
  refine ev_iload_n (pc := 11) dX5_openAt_11 rfl ?_
  refine ev_if_lt (pc := 12) 42 dX5_openAt_12 (by decide) (fun c_12 => ?_) (fun c_12 => ?_)
  · exfalso; (try simp (disch := omega) only [i32_lti, i32_lei, i32_eqi, nI_toInt, i32z] at c_12); omega
  · (try simp (disch := omega) only [i32_lti, i32_lei, i32_eqi, nI_toInt, i32z] at c_12)
    refine ev_iload_n (pc := 15) dX5_openAt_15 rfl ?_
    refine ev_sipush (pc := 16) (v := nI 1957) dX5_openAt_16 ks_1957 ?_
    refine ev_icmp_ge (pc := 19) 42 dX5_openAt_19 (by decide) (fun c_19 => ?_) (fun c_19 => ?_)
    · exfalso; (try simp (disch := omega) only [i32_lti, i32_lei, i32_eqi, nI_toInt, i32z] at c_19); omega
    · (try simp (disch := omega) only [i32_lti, i32_lei, i32_eqi, nI_toInt, i32z] at c_19)
      refine ev_iload_n (pc := 22) dX5_openAt_22 rfl ?_
      refine ev_iconst (pc := 23) (v := nI 1) dX5_openAt_23 kc_1 ?_
      refine ev_icmp_lt (pc := 24) 42 dX5_openAt_24 (by decide) (fun c_24 => ?_) (fun c_24 => ?_)
      · exfalso; (try simp (disch := omega) only [i32_lti, i32_lei, i32_eqi, nI_toInt, i32z] at c_24); omega
      · (try simp (disch := omega) only [i32_lti, i32_lei, i32_eqi, nI_toInt, i32z] at c_24)
        refine ev_iload_n (pc := 27) dX5_openAt_27 rfl ?_
        refine ev_bipush (pc := 28) (v := nI 30) dX5_openAt_28 kb_30 ?_
        refine ev_icmp_gt (pc := 30) 42 dX5_openAt_30 (by decide) (fun c_30 => ?_) (fun c_30 => ?_)
        · exfalso; (try simp (disch := omega) only [i32_lti, i32_lei, i32_eqi, nI_toInt, i32z] at c_30); omega
        · (try simp (disch := omega) only [i32_lti, i32_lei, i32_eqi, nI_toInt, i32z] at c_30)
          refine ev_iload_n (pc := 33) dX5_openAt_33 rfl ?_
          refine ev_aload_n (pc := 34) dX5_openAt_34 rfl ?_
          refine gf_X5_19 (pc := 35) rfl dX5_openAt_35 (by (try dsimp only); (repeat (first | rw [up_s] | rw [up_n (by omega)])) <;> first | rfl | assumption) ?_
          refine ev_alen (pc := 38) (t := 3) dX5_openAt_38 (Nat.le_of_ble_eq_true rfl) (by (try dsimp only); (repeat (first | rw [up_s] | rw [up_n (by omega)])) <;> first | rfl | assumption) ?_
          refine ev_icmp_lt (pc := 39) 44 dX5_openAt_39 (by decide) (fun c_39 => ?_) (fun c_39 => ?_)
          · simp only [am_len, List.length_map, l2] at c_39
            (try simp (disch := omega) only [i32_lti, i32_lei, i32_eqi, nI_toInt, i32z] at c_39)
            refine ev_aload_n (pc := 44) dX5_openAt_44 rfl ?_
            refine gf_X5_19 (pc := 45) rfl dX5_openAt_45 (by (try dsimp only); (repeat (first | rw [up_s] | rw [up_n (by omega)])) <;> first | rfl | assumption) ?_
            refine ev_iload_n (pc := 48) dX5_openAt_48 rfl ?_
            refine ev_lald (pc := 49) dX5_openAt_49 (by (try dsimp only); (repeat (first | rw [up_s] | rw [up_n (by omega)])) <;> first | rfl | assumption) (nI_toInt (by omega)) (lgm (by omega)) ?_
            rw [Nat.mul_comm i 3, e0]
            refine ev_iload_n (pc := 50) dX5_openAt_50 rfl ?_
            refine ev_iconst (pc := 51) (v := nI 1) dX5_openAt_51 kc_1 ?_
            refine ev_isub (pc := 52) dX5_openAt_52 ?_
            rw [nI_sub1 (by omega)]
            refine iv_X5_80 (pc := 53) rfl dX5_openAt_53 (Nat.le_of_ble_eq_true rfl) (Nat.le_of_ble_eq_true rfl) (Nat.le_of_ble_eq_true rfl) (Nat.le_of_ble_eq_true rfl) (c_shiftOf (by omega)) (kp ?_)
            refine ev_lushr (pc := 56) dX5_openAt_56 (wb_shr (by omega) (by omega)) ?_
            refine ev_l2i (pc := 57) dX5_openAt_57 ?_
            rw [lN_i]
            refine ev_bipush (pc := 58) (v := nI 63) dX5_openAt_58 kb_63 ?_
            refine ev_iand (pc := 60) dX5_openAt_60 ?_
            rw [show nI 63 = nI (2 ^ 6 - 1) from rfl, nx_and, Nat.and_two_pow_sub_one_eq_mod]
            refine ev_iret (pc := 61) dX5_openAt_61 rfl rfl (Nat.le_of_ble_eq_true rfl) (Nat.le_of_ble_eq_true rfl) ?_
            exact ⟨by rw [← e1], rfl⟩
          · exfalso; simp only [am_len, List.length_map, l2] at c_39; (try simp (disch := omega) only [i32_lti, i32_lei, i32_eqi, nI_toInt, i32z] at c_39); omega
end ROWS
