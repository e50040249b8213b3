/-! ===== Rows: what is asked of the table ===== -/
def gW (W : List (List Nat)) (i : Nat) : List Nat := W.getD i []
theorem gW_get {W : List (List Nat)} {i : Nat} (h : i < W.length) : W[i]? = some (gW W i) := by
  simp [gW, List.getD_eq_getElem?_getD, List.getElem?_eq_getElem h]
theorem gN_lt {l : List Nat} {c : Nat} (h : ∀ m ∈ l, m < c) (h0 : 0 < c) (i : Nat) : gN l i < c := by
  by_cases hi : i < l.length
  · exact h _ (gN_mem hi)
  · rw [show gN l i = 0 by simp [gN, List.getD_eq_getElem?_getD, List.getElem?_eq_none (Nat.le_of_not_lt hi)]]; exact h0
def moN (ms : List Nat) : Nat → Nat
  | 0 => 0
  | d + 1 => max (moN ms d) (popN (gN ms d))
theorem moN_le (ms : List Nat) : ∀ d : Nat, moN ms d ≤ 6
  | 0 => Nat.zero_le _
  | d + 1 => by
    have h1 := moN_le ms d
    have h2 := popN_le (gN ms d)
    show max _ _ ≤ 6
    omega
def bIx (S : Nat → Nat) : Nat → Nat
  | 0 => 0
  | i + 1 => if S (bIx S i) < S i then i else bIx S i
theorem bIx_lt (S : Nat → Nat) : ∀ n : Nat, 0 < n → bIx S n < n
  | 0, h => by omega
  | 1, _ => by
    show (if S 0 < S 0 then 0 else 0) < 1
    simp
  | n + 2, _ => by
    have := bIx_lt S (n + 1) (by omega)
    show (if S (bIx S (n + 1)) < S (n + 1) then n + 1 else bIx S (n + 1)) < n + 2
    split <;> omega
/-- the first place from i on, of so many, at which P holds -/
def fiX (P : Nat → Bool) : Nat → Nat → Option Nat
  | 0, _ => none
  | n + 1, i => if P i = true then some i else fiX P n (i + 1)
def oI (o : Option Nat) : Int32 := match o with
  | some i => nI i
  | none => -9
/-- of the first so many places: the place of the least M, of those at which P holds; and that M (7, if there is none) -/
def miX (P : Nat → Bool) (M : Nat → Nat) : Nat → Option Nat × Nat
  | 0 => (none, 7)
  | i + 1 => if P i = true ∧ M i < (miX P M i).2 then (some i, M i) else miX P M i
theorem miX_le (P : Nat → Bool) (M : Nat → Nat) (h : ∀ i, M i ≤ 7) : ∀ n : Nat, (miX P M n).2 ≤ 7
  | 0 => Nat.le_refl _
  | i + 1 => by
    have := miX_le P M h i
    have := h i
    simp only [miX]
    split <;> simp <;> omega
theorem miX_lt (P : Nat → Bool) (M : Nat → Nat) : ∀ (n i : Nat), (miX P M n).1 = some i → i < n
  | 0, i, h => by simp [miX] at h
  | n + 1, i, h => by
    simp only [miX] at h
    split at h
    · simp at h; omega
    · have := miX_lt P M n i h; omega
/-- what all have of the first so many at which P holds; and whether there is one -/
def alX (P : Nat → Bool) (M : Nat → Nat) : Nat → Bool × Nat
  | 0 => (false, 63)
  | i + 1 => if P i = true then (true, (alX P M i).2 &&& M i) else alX P M i
theorem alX_lt (P : Nat → Bool) (M : Nat → Nat) : ∀ n : Nat, (alX P M n).2 < 64
  | 0 => by simp [alX]
  | i + 1 => by
    have := alX_lt P M i
    simp only [alX]
    split
    · exact Nat.lt_of_le_of_lt Nat.and_le_left this
    · exact this
section ROWS2
variable {X : Cx} {h : Hp} {z r size full i d : Nat} {kn : Bool} {lb osz nx : Int32} {W : List (List Nat)} {O : List Nat → List Nat} {w : List Nat}
theorem pRow.ok (q : pRow h r W) (hi : i < W.length) : (∀ t ∈ gW W i, t < 6) ∧ (gW W i).length ≤ 6 := by
  obtain ⟨rs, h1, l1, l2, l3⟩ := q
  exact (l3 i _ (gW_get hi)).2
theorem pRow.le (q : pRow h r W) : W.length ≤ 1957 := by
  obtain ⟨rs, h1, l1, l2, l3⟩ := q
  exact l2
theorem pOut.ok (q : pOut h r W O) (hi : i < W.length) : (O (gW W i)).length ≤ 30 ∧ ∀ m ∈ O (gW W i), m < 64 := by
  obtain ⟨sv, ow, st, h1, l1, h2, l2, h3, l3, l4⟩ := q
  exact (l4 i _ (gW_get hi)).2.2
theorem c_bitsOf {w : List Nat} (hw : ∀ t ∈ w, t < 6) (hl : w.length ≤ 6) : Ct X 1 mt_X5_bitsOf [.int (nI (cod w))] (h, z) 0 0 (QP (.int (nI (mk w))) (h, z)) := by
  refine mk_X5_bitsOf (Nat.le_of_ble_eq_true rfl) (L := [.int (nI (cod w)), .retAddr 0, .retAddr 0, .retAddr 0]) rfl ?_
  have loop : ∀ (n : Nat) (u v : List Nat), u.length = n → u ++ v = w → Ev X (mi_X5_bitsOf 1 0 0) (QP (.int (nI (mk w))) (h, z)) 0 0 (h, z) 6 [.int (nI (cod w)), .int (nI (mk v)), .int (nI (cod u)), .int (nI v.length)] [] := by
    intro n
    induction n with
    | zero =>
      intro u v hn hu
      have e := List.length_eq_zero_iff.mp hn
      subst e
      have e : v = w := hu
      subst e
      have e0 : cod [] = 0 := rfl
      refine ev_iload_n (pc := 6) dX5_bitsOf_6 rfl ?_
      refine ev_bipush (pc := 7) (v := nI 6) dX5_bitsOf_7 kb_6 ?_
      refine ev_icmp_ge (pc := 9) 39 dX5_bitsOf_9 (by decide) (fun c_9 => ?_) (fun c_9 => ?_)
      · (try simp (disch := omega) only [i32_lti, i32_lei, i32_eqi, nI_toInt, i32z] at c_9)
        refine ev_iload_n (pc := 39) dX5_bitsOf_39 rfl ?_
        refine ev_iret (pc := 40) dX5_bitsOf_40 rfl rfl (Nat.le_of_ble_eq_true rfl) (Nat.le_of_ble_eq_true rfl) ?_
        exact ⟨rfl, rfl⟩
      · (try simp (disch := omega) only [i32_lti, i32_lei, i32_eqi, nI_toInt, i32z] at c_9)
        refine ev_iload_n (pc := 12) dX5_bitsOf_12 rfl ?_
        refine ev_if_le (pc := 13) 39 dX5_bitsOf_13 (by decide) (fun c_13 => ?_) (fun c_13 => ?_)
        · (try simp (disch := omega) only [i32_lti, i32_lei, i32_eqi, nI_toInt, i32z] at c_13)
          refine ev_iload_n (pc := 39) dX5_bitsOf_39 rfl ?_
          refine ev_iret (pc := 40) dX5_bitsOf_40 rfl rfl (Nat.le_of_ble_eq_true rfl) (Nat.le_of_ble_eq_true rfl) ?_
          exact ⟨rfl, rfl⟩
        · exfalso; (try simp (disch := omega) only [i32_lti, i32_lei, i32_eqi, nI_toInt, i32z] at c_13); omega
    | succ n ih =>
      intro u v hn hu
      rcases List.eq_nil_or_concat u with e | ⟨u', t, e⟩
      · subst e; simp at hn
      · rw [List.concat_eq_append] at e
        subst e
        have hlu : (u' ++ [t]).length + v.length ≤ 6 := by rw [← List.length_append, hu]; exact hl
        have hwu : ∀ x ∈ u' ++ [t], x < 6 := fun x hx => hw x (by rw [← hu]; exact List.mem_append_left _ hx)
        have hwv : ∀ x ∈ v, x < 6 := fun x hx => hw x (by rw [← hu]; exact List.mem_append_right _ hx)
        have hc := cod_lt6 hwu (by omega)
        have ht := hwu t (by simp)
        have hv := mk_lt hwv
        have ec := cod_app u' t
        have em : mk v ||| 1 <<< t = mk (t :: v) := Nat.or_comm ..
        have e1 : cod (u' ++ [t]) % 10 - 1 = t := by omega
        have e2 : cod (u' ++ [t]) / 10 = cod u' := by omega
        rw [List.length_append] at hlu
        simp at hlu
        refine ev_iload_n (pc := 6) dX5_bitsOf_6 rfl ?_
        refine ev_bipush (pc := 7) (v := nI 6) dX5_bitsOf_7 kb_6 ?_
        refine ev_icmp_ge (pc := 9) 39 dX5_bitsOf_9 (by decide) (fun c_9 => ?_) (fun c_9 => ?_)
        · exfalso; (try simp (disch := omega) only [i32_lti, i32_lei, i32_eqi, nI_toInt, i32z] at c_9); omega
        · (try simp (disch := omega) only [i32_lti, i32_lei, i32_eqi, nI_toInt, i32z] at c_9)
          refine ev_iload_n (pc := 12) dX5_bitsOf_12 rfl ?_
          refine ev_if_le (pc := 13) 39 dX5_bitsOf_13 (by decide) (fun c_13 => ?_) (fun c_13 => ?_)
          · exfalso; (try simp (disch := omega) only [i32_lti, i32_lei, i32_eqi, nI_toInt, i32z] at c_13); omega
          · (try simp (disch := omega) only [i32_lti, i32_lei, i32_eqi, nI_toInt, i32z] at c_13)
            refine ev_iload_n (pc := 16) dX5_bitsOf_16 rfl ?_
            refine ev_iload_n (pc := 17) dX5_bitsOf_17 rfl ?_
            refine ev_bipush (pc := 18) (v := nI 10) dX5_bitsOf_18 kb_10 ?_
            refine ev_irem (pc := 20) dX5_bitsOf_20 (by decide) ?_
            rw [pk_rem (by omega) (by omega) (by omega)]
            refine ev_iconst (pc := 21) (v := nI 1) dX5_bitsOf_21 kc_1 ?_
            refine ev_isub (pc := 22) dX5_bitsOf_22 ?_
            rw [nI_sub1 (by omega), e1]
            refine iv_X5_187 (pc := 23) rfl dX5_bitsOf_23 (Nat.le_of_ble_eq_true rfl) (Nat.le_of_ble_eq_true rfl) (Nat.le_of_ble_eq_true rfl) (Nat.le_of_ble_eq_true rfl) (c_bitOf ht) (kp ?_)
            refine ev_ior (pc := 26) dX5_bitsOf_26 ?_
            rw [bt_or _ hv _ (bt_shl64 t ht), em]
            refine ev_istore_n (pc := 27) (L' := [_, _, _, _]) dX5_bitsOf_27 (Nat.le_of_ble_eq_true rfl) rfl ?_
            refine ev_iload_n (pc := 28) dX5_bitsOf_28 rfl ?_
            refine ev_bipush (pc := 29) (v := nI 10) dX5_bitsOf_29 kb_10 ?_
            refine ev_idiv (pc := 31) dX5_bitsOf_31 (by decide) ?_
            rw [pk_div (by omega) (by omega) (by omega), e2]
            refine ev_istore_n (pc := 32) (L' := [_, _, _, _]) dX5_bitsOf_32 (Nat.le_of_ble_eq_true rfl) rfl ?_
            refine ev_iinc (pc := 33) (L' := [_, _, _, _]) dX5_bitsOf_33 rfl (nI_1 _) rfl ?_
            refine ev_goto (pc := 36) 6 dX5_bitsOf_36 (by decide) ?_
            exact ih u' (t :: v) (by simp at hn; omega) (by rw [← hu]; simp)
  refine ev_iconst (pc := 0) (v := nI 0) dX5_bitsOf_0 kc_0 ?_
  refine ev_istore_n (pc := 1) (L' := [_, _, _, _]) dX5_bitsOf_1 (Nat.le_of_ble_eq_true rfl) rfl ?_
  refine ev_iload_n (pc := 2) dX5_bitsOf_2 rfl ?_
  refine ev_istore_n (pc := 3) (L' := [_, _, _, _]) dX5_bitsOf_3 (Nat.le_of_ble_eq_true rfl) rfl ?_
  refine ev_iconst (pc := 4) (v := nI 0) dX5_bitsOf_4 kc_0 ?_
  refine ev_istore_n (pc := 5) (L' := [_, _, _, _]) dX5_bitsOf_5 (Nat.le_of_ble_eq_true rfl) rfl ?_
  exact loop _ w [] rfl (List.append_nil w)
theorem c_sizeAt (p : pRO h r size full kn lb osz nx) (q : pRow h r W) (hi : i < W.length) : Ct X 2 mt_X5_sizeAt [.ref r, .int (nI i)] (h, z) 0 0 (QP (.int (nI (popN (mk (gW W i))))) (h, z)) := by
  have hok := q.ok hi
  refine mk_X5_sizeAt (Nat.le_of_ble_eq_true rfl) (L := [.ref r, .int (nI i)]) rfl ?_
  refine ev_aload_n (pc := 0) dX5_sizeAt_0 rfl ?_
  refine ev_iload_n (pc := 1) dX5_sizeAt_1 rfl ?_
  refine iv_X5_173 (pc := 2) rfl dX5_sizeAt_2 (by (try dsimp only); (repeat (first | rw [up_s] | rw [up_n (by omega)])) <;> first | rfl | assumption) (Nat.le_of_ble_eq_true rfl) (Nat.le_of_ble_eq_true rfl) (Nat.le_of_ble_eq_true rfl) (Nat.le_of_ble_eq_true rfl) (c_rowAt p q (gW_get hi)) (kp ?_)
  refine iv_X5_155 (pc := 5) rfl dX5_sizeAt_5 (Nat.le_of_ble_eq_true rfl) (Nat.le_of_ble_eq_true rfl) (Nat.le_of_ble_eq_true rfl) (Nat.le_of_ble_eq_true rfl) (c_bitsOf hok.1 hok.2) (kp ?_)
  refine iv_X5_179 (pc := 8) rfl dX5_sizeAt_8 (Nat.le_of_ble_eq_true rfl) (Nat.le_of_ble_eq_true rfl) (Nat.le_of_ble_eq_true rfl) (Nat.le_of_ble_eq_true rfl) (c_bitCountN (mk_lt hok.1)) (kp ?_)
  refine ev_iret (pc := 11) dX5_sizeAt_11 rfl rfl (Nat.le_of_ble_eq_true rfl) (Nat.le_of_ble_eq_true rfl) ?_
  exact ⟨rfl, rfl⟩
theorem c_mostOpen (p : pRO h r size full kn lb osz nx) (q : pOut h r W O) (hi : i < W.length) (h19 : i < 1957) (hd : d ≤ 30) : Ct X 2 mt_X5_mostOpen [.ref r, .int (nI i), .int (nI d)] (h, z) 0 0 (QP (.int (nI (moN (O (gW W i)) d))) (h, z)) := by
  obtain ⟨o1, o2⟩ := q.ok hi
  refine mk_X5_mostOpen (Nat.le_of_ble_eq_true rfl) (L := [.ref r, .int (nI i), .int (nI d), .retAddr 0, .retAddr 0]) rfl ?_
  have loop : ∀ (n j : Nat), d - j = n → j ≤ d → Ev X (mi_X5_mostOpen 2 0 0) (QP (.int (nI (moN (O (gW W i)) d))) (h, z)) 0 0 (h, z) 5 [.ref r, .int (nI i), .int (nI d), .int (nI (moN (O (gW W i)) j)), .int (nI (j + 1))] [] := by
    intro n
    induction n with
    | zero =>
      intro j hn hj
      have e : j = d := by omega
      subst e
      refine ev_iload (pc := 5) dX5_mostOpen_5 rfl ?_
      refine ev_iload_n (pc := 7) dX5_mostOpen_7 rfl ?_
      refine ev_icmp_gt (pc := 8) 39 dX5_mostOpen_8 (by decide) (fun c_8 => ?_) (fun c_8 => ?_)
      · (try simp (disch := omega) only [i32_lti, i32_lei, i32_eqi, nI_toInt, i32z] at c_8)
        refine ev_iload_n (pc := 39) dX5_mostOpen_39 rfl ?_
        refine ev_iret (pc := 40) dX5_mostOpen_40 rfl rfl (Nat.le_of_ble_eq_true rfl) (Nat.le_of_ble_eq_true rfl) ?_
        exact ⟨rfl, rfl⟩
      · exfalso; (try simp (disch := omega) only [i32_lti, i32_lei, i32_eqi, nI_toInt, i32z] at c_8); omega
    | succ n ih =>
      intro j hn hj
      have h64 : gN (O (gW W i)) j < 64 := gN_lt o2 (by omega) j
      have m6 := moN_le (O (gW W i)) j
      have p6 := popN_le (gN (O (gW W i)) j)
      refine ev_iload (pc := 5) dX5_mostOpen_5 rfl ?_
      refine ev_iload_n (pc := 7) dX5_mostOpen_7 rfl ?_
      refine ev_icmp_gt (pc := 8) 39 dX5_mostOpen_8 (by decide) (fun c_8 => ?_) (fun c_8 => ?_)
      · exfalso; (try simp (disch := omega) only [i32_lti, i32_lei, i32_eqi, nI_toInt, i32z] at c_8); omega
      · (try simp (disch := omega) only [i32_lti, i32_lei, i32_eqi, nI_toInt, i32z] at c_8)
        refine ev_iload (pc := 11) dX5_mostOpen_11 rfl ?_
        refine ev_bipush (pc := 13) (v := nI 30) dX5_mostOpen_13 kb_30 ?_
        refine ev_icmp_gt (pc := 15) 39 dX5_mostOpen_15 (by decide) (fun c_15 => ?_) (fun c_15 => ?_)
        · exfalso; (try simp (disch := omega) only [i32_lti, i32_lei, i32_eqi, nI_toInt, i32z] at c_15); omega
        · (try simp (disch := omega) only [i32_lti, i32_lei, i32_eqi, nI_toInt, i32z] at c_15)
          refine ev_iload_n (pc := 18) dX5_mostOpen_18 rfl ?_
          refine ev_aload_n (pc := 19) dX5_mostOpen_19 rfl ?_
          refine ev_iload_n (pc := 20) dX5_mostOpen_20 rfl ?_
          refine ev_iload (pc := 21) dX5_mostOpen_21 rfl ?_
          refine iv_X5_176 (pc := 23) rfl dX5_mostOpen_23 (by (try dsimp only); (repeat (first | rw [up_s] | rw [up_n (by omega)])) <;> first | rfl | assumption) (Nat.le_of_ble_eq_true rfl) (Nat.le_of_ble_eq_true rfl) (Nat.le_of_ble_eq_true rfl) (Nat.le_of_ble_eq_true rfl) (c_rOpenAt (d := j + 1) p q (gW_get hi) h19 (by omega) (by omega)) (kp ?_)
          rw [show j + 1 - 1 = j from rfl]
          refine iv_X5_179 (pc := 26) rfl dX5_mostOpen_26 (Nat.le_of_ble_eq_true rfl) (Nat.le_of_ble_eq_true rfl) (Nat.le_of_ble_eq_true rfl) (Nat.le_of_ble_eq_true rfl) (c_bitCountN h64) (kp ?_)
          refine ev_mmax (pc := 29) dX5_mostOpen_29 tw_707 (Nat.le_of_ble_eq_true rfl) (Nat.le_of_ble_eq_true rfl) (Nat.le_of_ble_eq_true rfl) (Nat.le_of_ble_eq_true rfl) ?_
          rw [mx_nI (by omega) (by omega)]
          refine ev_istore_n (pc := 32) (L' := [_, _, _, _, _]) dX5_mostOpen_32 (Nat.le_of_ble_eq_true rfl) rfl ?_
          refine ev_iinc (pc := 33) (L' := [_, _, _, _, _]) dX5_mostOpen_33 rfl (nI_1 _) rfl ?_
          refine ev_goto (pc := 36) 5 dX5_mostOpen_36 (by decide) ?_
          exact ih (j + 1) (by omega) (by omega)
  refine ev_iconst (pc := 0) (v := nI 0) dX5_mostOpen_0 kc_0 ?_
  refine ev_istore_n (pc := 1) (L' := [_, _, _, _, _]) dX5_mostOpen_1 (Nat.le_of_ble_eq_true rfl) rfl ?_
  refine ev_iconst (pc := 2) (v := nI 1) dX5_mostOpen_2 kc_1 ?_
  refine ev_istore (pc := 3) (L' := [_, _, _, _, _]) dX5_mostOpen_3 (Nat.le_of_ble_eq_true rfl) rfl ?_
  exact loop _ 0 rfl (Nat.zero_le _)
theorem c_bestPlace (p : pRO h r size full kn lb osz nx) (q : pOut h r W O) (hl : W.length = size) (h0 : 0 < size) (h19 : size ≤ 1957) : Ct X 1 mt_X5_bestPlace [.ref r] (h, z) 0 0 (QP (.int (nI (bIx (fun i => (O (gW W i)).length) size))) (h, z)) := by
  have p0 := p
  unfold pRO at p
  refine mk_X5_bestPlace (Nat.le_of_ble_eq_true rfl) (L := [.ref r, .retAddr 0, .retAddr 0]) rfl ?_
  have loop : ∀ (n j : Nat), size - j = n → 0 < j → j ≤ size → Ev X (mi_X5_bestPlace 1 0 0) (QP (.int (nI (bIx (fun i => (O (gW W i)).length) size))) (h, z)) 0 0 (h, z) 4 [.ref r, .int (nI (bIx (fun i => (O (gW W i)).length) j)), .int (nI j)] [] := by
    intro n
    induction n with
    | zero =>
      intro j hn h0j hj
      have e : j = size := by omega
      subst e
      refine ev_iload_n (pc := 4) dX5_bestPlace_4 rfl ?_
      refine ev_aload_n (pc := 5) dX5_bestPlace_5 rfl ?_
      refine gf_X5_128 (pc := 6) rfl dX5_bestPlace_6 (by (try dsimp only); (repeat (first | rw [up_s] | rw [up_n (by omega)])) <;> first | rfl | assumption) ?_
      refine ev_icmp_ge (pc := 9) 33 dX5_bestPlace_9 (by decide) (fun c_9 => ?_) (fun c_9 => ?_)
      · (try simp (disch := omega) only [i32_lti, i32_lei, i32_eqi, nI_toInt, i32z] at c_9)
        refine ev_iload_n (pc := 33) dX5_bestPlace_33 rfl ?_
        refine ev_iret (pc := 34) dX5_bestPlace_34 rfl rfl (Nat.le_of_ble_eq_true rfl) (Nat.le_of_ble_eq_true rfl) ?_
        exact ⟨rfl, rfl⟩
      · exfalso; (try simp (disch := omega) only [i32_lti, i32_lei, i32_eqi, nI_toInt, i32z] at c_9); omega
    | succ n ih =>
      intro j hn h0j hj
      have hb := bIx_lt (fun i => (O (gW W i)).length) j h0j
      have o1 := (q.ok (i := j) (by omega)).1
      have o2 := (q.ok (i := bIx (fun i => (O (gW W i)).length) j) (by omega)).1
      have es : bIx (fun i => (O (gW W i)).length) (j + 1) = if (O (gW W (bIx (fun i => (O (gW W i)).length) j))).length < (O (gW W j)).length then j else bIx (fun i => (O (gW W i)).length) j := rfl
      generalize bIx (fun i => (O (gW W i)).length) j = b at hb o2 es ⊢
      refine ev_iload_n (pc := 4) dX5_bestPlace_4 rfl ?_
      refine ev_aload_n (pc := 5) dX5_bestPlace_5 rfl ?_
      refine gf_X5_128 (pc := 6) rfl dX5_bestPlace_6 (by (try dsimp only); (repeat (first | rw [up_s] | rw [up_n (by omega)])) <;> first | rfl | assumption) ?_
      refine ev_icmp_ge (pc := 9) 33 dX5_bestPlace_9 (by decide) (fun c_9 => ?_) (fun c_9 => ?_)
      · exfalso; (try simp (disch := omega) only [i32_lti, i32_lei, i32_eqi, nI_toInt, i32z] at c_9); omega
      · (try simp (disch := omega) only [i32_lti, i32_lei, i32_eqi, nI_toInt, i32z] at c_9)
        refine ev_aload_n (pc := 12) dX5_bestPlace_12 rfl ?_
        refine ev_iload_n (pc := 13) dX5_bestPlace_13 rfl ?_
        refine iv_X5_167 (pc := 14) rfl dX5_bestPlace_14 (by (try dsimp only); (repeat (first | rw [up_s] | rw [up_n (by omega)])) <;> first | rfl | assumption) (Nat.le_of_ble_eq_true rfl) (Nat.le_of_ble_eq_true rfl) (Nat.le_of_ble_eq_true rfl) (Nat.le_of_ble_eq_true rfl) (c_savedBy p0 q (gW_get (i := j) (by omega)) (by omega)) (kp ?_)
        refine ev_aload_n (pc := 17) dX5_bestPlace_17 rfl ?_
        refine ev_iload_n (pc := 18) dX5_bestPlace_18 rfl ?_
        refine iv_X5_167 (pc := 19) rfl dX5_bestPlace_19 (by (try dsimp only); (repeat (first | rw [up_s] | rw [up_n (by omega)])) <;> first | rfl | assumption) (Nat.le_of_ble_eq_true rfl) (Nat.le_of_ble_eq_true rfl) (Nat.le_of_ble_eq_true rfl) (Nat.le_of_ble_eq_true rfl) (c_savedBy p0 q (gW_get (i := b) (by omega)) (by omega)) (kp ?_)
        refine ev_icmp_le (pc := 22) 27 dX5_bestPlace_22 (by decide) (fun c_22 => ?_) (fun c_22 => ?_)
        · (try simp (disch := omega) only [i32_lti, i32_lei, i32_eqi, nI_toInt, i32z] at c_22)
          refine ev_iinc (pc := 27) (L' := [_, _, _]) dX5_bestPlace_27 rfl (nI_1 _) rfl ?_
          refine ev_goto (pc := 30) 4 dX5_bestPlace_30 (by decide) ?_
          first | (rw [if_neg (by omega)] at es; rw [← es]; exact ih (j + 1) (by omega) (by omega) (by omega)) | (rw [if_pos (by omega)] at es; have hh := ih (j + 1) (by omega) (by omega) (by omega); rw [es] at hh; exact hh)
        · (try simp (disch := omega) only [i32_lti, i32_lei, i32_eqi, nI_toInt, i32z] at c_22)
          refine ev_iload_n (pc := 25) dX5_bestPlace_25 rfl ?_
          refine ev_istore_n (pc := 26) (L' := [_, _, _]) dX5_bestPlace_26 (Nat.le_of_ble_eq_true rfl) rfl ?_
          refine ev_iinc (pc := 27) (L' := [_, _, _]) dX5_bestPlace_27 rfl (nI_1 _) rfl ?_
          refine ev_goto (pc := 30) 4 dX5_bestPlace_30 (by decide) ?_
          first | (rw [if_neg (by omega)] at es; rw [← es]; exact ih (j + 1) (by omega) (by omega) (by omega)) | (rw [if_pos (by omega)] at es; have hh := ih (j + 1) (by omega) (by omega) (by omega); rw [es] at hh; exact hh)
  refine ev_iconst (pc := 0) (v := nI 0) dX5_bestPlace_0 kc_0 ?_
  refine ev_istore_n (pc := 1) (L' := [_, _, _]) dX5_bestPlace_1 (Nat.le_of_ble_eq_true rfl) rfl ?_
  refine ev_iconst (pc := 2) (v := nI 1) dX5_bestPlace_2 kc_1 ?_
  refine ev_istore_n (pc := 3) (L' := [_, _, _]) dX5_bestPlace_3 (Nat.le_of_ble_eq_true rfl) rfl ?_
  have hh := loop _ 1 rfl (by omega) (by omega)
  rw [show bIx (fun i => (O (gW W i)).length) 1 = 0 by simp [bIx]] at hh
  exact hh
theorem c_fewestPlace (p : pRO h r size full kn lb osz nx) (q : pOut h r W O) (hl : W.length = size) (h19 : size ≤ 1957) (hd : d ≤ 30) : Ct X 1 mt_X5_fewestPlace [.ref r, .int (nI d)] (h, z) 0 0 (QP (.int (oI (fiX (fun i => decide (d ≤ (O (gW W i)).length)) size 0))) (h, z)) := by
  have p0 := p
  unfold pRO at p
  refine mk_X5_fewestPlace (Nat.le_of_ble_eq_true rfl) (L := [.ref r, .int (nI d), .retAddr 0]) rfl ?_
  have loop : ∀ (n j : Nat), j + n = size → Ev X (mi_X5_fewestPlace 1 0 0) (QP (.int (oI (fiX (fun i => decide (d ≤ (O (gW W i)).length)) n j))) (h, z)) 0 0 (h, z) 2 [.ref r, .int (nI d), .int (nI j)] [] := by
    intro n
    induction n with
    | zero =>
      intro j hn
      refine ev_iload_n (pc := 2) dX5_fewestPlace_2 rfl ?_
      refine ev_aload_n (pc := 3) dX5_fewestPlace_3 rfl ?_
      refine gf_X5_128 (pc := 4) rfl dX5_fewestPlace_4 (by (try dsimp only); (repeat (first | rw [up_s] | rw [up_n (by omega)])) <;> first | rfl | assumption) ?_
      refine ev_icmp_ge (pc := 7) 27 dX5_fewestPlace_7 (by decide) (fun c_7 => ?_) (fun c_7 => ?_)
      · (try simp (disch := omega) only [i32_lti, i32_lei, i32_eqi, nI_toInt, i32z] at c_7)
        refine ev_bipush (pc := 27) (v := (-9)) dX5_fewestPlace_27 kb_m9 ?_
        refine ev_iret (pc := 29) dX5_fewestPlace_29 rfl rfl (Nat.le_of_ble_eq_true rfl) (Nat.le_of_ble_eq_true rfl) ?_
        exact ⟨rfl, rfl⟩
      · exfalso; (try simp (disch := omega) only [i32_lti, i32_lei, i32_eqi, nI_toInt, i32z] at c_7); omega
    | succ n ih =>
      intro j hn
      have o1 := (q.ok (i := j) (by omega)).1
      have es : fiX (fun i => decide (d ≤ (O (gW W i)).length)) (n + 1) j = if decide (d ≤ (O (gW W j)).length) = true then some j else fiX (fun i => decide (d ≤ (O (gW W i)).length)) n (j + 1) := rfl
      refine ev_iload_n (pc := 2) dX5_fewestPlace_2 rfl ?_
      refine ev_aload_n (pc := 3) dX5_fewestPlace_3 rfl ?_
      refine gf_X5_128 (pc := 4) rfl dX5_fewestPlace_4 (by (try dsimp only); (repeat (first | rw [up_s] | rw [up_n (by omega)])) <;> first | rfl | assumption) ?_
      refine ev_icmp_ge (pc := 7) 27 dX5_fewestPlace_7 (by decide) (fun c_7 => ?_) (fun c_7 => ?_)
      · exfalso; (try simp (disch := omega) only [i32_lti, i32_lei, i32_eqi, nI_toInt, i32z] at c_7); omega
      · (try simp (disch := omega) only [i32_lti, i32_lei, i32_eqi, nI_toInt, i32z] at c_7)
        refine ev_aload_n (pc := 10) dX5_fewestPlace_10 rfl ?_
        refine ev_iload_n (pc := 11) dX5_fewestPlace_11 rfl ?_
        refine iv_X5_167 (pc := 12) rfl dX5_fewestPlace_12 (by (try dsimp only); (repeat (first | rw [up_s] | rw [up_n (by omega)])) <;> first | rfl | assumption) (Nat.le_of_ble_eq_true rfl) (Nat.le_of_ble_eq_true rfl) (Nat.le_of_ble_eq_true rfl) (Nat.le_of_ble_eq_true rfl) (c_savedBy p0 q (gW_get (i := j) (by omega)) (by omega)) (kp ?_)
        refine ev_iload_n (pc := 15) dX5_fewestPlace_15 rfl ?_
        refine ev_icmp_lt (pc := 16) 21 dX5_fewestPlace_16 (by decide) (fun c_16 => ?_) (fun c_16 => ?_)
        · (try simp (disch := omega) only [i32_lti, i32_lei, i32_eqi, nI_toInt, i32z] at c_16)
          refine ev_iinc (pc := 21) (L' := [_, _, _]) dX5_fewestPlace_21 rfl (nI_1 _) rfl ?_
          refine ev_goto (pc := 24) 2 dX5_fewestPlace_24 (by decide) ?_
          rw [if_neg (by rw [decide_eq_true_iff]; omega)] at es; rw [es]; exact ih (j + 1) (by omega)
        · (try simp (disch := omega) only [i32_lti, i32_lei, i32_eqi, nI_toInt, i32z] at c_16)
          refine ev_iload_n (pc := 19) dX5_fewestPlace_19 rfl ?_
          refine ev_iret (pc := 20) dX5_fewestPlace_20 rfl rfl (Nat.le_of_ble_eq_true rfl) (Nat.le_of_ble_eq_true rfl) ?_
          rw [if_pos (by rw [decide_eq_true_iff]; omega)] at es; rw [es]; exact ⟨rfl, rfl⟩
  refine ev_iconst (pc := 0) (v := nI 0) dX5_fewestPlace_0 kc_0 ?_
  refine ev_istore_n (pc := 1) (L' := [_, _, _]) dX5_fewestPlace_1 (Nat.le_of_ble_eq_true rfl) rfl ?_
  exact loop size 0 (by omega)
theorem c_mindPlace (p : pRO h r size full kn lb osz nx) (q : pOut h r W O) (hl : W.length = size) (h19 : size ≤ 1957) (hd : d ≤ 30) : Ct X 3 mt_X5_mindPlace [.ref r, .int (nI d)] (h, z) 0 0 (QP (.int (oI (miX (fun i => decide (d ≤ (O (gW W i)).length)) (fun i => moN (O (gW W i)) d) size).1)) (h, z)) := by
  have p0 := p
  unfold pRO at p
  refine mk_X5_mindPlace (Nat.le_of_ble_eq_true rfl) (L := [.ref r, .int (nI d), .retAddr 0, .retAddr 0, .retAddr 0]) rfl ?_
  have loop : ∀ (n j : Nat), j + n = size → Ev X (mi_X5_mindPlace 3 0 0) (QP (.int (oI (miX (fun i => decide (d ≤ (O (gW W i)).length)) (fun i => moN (O (gW W i)) d) size).1)) (h, z)) 0 0 (h, z) 9 [.ref r, .int (nI d), .int (oI (miX (fun i => decide (d ≤ (O (gW W i)).length)) (fun i => moN (O (gW W i)) d) j).1), .int (nI (miX (fun i => decide (d ≤ (O (gW W i)).length)) (fun i => moN (O (gW W i)) d) j).2), .int (nI j)] [] := by
    intro n
    induction n with
    | zero =>
      intro j hn
      have e : j = size := by omega
      subst e
      refine ev_iload (pc := 9) dX5_mindPlace_9 rfl ?_
      refine ev_aload_n (pc := 11) dX5_mindPlace_11 rfl ?_
      refine gf_X5_128 (pc := 12) rfl dX5_mindPlace_12 (by (try dsimp only); (repeat (first | rw [up_s] | rw [up_n (by omega)])) <;> first | rfl | assumption) ?_
      refine ev_icmp_ge (pc := 15) 56 dX5_mindPlace_15 (by decide) (fun c_15 => ?_) (fun c_15 => ?_)
      · (try simp (disch := omega) only [i32_lti, i32_lei, i32_eqi, nI_toInt, i32z] at c_15)
        refine ev_iload_n (pc := 56) dX5_mindPlace_56 rfl ?_
        refine ev_iret (pc := 57) dX5_mindPlace_57 rfl rfl (Nat.le_of_ble_eq_true rfl) (Nat.le_of_ble_eq_true rfl) ?_
        exact ⟨rfl, rfl⟩
      · exfalso; (try simp (disch := omega) only [i32_lti, i32_lei, i32_eqi, nI_toInt, i32z] at c_15); omega
    | succ n ih =>
      intro j hn
      have o1 := (q.ok (i := j) (by omega)).1
      have m6 := moN_le (O (gW W j)) d
      have m7 := miX_le (fun i => decide (d ≤ (O (gW W i)).length)) (fun i => moN (O (gW W i)) d) (fun i => by have := moN_le (O (gW W i)) d; omega) j
      have es : miX (fun i => decide (d ≤ (O (gW W i)).length)) (fun i => moN (O (gW W i)) d) (j + 1) = if decide (d ≤ (O (gW W j)).length) = true ∧ moN (O (gW W j)) d < (miX (fun i => decide (d ≤ (O (gW W i)).length)) (fun i => moN (O (gW W i)) d) j).2 then (some j, moN (O (gW W j)) d) else miX (fun i => decide (d ≤ (O (gW W i)).length)) (fun i => moN (O (gW W i)) d) j := rfl
      have hh := ih (j + 1) (by omega)
      rw [es] at hh
      clear es ih
      generalize miX (fun i => decide (d ≤ (O (gW W i)).length)) (fun i => moN (O (gW W i)) d) j = y at m7 hh ⊢
      obtain ⟨y1, y2⟩ := y
      dsimp only at m7 hh ⊢
      refine ev_iload (pc := 9) dX5_mindPlace_9 rfl ?_
      refine ev_aload_n (pc := 11) dX5_mindPlace_11 rfl ?_
      refine gf_X5_128 (pc := 12) rfl dX5_mindPlace_12 (by (try dsimp only); (repeat (first | rw [up_s] | rw [up_n (by omega)])) <;> first | rfl | assumption) ?_
      refine ev_icmp_ge (pc := 15) 56 dX5_mindPlace_15 (by decide) (fun c_15 => ?_) (fun c_15 => ?_)
      · exfalso; (try simp (disch := omega) only [i32_lti, i32_lei, i32_eqi, nI_toInt, i32z] at c_15); omega
      · (try simp (disch := omega) only [i32_lti, i32_lei, i32_eqi, nI_toInt, i32z] at c_15)
        refine ev_aload_n (pc := 18) dX5_mindPlace_18 rfl ?_
        refine ev_iload (pc := 19) dX5_mindPlace_19 rfl ?_
        refine iv_X5_167 (pc := 21) rfl dX5_mindPlace_21 (by (try dsimp only); (repeat (first | rw [up_s] | rw [up_n (by omega)])) <;> first | rfl | assumption) (Nat.le_of_ble_eq_true rfl) (Nat.le_of_ble_eq_true rfl) (Nat.le_of_ble_eq_true rfl) (Nat.le_of_ble_eq_true rfl) (c_savedBy p0 q (gW_get (i := j) (by omega)) (by omega)) (kp ?_)
        refine ev_iload_n (pc := 24) dX5_mindPlace_24 rfl ?_
        refine ev_icmp_lt (pc := 25) 50 dX5_mindPlace_25 (by decide) (fun c_25 => ?_) (fun c_25 => ?_)
        · (try simp (disch := omega) only [i32_lti, i32_lei, i32_eqi, nI_toInt, i32z] at c_25)
          refine ev_iinc (pc := 50) (L' := [_, _, _, _, _]) dX5_mindPlace_50 rfl (nI_1 _) rfl ?_
          refine ev_goto (pc := 53) 9 dX5_mindPlace_53 (by decide) ?_
          first | (rw [if_pos ⟨decide_eq_true (by omega), by omega⟩] at hh; exact hh) | (rw [if_neg (fun hq => by have := of_decide_eq_true hq.1; omega)] at hh; exact hh)
        · (try simp (disch := omega) only [i32_lti, i32_lei, i32_eqi, nI_toInt, i32z] at c_25)
          refine ev_aload_n (pc := 28) dX5_mindPlace_28 rfl ?_
          refine ev_iload (pc := 29) dX5_mindPlace_29 rfl ?_
          refine ev_iload_n (pc := 31) dX5_mindPlace_31 rfl ?_
          refine iv_X5_170 (pc := 32) rfl dX5_mindPlace_32 (by (try dsimp only); (repeat (first | rw [up_s] | rw [up_n (by omega)])) <;> first | rfl | assumption) (Nat.le_of_ble_eq_true rfl) (Nat.le_of_ble_eq_true rfl) (Nat.le_of_ble_eq_true rfl) (Nat.le_of_ble_eq_true rfl) (c_mostOpen p0 q (i := j) (by omega) (by omega) hd) (kp ?_)
          refine ev_iload_n (pc := 35) dX5_mindPlace_35 rfl ?_
          refine ev_icmp_ge (pc := 36) 50 dX5_mindPlace_36 (by decide) (fun c_36 => ?_) (fun c_36 => ?_)
          · (try simp (disch := omega) only [i32_lti, i32_lei, i32_eqi, nI_toInt, i32z] at c_36)
            refine ev_iinc (pc := 50) (L' := [_, _, _, _, _]) dX5_mindPlace_50 rfl (nI_1 _) rfl ?_
            refine ev_goto (pc := 53) 9 dX5_mindPlace_53 (by decide) ?_
            first | (rw [if_pos ⟨decide_eq_true (by omega), by omega⟩] at hh; exact hh) | (rw [if_neg (fun hq => by have := of_decide_eq_true hq.1; omega)] at hh; exact hh)
          · (try simp (disch := omega) only [i32_lti, i32_lei, i32_eqi, nI_toInt, i32z] at c_36)
            refine ev_iload (pc := 39) dX5_mindPlace_39 rfl ?_
            refine ev_istore_n (pc := 41) (L' := [_, _, _, _, _]) dX5_mindPlace_41 (Nat.le_of_ble_eq_true rfl) rfl ?_
            refine ev_aload_n (pc := 42) dX5_mindPlace_42 rfl ?_
            refine ev_iload (pc := 43) dX5_mindPlace_43 rfl ?_
            refine ev_iload_n (pc := 45) dX5_mindPlace_45 rfl ?_
            refine iv_X5_170 (pc := 46) rfl dX5_mindPlace_46 (by (try dsimp only); (repeat (first | rw [up_s] | rw [up_n (by omega)])) <;> first | rfl | assumption) (Nat.le_of_ble_eq_true rfl) (Nat.le_of_ble_eq_true rfl) (Nat.le_of_ble_eq_true rfl) (Nat.le_of_ble_eq_true rfl) (c_mostOpen p0 q (i := j) (by omega) (by omega) hd) (kp ?_)
            refine ev_istore_n (pc := 49) (L' := [_, _, _, _, _]) dX5_mindPlace_49 (Nat.le_of_ble_eq_true rfl) rfl ?_
            refine ev_iinc (pc := 50) (L' := [_, _, _, _, _]) dX5_mindPlace_50 rfl (nI_1 _) rfl ?_
            refine ev_goto (pc := 53) 9 dX5_mindPlace_53 (by decide) ?_
            first | (rw [if_pos ⟨decide_eq_true (by omega), by omega⟩] at hh; exact hh) | (rw [if_neg (fun hq => by have := of_decide_eq_true hq.1; omega)] at hh; exact hh)
  refine ev_bipush (pc := 0) (v := (-9)) dX5_mindPlace_0 kb_m9 ?_
  refine ev_istore_n (pc := 2) (L' := [_, _, _, _, _]) dX5_mindPlace_2 (Nat.le_of_ble_eq_true rfl) rfl ?_
  refine ev_bipush (pc := 3) (v := nI 7) dX5_mindPlace_3 kb_7 ?_
  refine ev_istore_n (pc := 5) (L' := [_, _, _, _, _]) dX5_mindPlace_5 (Nat.le_of_ble_eq_true rfl) rfl ?_
  refine ev_iconst (pc := 6) (v := nI 0) dX5_mindPlace_6 kc_0 ?_
  refine ev_istore (pc := 7) (L' := [_, _, _, _, _]) dX5_mindPlace_7 (Nat.le_of_ble_eq_true rfl) rfl ?_
  exact loop size 0 (by omega)
theorem c_inAll (p : pRO h r size full kn lb osz nx) (q0 : pRow h r W) (q : pOut h r W O) (hl : W.length = size) (h19 : size ≤ 1957) (hd : d ≤ 30) : Ct X 2 mt_X5_inAllThatReach [.ref r, .int (nI d)] (h, z) 0 0 (QP (.int (nI (if (alX (fun i => decide (d ≤ (O (gW W i)).length)) (fun i => mk (gW W i)) size).1 = true then (alX (fun i => decide (d ≤ (O (gW W i)).length)) (fun i => mk (gW W i)) size).2 else 0))) (h, z)) := by
  have p0 := p
  unfold pRO at p
  refine mk_X5_inAllThatReach (Nat.le_of_ble_eq_true rfl) (L := [.ref r, .int (nI d), .retAddr 0, .retAddr 0, .retAddr 0]) rfl ?_
  have loop : ∀ (n j : Nat), j + n = size → Ev X (mi_X5_inAllThatReach 2 0 0) (QP (.int (nI (if (alX (fun i => decide (d ≤ (O (gW W i)).length)) (fun i => mk (gW W i)) size).1 = true then (alX (fun i => decide (d ≤ (O (gW W i)).length)) (fun i => mk (gW W i)) size).2 else 0))) (h, z)) 0 0 (h, z) 8 [.ref r, .int (nI d), .int (b2i (alX (fun i => decide (d ≤ (O (gW W i)).length)) (fun i => mk (gW W i)) j).1), .int (nI (alX (fun i => decide (d ≤ (O (gW W i)).length)) (fun i => mk (gW W i)) j).2), .int (nI j)] [] := by
    intro n
    induction n with
    | zero =>
      intro j hn
      have e : j = size := by omega
      subst e
      refine ev_iload (pc := 8) dX5_inAllThatReach_8 rfl ?_
      refine ev_aload_n (pc := 10) dX5_inAllThatReach_10 rfl ?_
      refine gf_X5_128 (pc := 11) rfl dX5_inAllThatReach_11 (by (try dsimp only); (repeat (first | rw [up_s] | rw [up_n (by omega)])) <;> first | rfl | assumption) ?_
      refine ev_icmp_ge (pc := 14) 47 dX5_inAllThatReach_14 (by decide) (fun c_14 => ?_) (fun c_14 => ?_)
      · (try simp (disch := omega) only [i32_lti, i32_lei, i32_eqi, nI_toInt, i32z] at c_14)
        refine ev_iload_n (pc := 47) dX5_inAllThatReach_47 rfl ?_
        refine ev_if_eq (pc := 48) 55 dX5_inAllThatReach_48 (by decide) (fun c_48 => ?_) (fun c_48 => ?_)
        · simp only [b2i_e0, Bool.not_eq_false] at c_48
          refine ev_iconst (pc := 55) (v := nI 0) dX5_inAllThatReach_55 kc_0 ?_
          refine ev_iret (pc := 56) dX5_inAllThatReach_56 rfl rfl (Nat.le_of_ble_eq_true rfl) (Nat.le_of_ble_eq_true rfl) ?_
          first | (rw [if_pos c_48]; exact ⟨rfl, rfl⟩) | (rw [if_neg (by rw [c_48]; decide)]; exact ⟨rfl, rfl⟩)
        · simp only [b2i_e0, Bool.not_eq_false] at c_48
          refine ev_iload_n (pc := 51) dX5_inAllThatReach_51 rfl ?_
          refine ev_goto (pc := 52) 56 dX5_inAllThatReach_52 (by decide) ?_
          refine ev_iret (pc := 56) dX5_inAllThatReach_56 rfl rfl (Nat.le_of_ble_eq_true rfl) (Nat.le_of_ble_eq_true rfl) ?_
          first | (rw [if_pos c_48]; exact ⟨rfl, rfl⟩) | (rw [if_neg (by rw [c_48]; decide)]; exact ⟨rfl, rfl⟩)
      · exfalso; (try simp (disch := omega) only [i32_lti, i32_lei, i32_eqi, nI_toInt, i32z] at c_14); omega
    | succ n ih =>
      intro j hn
      have o1 := (q.ok (i := j) (by omega)).1
      have hok := q0.ok (i := j) (by omega)
      have hm := mk_lt hok.1
      have m7 := alX_lt (fun i => decide (d ≤ (O (gW W i)).length)) (fun i => mk (gW W i)) j
      have es : alX (fun i => decide (d ≤ (O (gW W i)).length)) (fun i => mk (gW W i)) (j + 1) = if decide (d ≤ (O (gW W j)).length) = true then (true, (alX (fun i => decide (d ≤ (O (gW W i)).length)) (fun i => mk (gW W i)) j).2 &&& mk (gW W j)) else alX (fun i => decide (d ≤ (O (gW W i)).length)) (fun i => mk (gW W i)) j := rfl
      have hh := ih (j + 1) (by omega)
      rw [es] at hh
      clear es ih
      generalize alX (fun i => decide (d ≤ (O (gW W i)).length)) (fun i => mk (gW W i)) j = y at m7 hh ⊢
      obtain ⟨y1, y2⟩ := y
      dsimp only at m7 hh ⊢
      refine ev_iload (pc := 8) dX5_inAllThatReach_8 rfl ?_
      refine ev_aload_n (pc := 10) dX5_inAllThatReach_10 rfl ?_
      refine gf_X5_128 (pc := 11) rfl dX5_inAllThatReach_11 (by (try dsimp only); (repeat (first | rw [up_s] | rw [up_n (by omega)])) <;> first | rfl | assumption) ?_
      refine ev_icmp_ge (pc := 14) 47 dX5_inAllThatReach_14 (by decide) (fun c_14 => ?_) (fun c_14 => ?_)
      · exfalso; (try simp (disch := omega) only [i32_lti, i32_lei, i32_eqi, nI_toInt, i32z] at c_14); omega
      · (try simp (disch := omega) only [i32_lti, i32_lei, i32_eqi, nI_toInt, i32z] at c_14)
        refine ev_aload_n (pc := 17) dX5_inAllThatReach_17 rfl ?_
        refine ev_iload (pc := 18) dX5_inAllThatReach_18 rfl ?_
        refine iv_X5_167 (pc := 20) rfl dX5_inAllThatReach_20 (by (try dsimp only); (repeat (first | rw [up_s] | rw [up_n (by omega)])) <;> first | rfl | assumption) (Nat.le_of_ble_eq_true rfl) (Nat.le_of_ble_eq_true rfl) (Nat.le_of_ble_eq_true rfl) (Nat.le_of_ble_eq_true rfl) (c_savedBy p0 q (gW_get (i := j) (by omega)) (by omega)) (kp ?_)
        refine ev_iload_n (pc := 23) dX5_inAllThatReach_23 rfl ?_
        refine ev_icmp_lt (pc := 24) 41 dX5_inAllThatReach_24 (by decide) (fun c_24 => ?_) (fun c_24 => ?_)
        · (try simp (disch := omega) only [i32_lti, i32_lei, i32_eqi, nI_toInt, i32z] at c_24)
          refine ev_iinc (pc := 41) (L' := [_, _, _, _, _]) dX5_inAllThatReach_41 rfl (nI_1 _) rfl ?_
          refine ev_goto (pc := 44) 8 dX5_inAllThatReach_44 (by decide) ?_
          first | (rw [if_pos (show decide (d ≤ (O (gW W j)).length) = true from decide_eq_true (by omega))] at hh; exact hh) | (rw [if_neg (show ¬ decide (d ≤ (O (gW W j)).length) = true from fun hq => by have := of_decide_eq_true hq; omega)] at hh; exact hh)
        · (try simp (disch := omega) only [i32_lti, i32_lei, i32_eqi, nI_toInt, i32z] at c_24)
          refine ev_iconst (pc := 27) (v := nI 1) dX5_inAllThatReach_27 kc_1 ?_
          refine ev_istore_n (pc := 28) (L' := [_, _, _, _, _]) dX5_inAllThatReach_28 (Nat.le_of_ble_eq_true rfl) rfl ?_
          refine ev_iload_n (pc := 29) dX5_inAllThatReach_29 rfl ?_
          refine ev_aload_n (pc := 30) dX5_inAllThatReach_30 rfl ?_
          refine ev_iload (pc := 31) dX5_inAllThatReach_31 rfl ?_
          refine iv_X5_173 (pc := 33) rfl dX5_inAllThatReach_33 (by (try dsimp only); (repeat (first | rw [up_s] | rw [up_n (by omega)])) <;> first | rfl | assumption) (Nat.le_of_ble_eq_true rfl) (Nat.le_of_ble_eq_true rfl) (Nat.le_of_ble_eq_true rfl) (Nat.le_of_ble_eq_true rfl) (c_rowAt p0 q0 (gW_get (i := j) (by omega))) (kp ?_)
          refine iv_X5_155 (pc := 36) rfl dX5_inAllThatReach_36 (Nat.le_of_ble_eq_true rfl) (Nat.le_of_ble_eq_true rfl) (Nat.le_of_ble_eq_true rfl) (Nat.le_of_ble_eq_true rfl) (c_bitsOf hok.1 hok.2) (kp ?_)
          refine ev_iand (pc := 39) dX5_inAllThatReach_39 ?_
          rw [bt_and _ m7 _ hm]
          refine ev_istore_n (pc := 40) (L' := [_, _, _, _, _]) dX5_inAllThatReach_40 (Nat.le_of_ble_eq_true rfl) rfl ?_
          refine ev_iinc (pc := 41) (L' := [_, _, _, _, _]) dX5_inAllThatReach_41 rfl (nI_1 _) rfl ?_
          refine ev_goto (pc := 44) 8 dX5_inAllThatReach_44 (by decide) ?_
          first | (rw [if_pos (show decide (d ≤ (O (gW W j)).length) = true from decide_eq_true (by omega))] at hh; exact hh) | (rw [if_neg (show ¬ decide (d ≤ (O (gW W j)).length) = true from fun hq => by have := of_decide_eq_true hq; omega)] at hh; exact hh)
  refine ev_iconst (pc := 0) (v := nI 0) dX5_inAllThatReach_0 kc_0 ?_
  refine ev_istore_n (pc := 1) (L' := [_, _, _, _, _]) dX5_inAllThatReach_1 (Nat.le_of_ble_eq_true rfl) rfl ?_
  refine ev_bipush (pc := 2) (v := nI 63) dX5_inAllThatReach_2 kb_63 ?_
  refine ev_istore_n (pc := 4) (L' := [_, _, _, _, _]) dX5_inAllThatReach_4 (Nat.le_of_ble_eq_true rfl) rfl ?_
  refine ev_iconst (pc := 5) (v := nI 0) dX5_inAllThatReach_5 kc_0 ?_
  refine ev_istore (pc := 6) (L' := [_, _, _, _, _]) dX5_inAllThatReach_6 (Nat.le_of_ble_eq_true rfl) rfl ?_
  exact loop size 0 (by omega)
end ROWS2
