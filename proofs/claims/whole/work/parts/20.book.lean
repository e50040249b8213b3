/-! ===== Book ===== -/
abbrev Bk : Type := Nat × List Nat × List Nat × Nat × List Nat × Nat × Nat
abbrev bT (B : Bk) : Nat := B.1
abbrev bP (B : Bk) : List Nat := B.2.1
abbrev bW (B : Bk) : List Nat := B.2.2.1
abbrev bK (B : Bk) : Nat := B.2.2.2.1
abbrev bH (B : Bk) : List Nat := B.2.2.2.2.1
abbrev bM (B : Bk) : Nat := B.2.2.2.2.2.1
abbrev bD (B : Bk) : Nat := B.2.2.2.2.2.2
/-- the object at b (cells b .. b+3) holds the book B -/
def pBook (h : Hp) (b : Nat) (B : Bk) : Prop := h b = some (.inl (0, [.int (nI (bT B)), .ref (b + 1), .ref (b + 2), .int (nI (bK B)), .ref (b + 3), .int (nI (bM B)), .int (nI (bD B))])) ∧ h (b + 1) = some (.inr (0, .inl ((bP B).map nI))) ∧ h (b + 2) = some (.inr (0, .inl ((bW B).map nI))) ∧ h (b + 3) = some (.inr (0, .inl ((bH B).map nI))) ∧ (bP B).length = 6 ∧ (bW B).length = 6 ∧ (bH B).length = 8
theorem pBook.fr {h h' : Hp} {b : Nat} {B : Bk} (p : pBook h b B) (e : ∀ q : Nat, b ≤ q → q < b + 4 → h' q = h q) : pBook h' b B := by
  obtain ⟨p1, p2, p3, p4, p5⟩ := p
  exact ⟨by rw [e b (by omega) (by omega)]; exact p1, by rw [e (b + 1) (by omega) (by omega)]; exact p2, by rw [e (b + 2) (by omega) (by omega)]; exact p3, by rw [e (b + 3) (by omega) (by omega)]; exact p4, p5⟩
theorem pBook.frA {h h' : Hp} {b a n : Nat} {B : Bk} (p : pBook h b B) (e : hfr h h' a n) (d : b + 4 ≤ a ∨ a + n ≤ b) : pBook h' b B := p.fr fun q h1 h2 => e q (by omega)
/-- whether t is a tale of n -/
def iTn (n : Nat) (t : Int32) : Bool := decide (0 ≤ t.toInt ∧ t.toInt < n)
theorem iTn_nI {n k : Nat} (hk : k < 2 ^ 31) : iTn n (nI k) = decide (k < n) := by
  unfold iTn
  rw [nI_toInt hk]
  apply decide_eq_decide.mpr
  omega
theorem iTn_t {n : Nat} {t : Int32} (h : iTn n t = true) : ∃ k : Nat, k < n ∧ t.toInt = k ∧ t = nI k := by
  simp only [iTn, decide_eq_true_eq] at h
  exact ⟨t.toInt.toNat, by omega, by omega, i32_nat (by omega)⟩
section BOOK
variable {X : Cx} {h : Hp} {z b : Nat} {B : Bk}
theorem c_isTale (p : pBook h b B) (h6 : bT B ≤ 6) (t : Int32) : Ct X 0 mt_X0_isTale [.ref b, .int t] (h, z) 0 0 (QP (.int (b2i (iTn (bT B) t))) (h, z)) := by
  obtain ⟨hb, -⟩ := p
  refine mk_X0_isTale (Nat.le_of_ble_eq_true rfl) (L := [.ref b, .int t]) rfl ?_
  refine ev_iload_n (pc := 0) dX0_isTale_0 rfl ?_
  refine ev_if_lt (pc := 1) 22 dX0_isTale_1 (by decide) (fun c_1 => ?_) (fun c_1 => ?_)
  · (try simp (disch := omega) only [i32_lti, i32_lei, i32_eqi, nI_toInt, i32z] at c_1)
    refine ev_iconst (pc := 22) (v := nI 0) dX0_isTale_22 kc_0 ?_
    refine ev_iret (pc := 23) dX0_isTale_23 rfl rfl (Nat.le_of_ble_eq_true rfl) (Nat.le_of_ble_eq_true rfl) ?_
    first | exact qb1 (by simp only [iTn, decide_eq_true_eq]; omega) | exact qb0 (by simp only [iTn, decide_eq_false_iff_not]; omega)
  · (try simp (disch := omega) only [i32_lti, i32_lei, i32_eqi, nI_toInt, i32z] at c_1)
    refine ev_iload_n (pc := 4) dX0_isTale_4 rfl ?_
    refine ev_aload_n (pc := 5) dX0_isTale_5 rfl ?_
    refine gf_X0_27 (pc := 6) rfl dX0_isTale_6 (by (try dsimp only); (repeat (first | rw [up_s] | rw [up_n (by omega)])) <;> first | rfl | assumption) ?_
    refine ev_icmp_ge (pc := 9) 22 dX0_isTale_9 (by decide) (fun c_9 => ?_) (fun c_9 => ?_)
    · (try simp (disch := omega) only [i32_lti, i32_lei, i32_eqi, nI_toInt, i32z] at c_9)
      refine ev_iconst (pc := 22) (v := nI 0) dX0_isTale_22 kc_0 ?_
      refine ev_iret (pc := 23) dX0_isTale_23 rfl rfl (Nat.le_of_ble_eq_true rfl) (Nat.le_of_ble_eq_true rfl) ?_
      first | exact qb1 (by simp only [iTn, decide_eq_true_eq]; omega) | exact qb0 (by simp only [iTn, decide_eq_false_iff_not]; omega)
    · (try simp (disch := omega) only [i32_lti, i32_lei, i32_eqi, nI_toInt, i32z] at c_9)
      refine ev_iload_n (pc := 12) dX0_isTale_12 rfl ?_
      refine ev_bipush (pc := 13) (v := nI 6) dX0_isTale_13 kb_6 ?_
      refine ev_icmp_ge (pc := 15) 22 dX0_isTale_15 (by decide) (fun c_15 => ?_) (fun c_15 => ?_)
      · (try simp (disch := omega) only [i32_lti, i32_lei, i32_eqi, nI_toInt, i32z] at c_15)
        refine ev_iconst (pc := 22) (v := nI 0) dX0_isTale_22 kc_0 ?_
        refine ev_iret (pc := 23) dX0_isTale_23 rfl rfl (Nat.le_of_ble_eq_true rfl) (Nat.le_of_ble_eq_true rfl) ?_
        first | exact qb1 (by simp only [iTn, decide_eq_true_eq]; omega) | exact qb0 (by simp only [iTn, decide_eq_false_iff_not]; omega)
      · (try simp (disch := omega) only [i32_lti, i32_lei, i32_eqi, nI_toInt, i32z] at c_15)
        refine ev_iconst (pc := 18) (v := nI 1) dX0_isTale_18 kc_1 ?_
        refine ev_goto (pc := 19) 23 dX0_isTale_19 (by decide) ?_
        refine ev_iret (pc := 23) dX0_isTale_23 rfl rfl (Nat.le_of_ble_eq_true rfl) (Nat.le_of_ble_eq_true rfl) ?_
        first | exact qb1 (by simp only [iTn, decide_eq_true_eq]; omega) | exact qb0 (by simp only [iTn, decide_eq_false_iff_not]; omega)
theorem c_partsOf (p : pBook h b B) (h6 : bT B ≤ 6) {k : Nat} (hk : k < 2 ^ 31) : Ct X 1 mt_X0_partsOf [.ref b, .int (nI k)] (h, z) 0 0 (QP (.int (nI (if k < bT B then gN (bP B) k else 0))) (h, z)) := by
  obtain ⟨hb, hp, -, -, hl, -, -⟩ := id p
  refine mk_X0_partsOf (Nat.le_of_ble_eq_true rfl) (L := [.ref b, .int (nI k)]) rfl ?_
  refine ev_aload_n (pc := 0) dX0_partsOf_0 rfl ?_
  refine ev_iload_n (pc := 1) dX0_partsOf_1 rfl ?_
  refine iv_X0_50 (pc := 2) rfl dX0_partsOf_2 (by (try dsimp only); (repeat (first | rw [up_s] | rw [up_n (by omega)])) <;> first | rfl | assumption) (Nat.le_of_ble_eq_true rfl) (Nat.le_of_ble_eq_true rfl) (Nat.le_of_ble_eq_true rfl) (Nat.le_of_ble_eq_true rfl) (c_isTale p h6 (nI k)) (kp ?_)
  refine ev_if_eq (pc := 5) 17 dX0_partsOf_5 (by decide) (fun c_5 => ?_) (fun c_5 => ?_)
  · simp only [b2i_e0, Bool.not_eq_false, iTn_nI hk, decide_eq_true_eq, decide_eq_false_iff_not, Decidable.not_not] at c_5
    refine ev_iconst (pc := 17) (v := nI 0) dX0_partsOf_17 kc_0 ?_
    refine ev_iret (pc := 18) dX0_partsOf_18 rfl rfl (Nat.le_of_ble_eq_true rfl) (Nat.le_of_ble_eq_true rfl) ?_
    first | exact ⟨by rw [if_pos c_5], rfl⟩ | exact ⟨by rw [if_neg c_5], rfl⟩
  · simp only [b2i_e0, Bool.not_eq_false, iTn_nI hk, decide_eq_true_eq, decide_eq_false_iff_not, Decidable.not_not] at c_5
    refine ev_aload_n (pc := 8) dX0_partsOf_8 rfl ?_
    refine gf_X0_9 (pc := 9) rfl dX0_partsOf_9 (by (try dsimp only); (repeat (first | rw [up_s] | rw [up_n (by omega)])) <;> first | rfl | assumption) ?_
    refine ev_iload_n (pc := 12) dX0_partsOf_12 rfl ?_
    refine ev_iald (pc := 13) dX0_partsOf_13 (by (try dsimp only); (repeat (first | rw [up_s] | rw [up_n (by omega)])) <;> first | rfl | assumption) (nI_toInt (by omega)) (gm (by omega)) ?_
    refine ev_goto (pc := 14) 18 dX0_partsOf_14 (by decide) ?_
    refine ev_iret (pc := 18) dX0_partsOf_18 rfl rfl (Nat.le_of_ble_eq_true rfl) (Nat.le_of_ble_eq_true rfl) ?_
    first | exact ⟨by rw [if_pos c_5], rfl⟩ | exact ⟨by rw [if_neg c_5], rfl⟩
theorem c_withinOf (p : pBook h b B) (h6 : bT B ≤ 6) {k : Nat} (hk : k < 2 ^ 31) : Ct X 1 mt_X0_withinOf [.ref b, .int (nI k)] (h, z) 0 0 (QP (.int (nI (if k < bT B then gN (bW B) k else 9))) (h, z)) := by
  obtain ⟨hb, -, hp, -, -, hl, -⟩ := id p
  refine mk_X0_withinOf (Nat.le_of_ble_eq_true rfl) (L := [.ref b, .int (nI k)]) rfl ?_
  refine ev_aload_n (pc := 0) dX0_withinOf_0 rfl ?_
  refine ev_iload_n (pc := 1) dX0_withinOf_1 rfl ?_
  refine iv_X0_50 (pc := 2) rfl dX0_withinOf_2 (by (try dsimp only); (repeat (first | rw [up_s] | rw [up_n (by omega)])) <;> first | rfl | assumption) (Nat.le_of_ble_eq_true rfl) (Nat.le_of_ble_eq_true rfl) (Nat.le_of_ble_eq_true rfl) (Nat.le_of_ble_eq_true rfl) (c_isTale p h6 (nI k)) (kp ?_)
  refine ev_if_eq (pc := 5) 17 dX0_withinOf_5 (by decide) (fun c_5 => ?_) (fun c_5 => ?_)
  · simp only [b2i_e0, Bool.not_eq_false, iTn_nI hk, decide_eq_true_eq, decide_eq_false_iff_not, Decidable.not_not] at c_5
    refine ev_bipush (pc := 17) (v := nI 9) dX0_withinOf_17 kb_9 ?_
    refine ev_iret (pc := 19) dX0_withinOf_19 rfl rfl (Nat.le_of_ble_eq_true rfl) (Nat.le_of_ble_eq_true rfl) ?_
    first | exact ⟨by rw [if_pos c_5], rfl⟩ | exact ⟨by rw [if_neg c_5], rfl⟩
  · simp only [b2i_e0, Bool.not_eq_false, iTn_nI hk, decide_eq_true_eq, decide_eq_false_iff_not, Decidable.not_not] at c_5
    refine ev_aload_n (pc := 8) dX0_withinOf_8 rfl ?_
    refine gf_X0_15 (pc := 9) rfl dX0_withinOf_9 (by (try dsimp only); (repeat (first | rw [up_s] | rw [up_n (by omega)])) <;> first | rfl | assumption) ?_
    refine ev_iload_n (pc := 12) dX0_withinOf_12 rfl ?_
    refine ev_iald (pc := 13) dX0_withinOf_13 (by (try dsimp only); (repeat (first | rw [up_s] | rw [up_n (by omega)])) <;> first | rfl | assumption) (nI_toInt (by omega)) (gm (by omega)) ?_
    refine ev_goto (pc := 14) 19 dX0_withinOf_14 (by decide) ?_
    refine ev_iret (pc := 19) dX0_withinOf_19 rfl rfl (Nat.le_of_ble_eq_true rfl) (Nat.le_of_ble_eq_true rfl) ?_
    first | exact ⟨by rw [if_pos c_5], rfl⟩ | exact ⟨by rw [if_neg c_5], rfl⟩
/-- how many of the first n tales are told within t -/
def tW (B : Bk) (t : Nat) : Nat → Nat
  | 0 => 0
  | n + 1 => tW B t n + (if gN (bW B) n = t then 1 else 0)
theorem tW_le (B : Bk) (t : Nat) : ∀ n : Nat, tW B t n ≤ n
  | 0 => Nat.le_refl 0
  | n + 1 => by have := tW_le B t n; unfold tW; split <;> omega
theorem c_toldWithin (p : pBook h b B) (h6 : bT B ≤ 6) (hw : ∀ i : Nat, i < bT B → gN (bW B) i < 10) {t : Nat} (ht : t < 2 ^ 31) : Ct X 2 mt_X0_toldWithin [.ref b, .int (nI t)] (h, z) 0 0 (QP (.int (nI (tW B t (bT B)))) (h, z)) := by
  obtain ⟨hb, -, hp, -, -, hl, -⟩ := id p
  refine mk_X0_toldWithin (Nat.le_of_ble_eq_true rfl) (L := [.ref b, .int (nI t), .retAddr 0, .retAddr 0]) rfl ?_
  have loop : ∀ (n i : Nat), bT B - i = n → i ≤ bT B → Ev X (mi_X0_toldWithin 2 0 0) (QP (.int (nI (tW B t (bT B)))) (h, z)) 0 0 (h, z) 4 [.ref b, .int (nI t), .int (nI (tW B t i)), .int (nI i)] [] := by
    intro n
    induction n with
    | zero =>
      intro i hn hi
      have hi2 : i = bT B := by omega
      subst hi2
      refine ev_iload_n (pc := 4) dX0_toldWithin_4 rfl ?_
      refine ev_aload_n (pc := 5) dX0_toldWithin_5 rfl ?_
      refine gf_X0_27 (pc := 6) rfl dX0_toldWithin_6 (by (try dsimp only); (repeat (first | rw [up_s] | rw [up_n (by omega)])) <;> first | rfl | assumption) ?_
      refine ev_icmp_ge (pc := 9) 35 dX0_toldWithin_9 (by decide) (fun c_9 => ?_) (fun c_9 => ?_)
      · (try simp (disch := omega) only [i32_lti, i32_lei, i32_eqi, nI_toInt, i32z] at c_9)
        refine ev_iload_n (pc := 35) dX0_toldWithin_35 rfl ?_
        refine ev_iret (pc := 36) dX0_toldWithin_36 rfl rfl (Nat.le_of_ble_eq_true rfl) (Nat.le_of_ble_eq_true rfl) ?_
        exact ⟨rfl, rfl⟩
      · exfalso; (try simp (disch := omega) only [i32_lti, i32_lei, i32_eqi, nI_toInt, i32z] at c_9); omega
    | succ n ih =>
      intro i hn hi
      have e1 := tW_le B t i
      have e2 := hw i (by omega)
      have e3 : tW B t (i + 1) = tW B t i + (if gN (bW B) i = t then 1 else 0) := rfl
      refine ev_iload_n (pc := 4) dX0_toldWithin_4 rfl ?_
      refine ev_aload_n (pc := 5) dX0_toldWithin_5 rfl ?_
      refine gf_X0_27 (pc := 6) rfl dX0_toldWithin_6 (by (try dsimp only); (repeat (first | rw [up_s] | rw [up_n (by omega)])) <;> first | rfl | assumption) ?_
      refine ev_icmp_ge (pc := 9) 35 dX0_toldWithin_9 (by decide) (fun c_9 => ?_) (fun c_9 => ?_)
      · exfalso; (try simp (disch := omega) only [i32_lti, i32_lei, i32_eqi, nI_toInt, i32z] at c_9); omega
      · (try simp (disch := omega) only [i32_lti, i32_lei, i32_eqi, nI_toInt, i32z] at c_9)
        refine ev_iload_n (pc := 12) dX0_toldWithin_12 rfl ?_
        refine ev_aload_n (pc := 13) dX0_toldWithin_13 rfl ?_
        refine ev_iload_n (pc := 14) dX0_toldWithin_14 rfl ?_
        refine iv_X0_54 (pc := 15) rfl dX0_toldWithin_15 (by (try dsimp only); (repeat (first | rw [up_s] | rw [up_n (by omega)])) <;> first | rfl | assumption) (Nat.le_of_ble_eq_true rfl) (Nat.le_of_ble_eq_true rfl) (Nat.le_of_ble_eq_true rfl) (Nat.le_of_ble_eq_true rfl) (c_withinOf p h6 (k := i) (by omega)) (kp ?_)
        rw [if_pos (by omega)]
        refine ev_iload_n (pc := 18) dX0_toldWithin_18 rfl ?_
        refine ev_icmp_ne (pc := 19) 26 dX0_toldWithin_19 (by decide) (fun c_19 => ?_) (fun c_19 => ?_)
        · (try simp (disch := omega) only [i32_lti, i32_lei, i32_eqi, nI_toInt, i32z] at c_19)
          rw [if_neg (by omega)] at e3
          refine ev_iconst (pc := 26) (v := nI 0) dX0_toldWithin_26 kc_0 ?_
          refine ev_iadd (pc := 27) dX0_toldWithin_27 ?_
          rw [nI_add]
          refine ev_istore_n (pc := 28) (L' := [_, _, _, _]) dX0_toldWithin_28 (Nat.le_of_ble_eq_true rfl) rfl ?_
          refine ev_iinc (pc := 29) (L' := [_, _, _, _]) dX0_toldWithin_29 rfl (nI_1 _) rfl ?_
          refine ev_goto (pc := 32) 4 dX0_toldWithin_32 (by decide) ?_
          rw [← e3]; exact ih (i + 1) (by omega) (by omega)
        · (try simp (disch := omega) only [i32_lti, i32_lei, i32_eqi, nI_toInt, i32z] at c_19)
          rw [if_pos (by omega)] at e3
          refine ev_iconst (pc := 22) (v := nI 1) dX0_toldWithin_22 kc_1 ?_
          refine ev_goto (pc := 23) 27 dX0_toldWithin_23 (by decide) ?_
          refine ev_iadd (pc := 27) dX0_toldWithin_27 ?_
          rw [nI_add]
          refine ev_istore_n (pc := 28) (L' := [_, _, _, _]) dX0_toldWithin_28 (Nat.le_of_ble_eq_true rfl) rfl ?_
          refine ev_iinc (pc := 29) (L' := [_, _, _, _]) dX0_toldWithin_29 rfl (nI_1 _) rfl ?_
          refine ev_goto (pc := 32) 4 dX0_toldWithin_32 (by decide) ?_
          rw [← e3]; exact ih (i + 1) (by omega) (by omega)
  refine ev_iconst (pc := 0) (v := nI 0) dX0_toldWithin_0 kc_0 ?_
  refine ev_istore_n (pc := 1) (L' := [_, _, _, _]) dX0_toldWithin_1 (Nat.le_of_ble_eq_true rfl) rfl ?_
  refine ev_iconst (pc := 2) (v := nI 0) dX0_toldWithin_2 kc_0 ?_
  refine ev_istore_n (pc := 3) (L' := [_, _, _, _]) dX0_toldWithin_3 (Nat.le_of_ble_eq_true rfl) rfl ?_
  exact loop _ 0 rfl (Nat.zero_le _)
/-- the hours of a night -/
def hoN (B : Bk) (i : Nat) : Nat := gN (bH B) (i % bK B)
theorem c_hoursOf (p : pBook h b B) (h1 : 1 ≤ bK B) (h8 : bK B ≤ 8) {i : Nat} (hi : i < 2 ^ 31) : Ct X 0 mt_X0_hoursOf [.ref b, .int (nI i)] (h, z) 0 0 (QP (.int (nI (hoN B i))) (h, z)) := by
  obtain ⟨hb, -, -, hp, -, -, hl⟩ := id p
  have hm : i % bK B < bK B := Nat.mod_lt _ (by omega)
  refine mk_X0_hoursOf (Nat.le_of_ble_eq_true rfl) (L := [.ref b, .int (nI i)]) rfl ?_
  refine ev_aload_n (pc := 0) dX0_hoursOf_0 rfl ?_
  refine gf_X0_31 (pc := 1) rfl dX0_hoursOf_1 (by (try dsimp only); (repeat (first | rw [up_s] | rw [up_n (by omega)])) <;> first | rfl | assumption) ?_
  refine ev_if_le (pc := 4) 20 dX0_hoursOf_4 (by decide) (fun c_4 => ?_) (fun c_4 => ?_)
  · exfalso; (try simp (disch := omega) only [i32_lti, i32_lei, i32_eqi, nI_toInt, i32z] at c_4); omega
  · (try simp (disch := omega) only [i32_lti, i32_lei, i32_eqi, nI_toInt, i32z] at c_4)
    refine ev_aload_n (pc := 7) dX0_hoursOf_7 rfl ?_
    refine gf_X0_31 (pc := 8) rfl dX0_hoursOf_8 (by (try dsimp only); (repeat (first | rw [up_s] | rw [up_n (by omega)])) <;> first | rfl | assumption) ?_
    refine ev_bipush (pc := 11) (v := nI 8) dX0_hoursOf_11 kb_8 ?_
    refine ev_icmp_gt (pc := 13) 20 dX0_hoursOf_13 (by decide) (fun c_13 => ?_) (fun c_13 => ?_)
    · exfalso; (try simp (disch := omega) only [i32_lti, i32_lei, i32_eqi, nI_toInt, i32z] at c_13); omega
    · (try simp (disch := omega) only [i32_lti, i32_lei, i32_eqi, nI_toInt, i32z] at c_13)
      refine ev_iload_n (pc := 16) dX0_hoursOf_16 rfl ?_
      refine ev_if_ge (pc := 17) 22 dX0_hoursOf_17 (by decide) (fun c_17 => ?_) (fun c_17 => ?_)
      · (try simp (disch := omega) only [i32_lti, i32_lei, i32_eqi, nI_toInt, i32z] at c_17)
        refine ev_aload_n (pc := 22) dX0_hoursOf_22 rfl ?_
        refine gf_X0_18 (pc := 23) rfl dX0_hoursOf_23 (by (try dsimp only); (repeat (first | rw [up_s] | rw [up_n (by omega)])) <;> first | rfl | assumption) ?_
        refine ev_iload_n (pc := 26) dX0_hoursOf_26 rfl ?_
        refine ev_aload_n (pc := 27) dX0_hoursOf_27 rfl ?_
        refine gf_X0_31 (pc := 28) rfl dX0_hoursOf_28 (by (try dsimp only); (repeat (first | rw [up_s] | rw [up_n (by omega)])) <;> first | rfl | assumption) ?_
        refine ev_irem (pc := 31) dX0_hoursOf_31 (fun q => by rw [nI_e0 (by omega)] at q; omega) ?_
        rw [pk_rem hi (by omega) (by omega)]
        refine ev_iald (pc := 32) dX0_hoursOf_32 (by (try dsimp only); (repeat (first | rw [up_s] | rw [up_n (by omega)])) <;> first | rfl | assumption) (nI_toInt (by omega)) (gm (by omega)) ?_
        refine ev_iret (pc := 33) dX0_hoursOf_33 rfl rfl (Nat.le_of_ble_eq_true rfl) (Nat.le_of_ble_eq_true rfl) ?_
        exact ⟨rfl, rfl⟩
      · exfalso; (try simp (disch := omega) only [i32_lti, i32_lei, i32_eqi, nI_toInt, i32z] at c_17); omega
theorem c_addTale (p : pBook h b B) (h6 : bT B < 6) (v w : Nat) : Ct X 0 mt_X0_addTale [.ref b, .int (nI v), .int (nI w)] (h, z) 0 0 (Qv (fun S' => S'.2 = z ∧ hfr h S'.1 b 4 ∧ pBook S'.1 b (bT B + 1, (bP B).set (bT B) v, (bW B).set (bT B) w, bK B, bH B, bM B, bD B))) := by
  obtain ⟨hb, hp, hw, hh, l1, l2, l3⟩ := id p
  refine mk_X0_addTale (Nat.le_of_ble_eq_true rfl) (L := [.ref b, .int (nI v), .int (nI w)]) rfl ?_
  refine ev_aload_n (pc := 0) dX0_addTale_0 rfl ?_
  refine gf_X0_27 (pc := 1) rfl dX0_addTale_1 (by (try dsimp only); (repeat (first | rw [up_s] | rw [up_n (by omega)])) <;> first | rfl | assumption) ?_
  refine ev_if_lt (pc := 4) 46 dX0_addTale_4 (by decide) (fun c_4 => ?_) (fun c_4 => ?_)
  · exfalso; (try simp (disch := omega) only [i32_lti, i32_lei, i32_eqi, nI_toInt, i32z] at c_4); omega
  · (try simp (disch := omega) only [i32_lti, i32_lei, i32_eqi, nI_toInt, i32z] at c_4)
    refine ev_aload_n (pc := 7) dX0_addTale_7 rfl ?_
    refine gf_X0_27 (pc := 8) rfl dX0_addTale_8 (by (try dsimp only); (repeat (first | rw [up_s] | rw [up_n (by omega)])) <;> first | rfl | assumption) ?_
    refine ev_bipush (pc := 11) (v := nI 6) dX0_addTale_11 kb_6 ?_
    refine ev_icmp_ge (pc := 13) 46 dX0_addTale_13 (by decide) (fun c_13 => ?_) (fun c_13 => ?_)
    · exfalso; (try simp (disch := omega) only [i32_lti, i32_lei, i32_eqi, nI_toInt, i32z] at c_13); omega
    · (try simp (disch := omega) only [i32_lti, i32_lei, i32_eqi, nI_toInt, i32z] at c_13)
      refine ev_aload_n (pc := 16) dX0_addTale_16 rfl ?_
      refine gf_X0_9 (pc := 17) rfl dX0_addTale_17 (by (try dsimp only); (repeat (first | rw [up_s] | rw [up_n (by omega)])) <;> first | rfl | assumption) ?_
      refine ev_aload_n (pc := 20) dX0_addTale_20 rfl ?_
      refine gf_X0_27 (pc := 21) rfl dX0_addTale_21 (by (try dsimp only); (repeat (first | rw [up_s] | rw [up_n (by omega)])) <;> first | rfl | assumption) ?_
      refine ev_iload_n (pc := 24) dX0_addTale_24 rfl ?_
      refine ev_iast (pc := 25) dX0_addTale_25 (by (try dsimp only); (repeat (first | rw [up_s] | rw [up_n (by omega)])) <;> first | rfl | assumption) (nI_toInt (by omega)) (by simp only [List.length_map, List.length_set, List.length_replicate, List.length_cons, List.length_nil]; omega) ?_
      (try rw [gs])
      refine ev_aload_n (pc := 26) dX0_addTale_26 rfl ?_
      refine gf_X0_15 (pc := 27) rfl dX0_addTale_27 (by (try dsimp only); (repeat (first | rw [up_s] | rw [up_n (by omega)])) <;> first | rfl | assumption) ?_
      refine ev_aload_n (pc := 30) dX0_addTale_30 rfl ?_
      refine gf_X0_27 (pc := 31) rfl dX0_addTale_31 (by (try dsimp only); (repeat (first | rw [up_s] | rw [up_n (by omega)])) <;> first | rfl | assumption) ?_
      refine ev_iload_n (pc := 34) dX0_addTale_34 rfl ?_
      refine ev_iast (pc := 35) dX0_addTale_35 (by (try dsimp only); (repeat (first | rw [up_s] | rw [up_n (by omega)])) <;> first | rfl | assumption) (nI_toInt (by omega)) (by simp only [List.length_map, List.length_set, List.length_replicate, List.length_cons, List.length_nil]; omega) ?_
      (try rw [gs])
      refine ev_aload_n (pc := 36) dX0_addTale_36 rfl ?_
      refine ev_dup (pc := 37) dX0_addTale_37 rfl ?_
      refine gf_X0_27 (pc := 38) rfl dX0_addTale_38 (by (try dsimp only); (repeat (first | rw [up_s] | rw [up_n (by omega)])) <;> first | rfl | assumption) ?_
      refine ev_iconst (pc := 41) (v := nI 1) dX0_addTale_41 kc_1 ?_
      refine ev_iadd (pc := 42) dX0_addTale_42 ?_
      rw [nI_add]
      refine pf_X0_27 (pc := 43) rfl dX0_addTale_43 (by (try dsimp only); (repeat (first | rw [up_s] | rw [up_n (by omega)])) <;> first | rfl | assumption) ?_
      refine ev_ret (pc := 46) dX0_addTale_46 rfl (Nat.le_of_ble_eq_true rfl) (Nat.le_of_ble_eq_true rfl) ?_
      exact ⟨rfl, rfl, (by intro q hq; first | rfl | ((try dsimp only); (repeat (first | rw [up_n (by omega)])))), (by (try dsimp only); (repeat (first | rw [up_s] | rw [up_n (by omega)])) <;> first | rfl | assumption), (by (try dsimp only); (repeat (first | rw [up_s] | rw [up_n (by omega)])) <;> first | rfl | assumption), (by (try dsimp only); (repeat (first | rw [up_s] | rw [up_n (by omega)])) <;> first | rfl | assumption), (by (try dsimp only); (repeat (first | rw [up_s] | rw [up_n (by omega)])) <;> first | rfl | assumption), (List.length_set ..).trans l1, (List.length_set ..).trans l2, l3⟩
theorem c_addNight (p : pBook h b B) (h8 : bK B < 8) (v : Nat) : Ct X 0 mt_X0_addNight [.ref b, .int (nI v)] (h, z) 0 0 (Qv (fun S' => S'.2 = z ∧ hfr h S'.1 b 4 ∧ pBook S'.1 b (bT B, bP B, bW B, bK B + 1, (bH B).set (bK B) v, bM B, bD B))) := by
  obtain ⟨hb, hp, hw, hh, l1, l2, l3⟩ := id p
  refine mk_X0_addNight (Nat.le_of_ble_eq_true rfl) (L := [.ref b, .int (nI v)]) rfl ?_
  refine ev_aload_n (pc := 0) dX0_addNight_0 rfl ?_
  refine gf_X0_31 (pc := 1) rfl dX0_addNight_1 (by (try dsimp only); (repeat (first | rw [up_s] | rw [up_n (by omega)])) <;> first | rfl | assumption) ?_
  refine ev_if_lt (pc := 4) 36 dX0_addNight_4 (by decide) (fun c_4 => ?_) (fun c_4 => ?_)
  · exfalso; (try simp (disch := omega) only [i32_lti, i32_lei, i32_eqi, nI_toInt, i32z] at c_4); omega
  · (try simp (disch := omega) only [i32_lti, i32_lei, i32_eqi, nI_toInt, i32z] at c_4)
    refine ev_aload_n (pc := 7) dX0_addNight_7 rfl ?_
    refine gf_X0_31 (pc := 8) rfl dX0_addNight_8 (by (try dsimp only); (repeat (first | rw [up_s] | rw [up_n (by omega)])) <;> first | rfl | assumption) ?_
    refine ev_bipush (pc := 11) (v := nI 8) dX0_addNight_11 kb_8 ?_
    refine ev_icmp_ge (pc := 13) 36 dX0_addNight_13 (by decide) (fun c_13 => ?_) (fun c_13 => ?_)
    · exfalso; (try simp (disch := omega) only [i32_lti, i32_lei, i32_eqi, nI_toInt, i32z] at c_13); omega
    · (try simp (disch := omega) only [i32_lti, i32_lei, i32_eqi, nI_toInt, i32z] at c_13)
      refine ev_aload_n (pc := 16) dX0_addNight_16 rfl ?_
      refine gf_X0_18 (pc := 17) rfl dX0_addNight_17 (by (try dsimp only); (repeat (first | rw [up_s] | rw [up_n (by omega)])) <;> first | rfl | assumption) ?_
      refine ev_aload_n (pc := 20) dX0_addNight_20 rfl ?_
      refine gf_X0_31 (pc := 21) rfl dX0_addNight_21 (by (try dsimp only); (repeat (first | rw [up_s] | rw [up_n (by omega)])) <;> first | rfl | assumption) ?_
      refine ev_iload_n (pc := 24) dX0_addNight_24 rfl ?_
      refine ev_iast (pc := 25) dX0_addNight_25 (by (try dsimp only); (repeat (first | rw [up_s] | rw [up_n (by omega)])) <;> first | rfl | assumption) (nI_toInt (by omega)) (by simp only [List.length_map, List.length_set, List.length_replicate, List.length_cons, List.length_nil]; omega) ?_
      (try rw [gs])
      refine ev_aload_n (pc := 26) dX0_addNight_26 rfl ?_
      refine ev_dup (pc := 27) dX0_addNight_27 rfl ?_
      refine gf_X0_31 (pc := 28) rfl dX0_addNight_28 (by (try dsimp only); (repeat (first | rw [up_s] | rw [up_n (by omega)])) <;> first | rfl | assumption) ?_
      refine ev_iconst (pc := 31) (v := nI 1) dX0_addNight_31 kc_1 ?_
      refine ev_iadd (pc := 32) dX0_addNight_32 ?_
      rw [nI_add]
      refine pf_X0_31 (pc := 33) rfl dX0_addNight_33 (by (try dsimp only); (repeat (first | rw [up_s] | rw [up_n (by omega)])) <;> first | rfl | assumption) ?_
      refine ev_ret (pc := 36) dX0_addNight_36 rfl (Nat.le_of_ble_eq_true rfl) (Nat.le_of_ble_eq_true rfl) ?_
      exact ⟨rfl, rfl, (by intro q hq; first | rfl | ((try dsimp only); (repeat (first | rw [up_n (by omega)])))), (by (try dsimp only); (repeat (first | rw [up_s] | rw [up_n (by omega)])) <;> first | rfl | assumption), (by (try dsimp only); (repeat (first | rw [up_s] | rw [up_n (by omega)])) <;> first | rfl | assumption), (by (try dsimp only); (repeat (first | rw [up_s] | rw [up_n (by omega)])) <;> first | rfl | assumption), (by (try dsimp only); (repeat (first | rw [up_s] | rw [up_n (by omega)])) <;> first | rfl | assumption), l1, l2, (List.length_set ..).trans l3⟩
theorem c_wipe (p : pBook h b B) : Ct X 0 mt_X0_wipe [.ref b] (h, z) 0 0 (Qv (fun S' => S'.2 = z ∧ hfr h S'.1 b 4 ∧ pBook S'.1 b (0, bP B, bW B, 0, bH B, 0, 0))) := by
  obtain ⟨hb, hp, hw, hh, l1, l2, l3⟩ := id p
  refine mk_X0_wipe (Nat.le_of_ble_eq_true rfl) (L := [.ref b]) rfl ?_
  refine ev_aload_n (pc := 0) dX0_wipe_0 rfl ?_
  refine ev_iconst (pc := 1) (v := nI 0) dX0_wipe_1 kc_0 ?_
  refine pf_X0_27 (pc := 2) rfl dX0_wipe_2 (by (try dsimp only); (repeat (first | rw [up_s] | rw [up_n (by omega)])) <;> first | rfl | assumption) ?_
  refine ev_aload_n (pc := 5) dX0_wipe_5 rfl ?_
  refine ev_iconst (pc := 6) (v := nI 0) dX0_wipe_6 kc_0 ?_
  refine pf_X0_31 (pc := 7) rfl dX0_wipe_7 (by (try dsimp only); (repeat (first | rw [up_s] | rw [up_n (by omega)])) <;> first | rfl | assumption) ?_
  refine ev_aload_n (pc := 10) dX0_wipe_10 rfl ?_
  refine ev_iconst (pc := 11) (v := nI 0) dX0_wipe_11 kc_0 ?_
  refine pf_X0_34 (pc := 12) rfl dX0_wipe_12 (by (try dsimp only); (repeat (first | rw [up_s] | rw [up_n (by omega)])) <;> first | rfl | assumption) ?_
  refine ev_aload_n (pc := 15) dX0_wipe_15 rfl ?_
  refine ev_iconst (pc := 16) (v := nI 0) dX0_wipe_16 kc_0 ?_
  refine pf_X0_37 (pc := 17) rfl dX0_wipe_17 (by (try dsimp only); (repeat (first | rw [up_s] | rw [up_n (by omega)])) <;> first | rfl | assumption) ?_
  refine ev_ret (pc := 20) dX0_wipe_20 rfl (Nat.le_of_ble_eq_true rfl) (Nat.le_of_ble_eq_true rfl) ?_
  exact ⟨rfl, rfl, (by intro q hq; first | rfl | ((try dsimp only); (repeat (first | rw [up_n (by omega)])))), (by (try dsimp only); (repeat (first | rw [up_s] | rw [up_n (by omega)])) <;> first | rfl | assumption), (by (try dsimp only); (repeat (first | rw [up_s] | rw [up_n (by omega)])) <;> first | rfl | assumption), (by (try dsimp only); (repeat (first | rw [up_s] | rw [up_n (by omega)])) <;> first | rfl | assumption), (by (try dsimp only); (repeat (first | rw [up_s] | rw [up_n (by omega)])) <;> first | rfl | assumption), l1, l2, l3⟩
def bSet (B : Bk) : Bk := (bT B, bP B, bW B, (if bK B = 0 then 1 else bK B), (if bK B = 0 then (bH B).set 0 5 else bH B), (if bM B = 0 then 3 else bM B), (if bD B = 0 then 6 else bD B))
theorem c_settle (p : pBook h b B) (h8 : bK B ≤ 8) (hm : bM B < 10) (hd : bD B < 10) : Ct X 1 mt_X0_settle [.ref b] (h, z) 0 0 (Qv (fun S' => S'.2 = z ∧ hfr h S'.1 b 4 ∧ pBook S'.1 b (bSet B))) := by
  obtain ⟨hb, hp, hw, hh, l1, l2, l3⟩ := id p
  refine mk_X0_settle (Nat.le_of_ble_eq_true rfl) (L := [.ref b]) rfl ?_
  have f1 : hfr h h b 4 := hfr.rf _ _ _
  refine ev_aload_n (pc := 0) dX0_settle_0 rfl ?_
  refine gf_X0_31 (pc := 1) rfl dX0_settle_1 (by (try dsimp only); (repeat (first | rw [up_s] | rw [up_n (by omega)])) <;> first | rfl | assumption) ?_
  refine ev_if_ne (pc := 4) 12 dX0_settle_4 (by decide) (fun c_4 => ?_) (fun c_4 => ?_)
  · rw [nI_e0 (by omega)] at c_4
    refine ev_aload_n (pc := 12) dX0_settle_12 rfl ?_
    refine gf_X0_34 (pc := 13) rfl dX0_settle_13 (by (try dsimp only); (repeat (first | rw [up_s] | rw [up_n (by omega)])) <;> first | rfl | assumption) ?_
    refine ev_if_ne (pc := 16) 24 dX0_settle_16 (by decide) (fun c_16 => ?_) (fun c_16 => ?_)
    · rw [nI_e0 (by omega)] at c_16
      refine ev_aload_n (pc := 24) dX0_settle_24 rfl ?_
      refine gf_X0_37 (pc := 25) rfl dX0_settle_25 (by (try dsimp only); (repeat (first | rw [up_s] | rw [up_n (by omega)])) <;> first | rfl | assumption) ?_
      refine ev_if_ne (pc := 28) 37 dX0_settle_28 (by decide) (fun c_28 => ?_) (fun c_28 => ?_)
      · rw [nI_e0 (by omega)] at c_28
        refine ev_ret (pc := 37) dX0_settle_37 rfl (Nat.le_of_ble_eq_true rfl) (Nat.le_of_ble_eq_true rfl) ?_
        refine ⟨rfl, rfl, by first | exact f1 | exact (by intro q hq; (try dsimp only); (repeat (first | rw [up_n (by omega)])) <;> first | rfl | exact f1 q hq), ?_⟩
        unfold bSet
        first | rw [if_pos c_4, if_pos c_4] | rw [if_neg c_4, if_neg c_4]
        first | rw [if_pos c_16] | rw [if_neg c_16]
        first | rw [if_pos c_28] | rw [if_neg c_28]
        exact ⟨(by (try dsimp only); (repeat (first | rw [up_s] | rw [up_n (by omega)])) <;> first | rfl | assumption), (by (try dsimp only); (repeat (first | rw [up_s] | rw [up_n (by omega)])) <;> first | rfl | assumption), (by (try dsimp only); (repeat (first | rw [up_s] | rw [up_n (by omega)])) <;> first | rfl | assumption), (by (try dsimp only); (repeat (first | rw [up_s] | rw [up_n (by omega)])) <;> first | rfl | assumption), l1, l2, l3⟩
      · rw [nI_e0 (by omega)] at c_28
        refine ev_aload_n (pc := 31) dX0_settle_31 rfl ?_
        refine ev_bipush (pc := 32) (v := nI 6) dX0_settle_32 kb_6 ?_
        refine pf_X0_37 (pc := 34) rfl dX0_settle_34 (by (try dsimp only); (repeat (first | rw [up_s] | rw [up_n (by omega)])) <;> first | rfl | assumption) ?_
        refine ev_ret (pc := 37) dX0_settle_37 rfl (Nat.le_of_ble_eq_true rfl) (Nat.le_of_ble_eq_true rfl) ?_
        refine ⟨rfl, rfl, by first | exact f1 | exact (by intro q hq; (try dsimp only); (repeat (first | rw [up_n (by omega)])) <;> first | rfl | exact f1 q hq), ?_⟩
        unfold bSet
        first | rw [if_pos c_4, if_pos c_4] | rw [if_neg c_4, if_neg c_4]
        first | rw [if_pos c_16] | rw [if_neg c_16]
        first | rw [if_pos c_28] | rw [if_neg c_28]
        exact ⟨(by (try dsimp only); (repeat (first | rw [up_s] | rw [up_n (by omega)])) <;> first | rfl | assumption), (by (try dsimp only); (repeat (first | rw [up_s] | rw [up_n (by omega)])) <;> first | rfl | assumption), (by (try dsimp only); (repeat (first | rw [up_s] | rw [up_n (by omega)])) <;> first | rfl | assumption), (by (try dsimp only); (repeat (first | rw [up_s] | rw [up_n (by omega)])) <;> first | rfl | assumption), l1, l2, l3⟩
    · rw [nI_e0 (by omega)] at c_16
      refine ev_aload_n (pc := 19) dX0_settle_19 rfl ?_
      refine ev_iconst (pc := 20) (v := nI 3) dX0_settle_20 kc_3 ?_
      refine pf_X0_34 (pc := 21) rfl dX0_settle_21 (by (try dsimp only); (repeat (first | rw [up_s] | rw [up_n (by omega)])) <;> first | rfl | assumption) ?_
      refine ev_aload_n (pc := 24) dX0_settle_24 rfl ?_
      refine gf_X0_37 (pc := 25) rfl dX0_settle_25 (by (try dsimp only); (repeat (first | rw [up_s] | rw [up_n (by omega)])) <;> first | rfl | assumption) ?_
      refine ev_if_ne (pc := 28) 37 dX0_settle_28 (by decide) (fun c_28 => ?_) (fun c_28 => ?_)
      · rw [nI_e0 (by omega)] at c_28
        refine ev_ret (pc := 37) dX0_settle_37 rfl (Nat.le_of_ble_eq_true rfl) (Nat.le_of_ble_eq_true rfl) ?_
        refine ⟨rfl, rfl, by first | exact f1 | exact (by intro q hq; (try dsimp only); (repeat (first | rw [up_n (by omega)])) <;> first | rfl | exact f1 q hq), ?_⟩
        unfold bSet
        first | rw [if_pos c_4, if_pos c_4] | rw [if_neg c_4, if_neg c_4]
        first | rw [if_pos c_16] | rw [if_neg c_16]
        first | rw [if_pos c_28] | rw [if_neg c_28]
        exact ⟨(by (try dsimp only); (repeat (first | rw [up_s] | rw [up_n (by omega)])) <;> first | rfl | assumption), (by (try dsimp only); (repeat (first | rw [up_s] | rw [up_n (by omega)])) <;> first | rfl | assumption), (by (try dsimp only); (repeat (first | rw [up_s] | rw [up_n (by omega)])) <;> first | rfl | assumption), (by (try dsimp only); (repeat (first | rw [up_s] | rw [up_n (by omega)])) <;> first | rfl | assumption), l1, l2, l3⟩
      · rw [nI_e0 (by omega)] at c_28
        refine ev_aload_n (pc := 31) dX0_settle_31 rfl ?_
        refine ev_bipush (pc := 32) (v := nI 6) dX0_settle_32 kb_6 ?_
        refine pf_X0_37 (pc := 34) rfl dX0_settle_34 (by (try dsimp only); (repeat (first | rw [up_s] | rw [up_n (by omega)])) <;> first | rfl | assumption) ?_
        refine ev_ret (pc := 37) dX0_settle_37 rfl (Nat.le_of_ble_eq_true rfl) (Nat.le_of_ble_eq_true rfl) ?_
        refine ⟨rfl, rfl, by first | exact f1 | exact (by intro q hq; (try dsimp only); (repeat (first | rw [up_n (by omega)])) <;> first | rfl | exact f1 q hq), ?_⟩
        unfold bSet
        first | rw [if_pos c_4, if_pos c_4] | rw [if_neg c_4, if_neg c_4]
        first | rw [if_pos c_16] | rw [if_neg c_16]
        first | rw [if_pos c_28] | rw [if_neg c_28]
        exact ⟨(by (try dsimp only); (repeat (first | rw [up_s] | rw [up_n (by omega)])) <;> first | rfl | assumption), (by (try dsimp only); (repeat (first | rw [up_s] | rw [up_n (by omega)])) <;> first | rfl | assumption), (by (try dsimp only); (repeat (first | rw [up_s] | rw [up_n (by omega)])) <;> first | rfl | assumption), (by (try dsimp only); (repeat (first | rw [up_s] | rw [up_n (by omega)])) <;> first | rfl | assumption), l1, l2, l3⟩
  · rw [nI_e0 (by omega)] at c_4
    refine ev_aload_n (pc := 7) dX0_settle_7 rfl ?_
    refine ev_iconst (pc := 8) (v := nI 5) dX0_settle_8 kc_5 ?_
    refine iv_X0_40 (pc := 9) rfl dX0_settle_9 (by (try dsimp only); (repeat (first | rw [up_s] | rw [up_n (by omega)])) <;> first | rfl | assumption) (Nat.le_of_ble_eq_true rfl) (Nat.le_of_ble_eq_true rfl) (Nat.le_of_ble_eq_true rfl) (Nat.le_of_ble_eq_true rfl) (c_addNight p (by omega) 5) (kv (fun S' hS => ?_))
    obtain ⟨h', z'⟩ := S'
    obtain ⟨rfl, f1, hb, hp, hw, hh, l1, l2, l3⟩ := hS
    dsimp only [bT, bP, bW, bK, bH, bM, bD] at *
    rw [c_4] at hb hh l3
    refine ev_aload_n (pc := 12) dX0_settle_12 rfl ?_
    refine gf_X0_34 (pc := 13) rfl dX0_settle_13 (by (try dsimp only); (repeat (first | rw [up_s] | rw [up_n (by omega)])) <;> first | rfl | assumption) ?_
    refine ev_if_ne (pc := 16) 24 dX0_settle_16 (by decide) (fun c_16 => ?_) (fun c_16 => ?_)
    · rw [nI_e0 (by omega)] at c_16
      refine ev_aload_n (pc := 24) dX0_settle_24 rfl ?_
      refine gf_X0_37 (pc := 25) rfl dX0_settle_25 (by (try dsimp only); (repeat (first | rw [up_s] | rw [up_n (by omega)])) <;> first | rfl | assumption) ?_
      refine ev_if_ne (pc := 28) 37 dX0_settle_28 (by decide) (fun c_28 => ?_) (fun c_28 => ?_)
      · rw [nI_e0 (by omega)] at c_28
        refine ev_ret (pc := 37) dX0_settle_37 rfl (Nat.le_of_ble_eq_true rfl) (Nat.le_of_ble_eq_true rfl) ?_
        refine ⟨rfl, rfl, by first | exact f1 | exact (by intro q hq; (try dsimp only); (repeat (first | rw [up_n (by omega)])) <;> first | rfl | exact f1 q hq), ?_⟩
        unfold bSet
        first | rw [if_pos c_4, if_pos c_4] | rw [if_neg c_4, if_neg c_4]
        first | rw [if_pos c_16] | rw [if_neg c_16]
        first | rw [if_pos c_28] | rw [if_neg c_28]
        exact ⟨(by (try dsimp only); (repeat (first | rw [up_s] | rw [up_n (by omega)])) <;> first | rfl | assumption), (by (try dsimp only); (repeat (first | rw [up_s] | rw [up_n (by omega)])) <;> first | rfl | assumption), (by (try dsimp only); (repeat (first | rw [up_s] | rw [up_n (by omega)])) <;> first | rfl | assumption), (by (try dsimp only); (repeat (first | rw [up_s] | rw [up_n (by omega)])) <;> first | rfl | assumption), l1, l2, l3⟩
      · rw [nI_e0 (by omega)] at c_28
        refine ev_aload_n (pc := 31) dX0_settle_31 rfl ?_
        refine ev_bipush (pc := 32) (v := nI 6) dX0_settle_32 kb_6 ?_
        refine pf_X0_37 (pc := 34) rfl dX0_settle_34 (by (try dsimp only); (repeat (first | rw [up_s] | rw [up_n (by omega)])) <;> first | rfl | assumption) ?_
        refine ev_ret (pc := 37) dX0_settle_37 rfl (Nat.le_of_ble_eq_true rfl) (Nat.le_of_ble_eq_true rfl) ?_
        refine ⟨rfl, rfl, by first | exact f1 | exact (by intro q hq; (try dsimp only); (repeat (first | rw [up_n (by omega)])) <;> first | rfl | exact f1 q hq), ?_⟩
        unfold bSet
        first | rw [if_pos c_4, if_pos c_4] | rw [if_neg c_4, if_neg c_4]
        first | rw [if_pos c_16] | rw [if_neg c_16]
        first | rw [if_pos c_28] | rw [if_neg c_28]
        exact ⟨(by (try dsimp only); (repeat (first | rw [up_s] | rw [up_n (by omega)])) <;> first | rfl | assumption), (by (try dsimp only); (repeat (first | rw [up_s] | rw [up_n (by omega)])) <;> first | rfl | assumption), (by (try dsimp only); (repeat (first | rw [up_s] | rw [up_n (by omega)])) <;> first | rfl | assumption), (by (try dsimp only); (repeat (first | rw [up_s] | rw [up_n (by omega)])) <;> first | rfl | assumption), l1, l2, l3⟩
    · rw [nI_e0 (by omega)] at c_16
      refine ev_aload_n (pc := 19) dX0_settle_19 rfl ?_
      refine ev_iconst (pc := 20) (v := nI 3) dX0_settle_20 kc_3 ?_
      refine pf_X0_34 (pc := 21) rfl dX0_settle_21 (by (try dsimp only); (repeat (first | rw [up_s] | rw [up_n (by omega)])) <;> first | rfl | assumption) ?_
      refine ev_aload_n (pc := 24) dX0_settle_24 rfl ?_
      refine gf_X0_37 (pc := 25) rfl dX0_settle_25 (by (try dsimp only); (repeat (first | rw [up_s] | rw [up_n (by omega)])) <;> first | rfl | assumption) ?_
      refine ev_if_ne (pc := 28) 37 dX0_settle_28 (by decide) (fun c_28 => ?_) (fun c_28 => ?_)
      · rw [nI_e0 (by omega)] at c_28
        refine ev_ret (pc := 37) dX0_settle_37 rfl (Nat.le_of_ble_eq_true rfl) (Nat.le_of_ble_eq_true rfl) ?_
        refine ⟨rfl, rfl, by first | exact f1 | exact (by intro q hq; (try dsimp only); (repeat (first | rw [up_n (by omega)])) <;> first | rfl | exact f1 q hq), ?_⟩
        unfold bSet
        first | rw [if_pos c_4, if_pos c_4] | rw [if_neg c_4, if_neg c_4]
        first | rw [if_pos c_16] | rw [if_neg c_16]
        first | rw [if_pos c_28] | rw [if_neg c_28]
        exact ⟨(by (try dsimp only); (repeat (first | rw [up_s] | rw [up_n (by omega)])) <;> first | rfl | assumption), (by (try dsimp only); (repeat (first | rw [up_s] | rw [up_n (by omega)])) <;> first | rfl | assumption), (by (try dsimp only); (repeat (first | rw [up_s] | rw [up_n (by omega)])) <;> first | rfl | assumption), (by (try dsimp only); (repeat (first | rw [up_s] | rw [up_n (by omega)])) <;> first | rfl | assumption), l1, l2, l3⟩
      · rw [nI_e0 (by omega)] at c_28
        refine ev_aload_n (pc := 31) dX0_settle_31 rfl ?_
        refine ev_bipush (pc := 32) (v := nI 6) dX0_settle_32 kb_6 ?_
        refine pf_X0_37 (pc := 34) rfl dX0_settle_34 (by (try dsimp only); (repeat (first | rw [up_s] | rw [up_n (by omega)])) <;> first | rfl | assumption) ?_
        refine ev_ret (pc := 37) dX0_settle_37 rfl (Nat.le_of_ble_eq_true rfl) (Nat.le_of_ble_eq_true rfl) ?_
        refine ⟨rfl, rfl, by first | exact f1 | exact (by intro q hq; (try dsimp only); (repeat (first | rw [up_n (by omega)])) <;> first | rfl | exact f1 q hq), ?_⟩
        unfold bSet
        first | rw [if_pos c_4, if_pos c_4] | rw [if_neg c_4, if_neg c_4]
        first | rw [if_pos c_16] | rw [if_neg c_16]
        first | rw [if_pos c_28] | rw [if_neg c_28]
        exact ⟨(by (try dsimp only); (repeat (first | rw [up_s] | rw [up_n (by omega)])) <;> first | rfl | assumption), (by (try dsimp only); (repeat (first | rw [up_s] | rw [up_n (by omega)])) <;> first | rfl | assumption), (by (try dsimp only); (repeat (first | rw [up_s] | rw [up_n (by omega)])) <;> first | rfl | assumption), (by (try dsimp only); (repeat (first | rw [up_s] | rw [up_n (by omega)])) <;> first | rfl | assumption), l1, l2, l3⟩
theorem c_copyFrom {o : Nat} {C : Bk} (p : pBook h b B) (p2 : pBook h o C) (d : b + 4 ≤ o ∨ o + 4 ≤ b) : Ct X 1 mt_X0_copyFrom [.ref b, .ref o] (h, z) 0 0 (Qv (fun S' => S'.2 = z ∧ hfr h S'.1 b 4 ∧ pBook S'.1 b C)) := by
  obtain ⟨hb, hp, hw, hh, l1, l2, l3⟩ := id p
  obtain ⟨gb, gp, gw, gh, m1, m2, m3⟩ := id p2
  refine mk_X0_copyFrom (Nat.le_of_ble_eq_true rfl) (L := [.ref b, .ref o]) rfl ?_
  refine ev_aload_n (pc := 0) dX0_copyFrom_0 rfl ?_
  refine ev_aload_n (pc := 1) dX0_copyFrom_1 rfl ?_
  refine gf_X0_27 (pc := 2) rfl dX0_copyFrom_2 (by (try dsimp only); (repeat (first | rw [up_s] | rw [up_n (by omega)])) <;> first | rfl | assumption) ?_
  refine pf_X0_27 (pc := 5) rfl dX0_copyFrom_5 (by (try dsimp only); (repeat (first | rw [up_s] | rw [up_n (by omega)])) <;> first | rfl | assumption) ?_
  refine ev_aload_n (pc := 8) dX0_copyFrom_8 rfl ?_
  refine gf_X0_9 (pc := 9) rfl dX0_copyFrom_9 (by (try dsimp only); (repeat (first | rw [up_s] | rw [up_n (by omega)])) <;> first | rfl | assumption) ?_
  refine ev_iconst (pc := 12) (v := nI 0) dX0_copyFrom_12 kc_0 ?_
  refine ev_aload_n (pc := 13) dX0_copyFrom_13 rfl ?_
  refine gf_X0_9 (pc := 14) rfl dX0_copyFrom_14 (by (try dsimp only); (repeat (first | rw [up_s] | rw [up_n (by omega)])) <;> first | rfl | assumption) ?_
  refine ev_iconst (pc := 17) (v := nI 0) dX0_copyFrom_17 kc_0 ?_
  refine ev_bipush (pc := 18) (v := nI 6) dX0_copyFrom_18 kb_6 ?_
  refine ev_copyi (pc := 20) dX0_copyFrom_20 tw_439 (Nat.le_of_ble_eq_true rfl) (Nat.le_of_ble_eq_true rfl) (by (try dsimp only); (repeat (first | rw [up_s] | rw [up_n (by omega)])) <;> first | rfl | assumption) (by (try dsimp only); (repeat (first | rw [up_s] | rw [up_n (by omega)])) <;> first | rfl | assumption) (nI_toInt (by omega)) (nI_toInt (by omega)) (nI_toInt (by omega)) (by simp only [List.length_map]; omega) (by simp only [List.length_map]; omega) ?_
  rw [am_cp_all 0 _ _ ((List.length_map _).trans m1) ((List.length_map _).trans l1)]
  refine ev_aload_n (pc := 23) dX0_copyFrom_23 rfl ?_
  refine gf_X0_15 (pc := 24) rfl dX0_copyFrom_24 (by (try dsimp only); (repeat (first | rw [up_s] | rw [up_n (by omega)])) <;> first | rfl | assumption) ?_
  refine ev_iconst (pc := 27) (v := nI 0) dX0_copyFrom_27 kc_0 ?_
  refine ev_aload_n (pc := 28) dX0_copyFrom_28 rfl ?_
  refine gf_X0_15 (pc := 29) rfl dX0_copyFrom_29 (by (try dsimp only); (repeat (first | rw [up_s] | rw [up_n (by omega)])) <;> first | rfl | assumption) ?_
  refine ev_iconst (pc := 32) (v := nI 0) dX0_copyFrom_32 kc_0 ?_
  refine ev_bipush (pc := 33) (v := nI 6) dX0_copyFrom_33 kb_6 ?_
  refine ev_copyi (pc := 35) dX0_copyFrom_35 tw_439 (Nat.le_of_ble_eq_true rfl) (Nat.le_of_ble_eq_true rfl) (by (try dsimp only); (repeat (first | rw [up_s] | rw [up_n (by omega)])) <;> first | rfl | assumption) (by (try dsimp only); (repeat (first | rw [up_s] | rw [up_n (by omega)])) <;> first | rfl | assumption) (nI_toInt (by omega)) (nI_toInt (by omega)) (nI_toInt (by omega)) (by simp only [List.length_map]; omega) (by simp only [List.length_map]; omega) ?_
  rw [am_cp_all 0 _ _ ((List.length_map _).trans m2) ((List.length_map _).trans l2)]
  refine ev_aload_n (pc := 38) dX0_copyFrom_38 rfl ?_
  refine ev_aload_n (pc := 39) dX0_copyFrom_39 rfl ?_
  refine gf_X0_31 (pc := 40) rfl dX0_copyFrom_40 (by (try dsimp only); (repeat (first | rw [up_s] | rw [up_n (by omega)])) <;> first | rfl | assumption) ?_
  refine pf_X0_31 (pc := 43) rfl dX0_copyFrom_43 (by (try dsimp only); (repeat (first | rw [up_s] | rw [up_n (by omega)])) <;> first | rfl | assumption) ?_
  refine ev_aload_n (pc := 46) dX0_copyFrom_46 rfl ?_
  refine gf_X0_18 (pc := 47) rfl dX0_copyFrom_47 (by (try dsimp only); (repeat (first | rw [up_s] | rw [up_n (by omega)])) <;> first | rfl | assumption) ?_
  refine ev_iconst (pc := 50) (v := nI 0) dX0_copyFrom_50 kc_0 ?_
  refine ev_aload_n (pc := 51) dX0_copyFrom_51 rfl ?_
  refine gf_X0_18 (pc := 52) rfl dX0_copyFrom_52 (by (try dsimp only); (repeat (first | rw [up_s] | rw [up_n (by omega)])) <;> first | rfl | assumption) ?_
  refine ev_iconst (pc := 55) (v := nI 0) dX0_copyFrom_55 kc_0 ?_
  refine ev_bipush (pc := 56) (v := nI 8) dX0_copyFrom_56 kb_8 ?_
  refine ev_copyi (pc := 58) dX0_copyFrom_58 tw_439 (Nat.le_of_ble_eq_true rfl) (Nat.le_of_ble_eq_true rfl) (by (try dsimp only); (repeat (first | rw [up_s] | rw [up_n (by omega)])) <;> first | rfl | assumption) (by (try dsimp only); (repeat (first | rw [up_s] | rw [up_n (by omega)])) <;> first | rfl | assumption) (nI_toInt (by omega)) (nI_toInt (by omega)) (nI_toInt (by omega)) (by simp only [List.length_map]; omega) (by simp only [List.length_map]; omega) ?_
  rw [am_cp_all 0 _ _ ((List.length_map _).trans m3) ((List.length_map _).trans l3)]
  refine ev_aload_n (pc := 61) dX0_copyFrom_61 rfl ?_
  refine ev_aload_n (pc := 62) dX0_copyFrom_62 rfl ?_
  refine gf_X0_34 (pc := 63) rfl dX0_copyFrom_63 (by (try dsimp only); (repeat (first | rw [up_s] | rw [up_n (by omega)])) <;> first | rfl | assumption) ?_
  refine pf_X0_34 (pc := 66) rfl dX0_copyFrom_66 (by (try dsimp only); (repeat (first | rw [up_s] | rw [up_n (by omega)])) <;> first | rfl | assumption) ?_
  refine ev_aload_n (pc := 69) dX0_copyFrom_69 rfl ?_
  refine ev_aload_n (pc := 70) dX0_copyFrom_70 rfl ?_
  refine gf_X0_37 (pc := 71) rfl dX0_copyFrom_71 (by (try dsimp only); (repeat (first | rw [up_s] | rw [up_n (by omega)])) <;> first | rfl | assumption) ?_
  refine pf_X0_37 (pc := 74) rfl dX0_copyFrom_74 (by (try dsimp only); (repeat (first | rw [up_s] | rw [up_n (by omega)])) <;> first | rfl | assumption) ?_
  refine ev_ret (pc := 77) dX0_copyFrom_77 rfl (Nat.le_of_ble_eq_true rfl) (Nat.le_of_ble_eq_true rfl) ?_
  exact ⟨rfl, rfl, (by intro q hq; first | rfl | ((try dsimp only); (repeat (first | rw [up_n (by omega)])))), (by (try dsimp only); (repeat (first | rw [up_s] | rw [up_n (by omega)])) <;> first | rfl | assumption), (by (try dsimp only); (repeat (first | rw [up_s] | rw [up_n (by omega)])) <;> first | rfl | assumption), (by (try dsimp only); (repeat (first | rw [up_s] | rw [up_n (by omega)])) <;> first | rfl | assumption), (by (try dsimp only); (repeat (first | rw [up_s] | rw [up_n (by omega)])) <;> first | rfl | assumption), m1, m2, m3⟩
def bLong (B : Bk) (n : Nat) : Bk := (bT B, bP B, bW B, bK B, (bH B).mapIdx (fun i x => if i < n then x + 1 else x), bM B, bD B)
theorem bLong_0 (B : Bk) : bLong B 0 = B := by
  have : (bH B).mapIdx (fun i x => if i < 0 then x + 1 else x) = bH B := by
    apply List.ext_getElem?
    intro i
    simp [List.getElem?_mapIdx]
  unfold bLong
  rw [this]
theorem bLong_s (l : List Nat) (n : Nat) (hn : n < l.length) : (l.mapIdx (fun i x => if i < n then x + 1 else x)).set n (gN (l.mapIdx (fun i x => if i < n then x + 1 else x)) n + 1) = l.mapIdx (fun i x => if i < n + 1 then x + 1 else x) := by
  apply List.ext_getElem?
  intro i
  rw [List.getElem?_set]
  by_cases hi : n = i
  · subst hi
    simp [hn, gN, List.getD_eq_getElem?_getD]
  · rw [if_neg hi, List.getElem?_mapIdx, List.getElem?_mapIdx]
    congr 1
    funext x
    by_cases h2 : i < n
    · rw [if_pos h2, if_pos (by omega)]
    · rw [if_neg h2, if_neg (by omega)]
theorem c_lengthen (p : pBook h b B) : Ct X 0 mt_X0_lengthenNights [.ref b] (h, z) 0 0 (Qv (fun S' => S'.2 = z ∧ hfr h S'.1 b 4 ∧ pBook S'.1 b (bLong B 8))) := by
  refine mk_X0_lengthenNights (Nat.le_of_ble_eq_true rfl) (L := [.ref b, .retAddr 0]) rfl ?_
  have loop : ∀ (n i : Nat), 8 - i = n → i ≤ 8 → ∀ h1 : Hp, hfr h h1 b 4 → pBook h1 b (bLong B i) → Ev X (mi_X0_lengthenNights 0 0 0) (Qv (fun S' => S'.2 = z ∧ hfr h S'.1 b 4 ∧ pBook S'.1 b (bLong B 8))) 0 0 (h1, z) 2 [.ref b, .int (nI i)] [] := by
    intro n
    induction n with
    | zero =>
      intro i hn hi h1 f1 p1
      have hi2 : i = 8 := by omega
      subst hi2
      refine ev_iload_n (pc := 2) dX0_lengthenNights_2 rfl ?_
      refine ev_bipush (pc := 3) (v := nI 8) dX0_lengthenNights_3 kb_8 ?_
      refine ev_icmp_ge (pc := 5) 24 dX0_lengthenNights_5 (by decide) (fun c_5 => ?_) (fun c_5 => ?_)
      · (try simp (disch := omega) only [i32_lti, i32_lei, i32_eqi, nI_toInt, i32z] at c_5)
        refine ev_ret (pc := 24) dX0_lengthenNights_24 rfl (Nat.le_of_ble_eq_true rfl) (Nat.le_of_ble_eq_true rfl) ?_
        exact ⟨rfl, rfl, f1, p1⟩
      · exfalso; (try simp (disch := omega) only [i32_lti, i32_lei, i32_eqi, nI_toInt, i32z] at c_5); omega
    | succ n ih =>
      intro i hn hi h1 f1 p1
      obtain ⟨hb, hp, hw, hh, l1, l2, l3⟩ := id p1
      have l3' : (bH B).length = 8 := List.length_mapIdx.symm.trans l3
      refine ev_iload_n (pc := 2) dX0_lengthenNights_2 rfl ?_
      refine ev_bipush (pc := 3) (v := nI 8) dX0_lengthenNights_3 kb_8 ?_
      refine ev_icmp_ge (pc := 5) 24 dX0_lengthenNights_5 (by decide) (fun c_5 => ?_) (fun c_5 => ?_)
      · exfalso; (try simp (disch := omega) only [i32_lti, i32_lei, i32_eqi, nI_toInt, i32z] at c_5); omega
      · (try simp (disch := omega) only [i32_lti, i32_lei, i32_eqi, nI_toInt, i32z] at c_5)
        refine ev_aload_n (pc := 8) dX0_lengthenNights_8 rfl ?_
        refine gf_X0_18 (pc := 9) rfl dX0_lengthenNights_9 (by (try dsimp only); (repeat (first | rw [up_s] | rw [up_n (by omega)])) <;> first | rfl | assumption) ?_
        refine ev_iload_n (pc := 12) dX0_lengthenNights_12 rfl ?_
        refine ev_dup2 (pc := 13) dX0_lengthenNights_13 rfl rfl ?_
        refine ev_iald (pc := 14) dX0_lengthenNights_14 (by (try dsimp only); (repeat (first | rw [up_s] | rw [up_n (by omega)])) <;> first | rfl | assumption) (nI_toInt (by omega)) (gm (by omega)) ?_
        refine ev_iconst (pc := 15) (v := nI 1) dX0_lengthenNights_15 kc_1 ?_
        refine ev_iadd (pc := 16) dX0_lengthenNights_16 ?_
        rw [nI_add]
        refine ev_iast (pc := 17) dX0_lengthenNights_17 (by (try dsimp only); (repeat (first | rw [up_s] | rw [up_n (by omega)])) <;> first | rfl | assumption) (nI_toInt (by omega)) (by simp only [List.length_map, List.length_set, List.length_replicate, List.length_cons, List.length_nil]; omega) ?_
        (try rw [gs])
        refine ev_iinc (pc := 18) (L' := [_, _]) dX0_lengthenNights_18 rfl (nI_1 _) rfl ?_
        refine ev_goto (pc := 21) 2 dX0_lengthenNights_21 (by decide) ?_
        refine ih (i + 1) (by omega) (by omega) _ (by intro q hq; (try dsimp only); (repeat (first | rw [up_n (by omega)])) <;> first | rfl | exact f1 q hq) ⟨(by (try dsimp only); (repeat (first | rw [up_s] | rw [up_n (by omega)])) <;> first | rfl | assumption), (by (try dsimp only); (repeat (first | rw [up_s] | rw [up_n (by omega)])) <;> first | rfl | assumption), (by (try dsimp only); (repeat (first | rw [up_s] | rw [up_n (by omega)])) <;> first | rfl | assumption), ?_, l1, l2, ?_⟩
        · rw [show (bH (bLong B i)).set i (gN (bH (bLong B i)) i + 1) = bH (bLong B (i + 1)) from bLong_s (bH B) i (by omega)]
          exact up_s _ _ _
        · exact List.length_mapIdx.trans l3'
  refine ev_iconst (pc := 0) (v := nI 0) dX0_lengthenNights_0 kc_0 ?_
  refine ev_istore_n (pc := 1) (L' := [_, _]) dX0_lengthenNights_1 (Nat.le_of_ble_eq_true rfl) rfl ?_
  exact loop _ 0 rfl (Nat.zero_le _) h (hfr.rf _ _ _) (by rw [bLong_0]; exact p)
def bNew : Bk := (0, List.replicate 6 0, List.replicate 6 0, 1, (List.replicate 8 0).set 0 5, 3, 6)
theorem c_Book_init (hb : h b = some (.inl (0, [.int 0, .null, .null, .int 0, .null, .int 0, .int 0]))) (hz : z = b + 1) : Ct X 2 mt_X0_init [.ref b] (h, z) 3 20 (Qv (fun S' => S'.2 = z + 3 ∧ hfr h S'.1 b 4 ∧ pBook S'.1 b bNew)) := by
  subst hz
  refine mk_X0_init (Nat.le_of_ble_eq_true rfl) (L := [.ref b]) rfl ?_
  refine ev_aload_n (pc := 0) dX0_init_0 rfl ?_
  refine ev_objInit (pc := 1) dX0_init_1 tw_59 tw_24 tw_25 (Nat.le_of_ble_eq_true rfl) (Nat.le_of_ble_eq_true rfl) ?_
  refine ev_aload_n (pc := 4) dX0_init_4 rfl ?_
  refine ev_bipush (pc := 5) (v := nI 6) dX0_init_5 kb_6 ?_
  refine ev_newi (pc := 7) (t := 0) (N := 6) dX0_init_7 (Nat.le_of_ble_eq_true rfl) rfl tw_53 rfl (Nat.le_of_ble_eq_true rfl) (Nat.le_of_ble_eq_true rfl) (Nat.le_of_ble_eq_true rfl) ?_
  refine pf_X0_9 (pc := 9) rfl rfl dX0_init_9 (by (try dsimp only); (repeat (first | rw [up_s] | rw [up_n (by omega)])) <;> first | rfl | assumption) ?_
  refine ev_aload_n (pc := 12) dX0_init_12 rfl ?_
  refine ev_bipush (pc := 13) (v := nI 6) dX0_init_13 kb_6 ?_
  refine ev_newi (pc := 15) (t := 0) (N := 6) dX0_init_15 (Nat.le_of_ble_eq_true rfl) rfl tw_53 rfl (Nat.le_of_ble_eq_true rfl) (Nat.le_of_ble_eq_true rfl) (Nat.le_of_ble_eq_true rfl) ?_
  refine pf_X0_15 (pc := 17) rfl rfl dX0_init_17 (by (try dsimp only); (repeat (first | rw [up_s] | rw [up_n (by omega)])) <;> first | rfl | assumption) ?_
  refine ev_aload_n (pc := 20) dX0_init_20 rfl ?_
  refine ev_bipush (pc := 21) (v := nI 8) dX0_init_21 kb_8 ?_
  refine ev_newi (pc := 23) (t := 0) (N := 8) dX0_init_23 (Nat.le_of_ble_eq_true rfl) rfl tw_53 rfl (Nat.le_of_ble_eq_true rfl) (Nat.le_of_ble_eq_true rfl) (Nat.le_of_ble_eq_true rfl) ?_
  refine pf_X0_18 (pc := 25) rfl rfl dX0_init_25 (by (try dsimp only); (repeat (first | rw [up_s] | rw [up_n (by omega)])) <;> first | rfl | assumption) ?_
  refine ev_aload_n (pc := 28) dX0_init_28 rfl ?_
  refine iv_X0_21 (pc := 29) rfl dX0_init_29 (by (try dsimp only); (repeat (first | rw [up_s] | rw [up_n (by omega)])) <;> first | rfl | assumption) (Nat.le_of_ble_eq_true rfl) (Nat.le_of_ble_eq_true rfl) (Nat.le_of_ble_eq_true rfl) (Nat.le_of_ble_eq_true rfl) (c_wipe (B := ((0, List.replicate 6 0, List.replicate 6 0, 0, List.replicate 8 0, 0, 0) : Bk)) ⟨(by (try dsimp only); (repeat (first | rw [up_s] | rw [up_n (by omega)])) <;> first | rfl | assumption), (by (try dsimp only); (repeat (first | rw [up_s] | rw [up_n (by omega)])) <;> first | rfl | assumption), (by (try dsimp only); (repeat (first | rw [up_s] | rw [up_n (by omega)])) <;> first | rfl | assumption), (by (try dsimp only); (repeat (first | rw [up_s] | rw [up_n (by omega)])) <;> first | rfl | assumption), rfl, rfl, rfl⟩) (kv (fun S' hS => ?_))
  obtain ⟨h2, z2⟩ := S'
  obtain ⟨rfl, f2, p2⟩ := hS
  refine ev_aload_n (pc := 32) dX0_init_32 rfl ?_
  refine iv_X0_24 (pc := 33) rfl dX0_init_33 p2.1 (Nat.le_of_ble_eq_true rfl) (Nat.le_of_ble_eq_true rfl) (Nat.le_of_ble_eq_true rfl) (Nat.le_of_ble_eq_true rfl) (c_settle p2 (by decide) (by decide) (by decide)) (kv (fun S' hS => ?_))
  obtain ⟨h3, z3⟩ := S'
  obtain ⟨rfl, f3, p3⟩ := hS
  refine ev_ret (pc := 36) dX0_init_36 rfl (Nat.le_of_ble_eq_true rfl) (Nat.le_of_ble_eq_true rfl) ?_
  refine ⟨rfl, rfl, (fun q hq => ?_), p3⟩
  refine (f3 q hq).trans ((f2 q hq).trans ?_)
  (try dsimp only); (repeat (first | rw [up_n (by omega)]))
end BOOK
