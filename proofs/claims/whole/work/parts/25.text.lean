/-! ===== Text: the tokens ===== -/
def rend (p : Nat → Bool) (cs : List Nat) (b : Nat) : Nat := b + ((cs.drop b).takeWhile p).length
theorem tw_get (p : Nat → Bool) : ∀ (l : List Nat) (j : Nat), j < (l.takeWhile p).length → j < l.length ∧ p (gN l j) = true
  | [], j, h => by simp at h
  | a :: l, j, h => by
    rw [List.takeWhile_cons] at h
    by_cases ha : p a = true
    · rw [if_pos ha] at h
      cases j with
      | zero => exact ⟨by simp, ha⟩
      | succ j =>
        have := tw_get p l j (by simpa using h)
        exact ⟨by simp; exact this.1, this.2⟩
    · rw [if_neg ha] at h; simp at h
theorem tw_end (p : Nat → Bool) : ∀ (l : List Nat), (l.takeWhile p).length < l.length → p (gN l (l.takeWhile p).length) = false
  | [], h => by simp at h
  | a :: l, h => by
    rw [List.takeWhile_cons] at h ⊢
    by_cases ha : p a = true
    · rw [if_pos ha] at h ⊢
      exact tw_end p l (by simpa using h)
    · rw [if_neg ha]; simpa using ha
theorem gN_drop (l : List Nat) (b j : Nat) : gN (l.drop b) j = gN l (b + j) := by
  simp [gN, List.getD_eq_getElem?_getD, List.getElem?_drop]
theorem rend_ge (p : Nat → Bool) (cs : List Nat) (b : Nat) : b ≤ rend p cs b := Nat.le_add_right _ _
theorem rend_in {p : Nat → Bool} {cs : List Nat} {b j : Nat} (h1 : b ≤ j) (h2 : j < rend p cs b) : j < cs.length ∧ p (gN cs j) = true := by
  unfold rend at h2
  have := tw_get p (cs.drop b) (j - b) (by omega)
  rw [gN_drop, List.length_drop, show b + (j - b) = j by omega] at this
  exact ⟨by omega, this.2⟩
theorem rend_out {p : Nat → Bool} {cs : List Nat} {b : Nat} (h : rend p cs b < cs.length) : p (gN cs (rend p cs b)) = false := by
  unfold rend at h ⊢
  have := tw_end p (cs.drop b) (by rw [List.length_drop]; omega)
  rwa [gN_drop] at this
theorem rend_le {p : Nat → Bool} {cs : List Nat} {b : Nat} (h : b ≤ cs.length) : rend p cs b ≤ cs.length := by
  rcases Nat.lt_or_ge b (rend p cs b) with h1 | h1
  · have := (rend_in (p := p) (cs := cs) (b := b) (j := rend p cs b - 1) (by omega) (by omega)).1
    omega
  · omega
def isL (x : Nat) : Bool := decide (97 ≤ x ∧ x ≤ 122)
def isD (x : Nat) : Bool := decide (48 ≤ x ∧ x ≤ 57)
def isB (x : Nat) : Bool := decide (x = 32)
/-- the byte at a place, as the text gives it -/
def bA (cs : List Nat) (k : Nat) : Int32 := if k < cs.length then nI (gN cs k) else -1
def numV (ds : List Nat) : Nat := ds.foldl (fun n d => min (n * 10 + d - 48) 100) 0
/-- a token: 0 end, 1 letters, 2 number, 3 semicolon, 4 none; its value; its first byte; the place behind it -/
abbrev Tk : Type := Nat × Nat × Nat × Nat
def sub (cs : List Nat) (b e : Nat) : List Nat := (cs.drop b).take (e - b)
def nxt (cs : List Nat) (i : Nat) : Tk :=
  let b := rend isB cs i
  if cs.length ≤ b then (0, 0, b, b)
  else if isL (gN cs b) then (1, (if rend isL cs b = b + 1 then gN cs b else 0), b, rend isL cs b)
  else if isD (gN cs b) then ((if 99 < numV (sub cs b (rend isD cs b)) ∨ (gN cs b = 48 ∧ b + 1 < rend isD cs b) then 4 else 2), numV (sub cs b (rend isD cs b)), b, rend isD cs b)
  else if gN cs b = 59 then (3, 0, b, b + 1) else (4, 0, b, b + 1)
theorem numV_le (ds : List Nat) : numV ds ≤ 100 := by
  unfold numV
  rcases List.eq_nil_or_concat ds with h | ⟨l, d, h⟩
  · subst h; simp
  · subst h
    simp only [List.concat_eq_append, List.foldl_append, List.foldl_cons, List.foldl_nil]
    omega
theorem sub_s {cs : List Nat} {b e : Nat} (h1 : b ≤ e) (h2 : e < cs.length) : sub cs b (e + 1) = sub cs b e ++ [gN cs e] := by
  unfold sub
  rw [show e + 1 - b = (e - b) + 1 by omega, List.take_add_one, List.getElem?_drop, show b + (e - b) = e by omega, List.getElem?_eq_getElem h2, gN_eq h2]
  rfl
theorem numV_s (l : List Nat) (d : Nat) : numV (l ++ [d]) = min (numV l * 10 + d - 48) 100 := by simp [numV]
/-- the object at x (cells x, x+1) holds the text cs, and where it is read -/
def pText (h : Hp) (x : Nat) (cs : List Nat) (at_ af tk va : Nat) : Prop := h x = some (.inl (9, [.ref (x + 1), .int (nI cs.length), .int (nI at_), .int (nI af), .int (nI tk), .int (nI va)])) ∧ (∃ bs : List Nat, h (x + 1) = some (.inr (0, .inl (bs.map nI))) ∧ bs.length = 150 ∧ bs.take cs.length = cs) ∧ cs.length ≤ 150 ∧ ∀ j : Nat, j < cs.length → gN cs j < 256
theorem pText.fr {h h' : Hp} {x : Nat} {cs : List Nat} {i j k l : Nat} (p : pText h x cs i j k l) (e : ∀ q : Nat, x ≤ q → q < x + 2 → h' q = h q) : pText h' x cs i j k l := by
  obtain ⟨p1, ⟨bs, p2, q2⟩, p3⟩ := p
  exact ⟨by rw [e x (by omega) (by omega)]; exact p1, ⟨bs, by rw [e (x + 1) (by omega) (by omega)]; exact p2, q2⟩, p3⟩
theorem pText.put {h : Hp} {x : Nat} {cs : List Nat} {i j k l : Nat} (p : pText h x cs i j k l) (i' j' k' l' : Nat) : pText (hup h x (.inl (9, [.ref (x + 1), .int (nI cs.length), .int (nI i'), .int (nI j'), .int (nI k'), .int (nI l')]))) x cs i' j' k' l' := by
  obtain ⟨p1, ⟨bs, p2, q2⟩, p3⟩ := p
  exact ⟨up_s _ _ _, ⟨bs, (up_n (by omega)).trans p2, q2⟩, p3⟩
theorem bA_lt {cs : List Nat} {k : Nat} (h : k < cs.length) : bA cs k = nI (gN cs k) := if_pos h
theorem bA_ge {cs : List Nat} {k : Nat} (h : ¬ k < cs.length) : bA cs k = -1 := if_neg h
def inI (lo hi : Nat) (c : Int32) : Bool := decide ((lo : Int) ≤ c.toInt ∧ c.toInt ≤ hi)
theorem inI_bA {cs : List Nat} {lo hi k : Nat} (hb : ∀ j : Nat, j < cs.length → gN cs j < 256) (p : Nat → Bool) (hp : ∀ x, p x = decide (lo ≤ x ∧ x ≤ hi)) : inI lo hi (bA cs k) = (decide (k < cs.length) && p (gN cs k)) := by
  by_cases h : k < cs.length
  · have := hb k h
    rw [bA_lt h, decide_eq_true h, Bool.true_and, hp]
    unfold inI
    rw [nI_toInt (by omega)]
    apply decide_eq_decide.mpr
    omega
  · rw [bA_ge h, decide_eq_false h, Bool.false_and]
    unfold inI
    rw [i32m1]
    apply decide_eq_false
    omega
section TEXT
variable {X : Cx} {h : Hp} {z x : Nat} {cs : List Nat} {i0 af tk va : Nat}
theorem c_byteAt (p : pText h x cs i0 af tk va) {k : Nat} (hk : k < 2 ^ 31) : Ct X 0 mt_X9_byteAt [.ref x, .int (nI k)] (h, z) 0 0 (QP (.int (bA cs k)) (h, z)) := by
  obtain ⟨hx, ⟨bs, hb, l1, l2⟩, l3, l4⟩ := id p
  refine mk_X9_byteAt (Nat.le_of_ble_eq_true rfl) (L := [.ref x, .int (nI k)]) rfl ?_
  refine ev_iload_n (pc := 0) dX9_byteAt_0 rfl ?_
  refine ev_if_lt (pc := 1) 28 dX9_byteAt_1 (by decide) (fun c_1 => ?_) (fun c_1 => ?_)
  · exfalso; (try simp (disch := omega) only [i32_lti, i32_lei, i32_eqi, nI_toInt, i32z] at c_1); omega
  · (try simp (disch := omega) only [i32_lti, i32_lei, i32_eqi, nI_toInt, i32z] at c_1)
    refine ev_iload_n (pc := 4) dX9_byteAt_4 rfl ?_
    refine ev_aload_n (pc := 5) dX9_byteAt_5 rfl ?_
    refine gf_X9_15 (pc := 6) rfl dX9_byteAt_6 (by (try dsimp only); (repeat (first | rw [up_s] | rw [up_n (by omega)])) <;> first | rfl | assumption) ?_
    refine ev_icmp_ge (pc := 9) 28 dX9_byteAt_9 (by decide) (fun c_9 => ?_) (fun c_9 => ?_)
    · (try simp (disch := omega) only [i32_lti, i32_lei, i32_eqi, nI_toInt, i32z] at c_9)
      refine ev_iconst (pc := 28) (v := (-1)) dX9_byteAt_28 kc_m1 ?_
      refine ev_iret (pc := 29) dX9_byteAt_29 rfl rfl (Nat.le_of_ble_eq_true rfl) (Nat.le_of_ble_eq_true rfl) ?_
      first
      | exact ⟨by rw [bA_ge (by omega)], rfl⟩
      | exact ⟨by rw [bA_lt (by omega), ← take_get l2 (by omega)], rfl⟩
    · (try simp (disch := omega) only [i32_lti, i32_lei, i32_eqi, nI_toInt, i32z] at c_9)
      refine ev_iload_n (pc := 12) dX9_byteAt_12 rfl ?_
      refine ev_sipush (pc := 13) (v := nI 150) dX9_byteAt_13 ks_150 ?_
      refine ev_icmp_ge (pc := 16) 28 dX9_byteAt_16 (by decide) (fun c_16 => ?_) (fun c_16 => ?_)
      · (try simp (disch := omega) only [i32_lti, i32_lei, i32_eqi, nI_toInt, i32z] at c_16)
        refine ev_iconst (pc := 28) (v := (-1)) dX9_byteAt_28 kc_m1 ?_
        refine ev_iret (pc := 29) dX9_byteAt_29 rfl rfl (Nat.le_of_ble_eq_true rfl) (Nat.le_of_ble_eq_true rfl) ?_
        first
        | exact ⟨by rw [bA_ge (by omega)], rfl⟩
        | exact ⟨by rw [bA_lt (by omega), ← take_get l2 (by omega)], rfl⟩
      · (try simp (disch := omega) only [i32_lti, i32_lei, i32_eqi, nI_toInt, i32z] at c_16)
        refine ev_aload_n (pc := 19) dX9_byteAt_19 rfl ?_
        refine gf_X9_9 (pc := 20) rfl dX9_byteAt_20 (by (try dsimp only); (repeat (first | rw [up_s] | rw [up_n (by omega)])) <;> first | rfl | assumption) ?_
        refine ev_iload_n (pc := 23) dX9_byteAt_23 rfl ?_
        refine ev_iald (pc := 24) dX9_byteAt_24 (by (try dsimp only); (repeat (first | rw [up_s] | rw [up_n (by omega)])) <;> first | rfl | assumption) (nI_toInt (by omega)) (gm (by omega)) ?_
        refine ev_goto (pc := 25) 29 dX9_byteAt_25 (by decide) ?_
        refine ev_iret (pc := 29) dX9_byteAt_29 rfl rfl (Nat.le_of_ble_eq_true rfl) (Nat.le_of_ble_eq_true rfl) ?_
        first
        | exact ⟨by rw [bA_ge (by omega)], rfl⟩
        | exact ⟨by rw [bA_lt (by omega), ← take_get l2 (by omega)], rfl⟩
theorem c_isLetter (c : Int32) : Ct X 0 mt_X9_isLetter [.int c] (h, z) 0 0 (QP (.int (b2i (inI 97 122 c))) (h, z)) := by
  refine mk_X9_isLetter (Nat.le_of_ble_eq_true rfl) (L := [.int c]) rfl ?_
  refine ev_iload_n (pc := 0) dX9_isLetter_0 rfl ?_
  refine ev_bipush (pc := 1) (v := nI 97) dX9_isLetter_1 kb_97 ?_
  refine ev_icmp_lt (pc := 3) 16 dX9_isLetter_3 (by decide) (fun c_3 => ?_) (fun c_3 => ?_)
  · (try simp (disch := omega) only [i32_lti, i32_lei, i32_eqi, nI_toInt, i32z] at c_3)
    refine ev_iconst (pc := 16) (v := nI 0) dX9_isLetter_16 kc_0 ?_
    refine ev_iret (pc := 17) dX9_isLetter_17 rfl rfl (Nat.le_of_ble_eq_true rfl) (Nat.le_of_ble_eq_true rfl) ?_
    first | exact qb1 (by simp only [inI, decide_eq_true_eq]; omega) | exact qb0 (by simp only [inI, decide_eq_false_iff_not]; omega)
  · (try simp (disch := omega) only [i32_lti, i32_lei, i32_eqi, nI_toInt, i32z] at c_3)
    refine ev_iload_n (pc := 6) dX9_isLetter_6 rfl ?_
    refine ev_bipush (pc := 7) (v := nI 122) dX9_isLetter_7 kb_122 ?_
    refine ev_icmp_gt (pc := 9) 16 dX9_isLetter_9 (by decide) (fun c_9 => ?_) (fun c_9 => ?_)
    · (try simp (disch := omega) only [i32_lti, i32_lei, i32_eqi, nI_toInt, i32z] at c_9)
      refine ev_iconst (pc := 16) (v := nI 0) dX9_isLetter_16 kc_0 ?_
      refine ev_iret (pc := 17) dX9_isLetter_17 rfl rfl (Nat.le_of_ble_eq_true rfl) (Nat.le_of_ble_eq_true rfl) ?_
      first | exact qb1 (by simp only [inI, decide_eq_true_eq]; omega) | exact qb0 (by simp only [inI, decide_eq_false_iff_not]; omega)
    · (try simp (disch := omega) only [i32_lti, i32_lei, i32_eqi, nI_toInt, i32z] at c_9)
      refine ev_iconst (pc := 12) (v := nI 1) dX9_isLetter_12 kc_1 ?_
      refine ev_goto (pc := 13) 17 dX9_isLetter_13 (by decide) ?_
      refine ev_iret (pc := 17) dX9_isLetter_17 rfl rfl (Nat.le_of_ble_eq_true rfl) (Nat.le_of_ble_eq_true rfl) ?_
      first | exact qb1 (by simp only [inI, decide_eq_true_eq]; omega) | exact qb0 (by simp only [inI, decide_eq_false_iff_not]; omega)
theorem c_isDigit (c : Int32) : Ct X 0 mt_X9_isDigit [.int c] (h, z) 0 0 (QP (.int (b2i (inI 48 57 c))) (h, z)) := by
  refine mk_X9_isDigit (Nat.le_of_ble_eq_true rfl) (L := [.int c]) rfl ?_
  refine ev_iload_n (pc := 0) dX9_isDigit_0 rfl ?_
  refine ev_bipush (pc := 1) (v := nI 48) dX9_isDigit_1 kb_48 ?_
  refine ev_icmp_lt (pc := 3) 16 dX9_isDigit_3 (by decide) (fun c_3 => ?_) (fun c_3 => ?_)
  · (try simp (disch := omega) only [i32_lti, i32_lei, i32_eqi, nI_toInt, i32z] at c_3)
    refine ev_iconst (pc := 16) (v := nI 0) dX9_isDigit_16 kc_0 ?_
    refine ev_iret (pc := 17) dX9_isDigit_17 rfl rfl (Nat.le_of_ble_eq_true rfl) (Nat.le_of_ble_eq_true rfl) ?_
    first | exact qb1 (by simp only [inI, decide_eq_true_eq]; omega) | exact qb0 (by simp only [inI, decide_eq_false_iff_not]; omega)
  · (try simp (disch := omega) only [i32_lti, i32_lei, i32_eqi, nI_toInt, i32z] at c_3)
    refine ev_iload_n (pc := 6) dX9_isDigit_6 rfl ?_
    refine ev_bipush (pc := 7) (v := nI 57) dX9_isDigit_7 kb_57 ?_
    refine ev_icmp_gt (pc := 9) 16 dX9_isDigit_9 (by decide) (fun c_9 => ?_) (fun c_9 => ?_)
    · (try simp (disch := omega) only [i32_lti, i32_lei, i32_eqi, nI_toInt, i32z] at c_9)
      refine ev_iconst (pc := 16) (v := nI 0) dX9_isDigit_16 kc_0 ?_
      refine ev_iret (pc := 17) dX9_isDigit_17 rfl rfl (Nat.le_of_ble_eq_true rfl) (Nat.le_of_ble_eq_true rfl) ?_
      first | exact qb1 (by simp only [inI, decide_eq_true_eq]; omega) | exact qb0 (by simp only [inI, decide_eq_false_iff_not]; omega)
    · (try simp (disch := omega) only [i32_lti, i32_lei, i32_eqi, nI_toInt, i32z] at c_9)
      refine ev_iconst (pc := 12) (v := nI 1) dX9_isDigit_12 kc_1 ?_
      refine ev_goto (pc := 13) 17 dX9_isDigit_13 (by decide) ?_
      refine ev_iret (pc := 17) dX9_isDigit_17 rfl rfl (Nat.le_of_ble_eq_true rfl) (Nat.le_of_ble_eq_true rfl) ?_
      first | exact qb1 (by simp only [inI, decide_eq_true_eq]; omega) | exact qb0 (by simp only [inI, decide_eq_false_iff_not]; omega)
theorem c_isNumber (p : pText h x cs i0 af tk va) (h1 : tk < 100) (h2 : va < 1000) (lo hi : Int32) : Ct X 0 mt_X9_isNumber [.ref x, .int lo, .int hi] (h, z) 0 0 (QP (.int (b2i (decide (tk = 2 ∧ lo.toInt ≤ va ∧ (va : Int) ≤ hi.toInt)))) (h, z)) := by
  obtain ⟨hx, -⟩ := id p
  refine mk_X9_isNumber (Nat.le_of_ble_eq_true rfl) (L := [.ref x, .int lo, .int hi]) rfl ?_
  refine ev_aload_n (pc := 0) dX9_isNumber_0 rfl ?_
  refine gf_X9_30 (pc := 1) rfl dX9_isNumber_1 (by (try dsimp only); (repeat (first | rw [up_s] | rw [up_n (by omega)])) <;> first | rfl | assumption) ?_
  refine ev_iconst (pc := 4) (v := nI 2) dX9_isNumber_4 kc_2 ?_
  refine ev_icmp_ne (pc := 5) 28 dX9_isNumber_5 (by decide) (fun c_5 => ?_) (fun c_5 => ?_)
  · (try simp (disch := omega) only [i32_lti, i32_lei, i32_eqi, nI_toInt, i32z] at c_5)
    refine ev_iconst (pc := 28) (v := nI 0) dX9_isNumber_28 kc_0 ?_
    refine ev_iret (pc := 29) dX9_isNumber_29 rfl rfl (Nat.le_of_ble_eq_true rfl) (Nat.le_of_ble_eq_true rfl) ?_
    first | exact qb1 (decide_eq_true (by omega)) | exact qb0 (decide_eq_false (by omega))
  · (try simp (disch := omega) only [i32_lti, i32_lei, i32_eqi, nI_toInt, i32z] at c_5)
    refine ev_aload_n (pc := 8) dX9_isNumber_8 rfl ?_
    refine gf_X9_40 (pc := 9) rfl dX9_isNumber_9 (by (try dsimp only); (repeat (first | rw [up_s] | rw [up_n (by omega)])) <;> first | rfl | assumption) ?_
    refine ev_iload_n (pc := 12) dX9_isNumber_12 rfl ?_
    refine ev_icmp_lt (pc := 13) 28 dX9_isNumber_13 (by decide) (fun c_13 => ?_) (fun c_13 => ?_)
    · (try simp (disch := omega) only [i32_lti, i32_lei, i32_eqi, nI_toInt, i32z] at c_13)
      refine ev_iconst (pc := 28) (v := nI 0) dX9_isNumber_28 kc_0 ?_
      refine ev_iret (pc := 29) dX9_isNumber_29 rfl rfl (Nat.le_of_ble_eq_true rfl) (Nat.le_of_ble_eq_true rfl) ?_
      first | exact qb1 (decide_eq_true (by omega)) | exact qb0 (decide_eq_false (by omega))
    · (try simp (disch := omega) only [i32_lti, i32_lei, i32_eqi, nI_toInt, i32z] at c_13)
      refine ev_aload_n (pc := 16) dX9_isNumber_16 rfl ?_
      refine gf_X9_40 (pc := 17) rfl dX9_isNumber_17 (by (try dsimp only); (repeat (first | rw [up_s] | rw [up_n (by omega)])) <;> first | rfl | assumption) ?_
      refine ev_iload_n (pc := 20) dX9_isNumber_20 rfl ?_
      refine ev_icmp_gt (pc := 21) 28 dX9_isNumber_21 (by decide) (fun c_21 => ?_) (fun c_21 => ?_)
      · (try simp (disch := omega) only [i32_lti, i32_lei, i32_eqi, nI_toInt, i32z] at c_21)
        refine ev_iconst (pc := 28) (v := nI 0) dX9_isNumber_28 kc_0 ?_
        refine ev_iret (pc := 29) dX9_isNumber_29 rfl rfl (Nat.le_of_ble_eq_true rfl) (Nat.le_of_ble_eq_true rfl) ?_
        first | exact qb1 (decide_eq_true (by omega)) | exact qb0 (decide_eq_false (by omega))
      · (try simp (disch := omega) only [i32_lti, i32_lei, i32_eqi, nI_toInt, i32z] at c_21)
        refine ev_iconst (pc := 24) (v := nI 1) dX9_isNumber_24 kc_1 ?_
        refine ev_goto (pc := 25) 29 dX9_isNumber_25 (by decide) ?_
        refine ev_iret (pc := 29) dX9_isNumber_29 rfl rfl (Nat.le_of_ble_eq_true rfl) (Nat.le_of_ble_eq_true rfl) ?_
        first | exact qb1 (decide_eq_true (by omega)) | exact qb0 (decide_eq_false (by omega))
theorem c_add (p : pText h x cs i0 af tk va) {c : Nat} (hc : c < 256) : Ct X 0 mt_X9_add [.ref x, .int (nI c)] (h, z) 0 0 (Qi (fun r S' => r = b2i (decide (cs.length < 150)) ∧ S'.2 = z ∧ hfr h S'.1 x 2 ∧ pText S'.1 x (if cs.length < 150 then cs ++ [c] else cs) i0 af tk va)) := by
  obtain ⟨hx, ⟨bs, hb, l1, l2⟩, l3, l4⟩ := id p
  refine mk_X9_add (Nat.le_of_ble_eq_true rfl) (L := [.ref x, .int (nI c)]) rfl ?_
  have el : (cs ++ [c]).length = cs.length + 1 := by simp
  refine ev_aload_n (pc := 0) dX9_add_0 rfl ?_
  refine gf_X9_15 (pc := 1) rfl dX9_add_1 (by (try dsimp only); (repeat (first | rw [up_s] | rw [up_n (by omega)])) <;> first | rfl | assumption) ?_
  refine ev_if_lt (pc := 4) 17 dX9_add_4 (by decide) (fun c_4 => ?_) (fun c_4 => ?_)
  · exfalso; (try simp (disch := omega) only [i32_lti, i32_lei, i32_eqi, nI_toInt, i32z] at c_4); omega
  · (try simp (disch := omega) only [i32_lti, i32_lei, i32_eqi, nI_toInt, i32z] at c_4)
    refine ev_aload_n (pc := 7) dX9_add_7 rfl ?_
    refine gf_X9_15 (pc := 8) rfl dX9_add_8 (by (try dsimp only); (repeat (first | rw [up_s] | rw [up_n (by omega)])) <;> first | rfl | assumption) ?_
    refine ev_sipush (pc := 11) (v := nI 150) dX9_add_11 ks_150 ?_
    refine ev_icmp_lt (pc := 14) 19 dX9_add_14 (by decide) (fun c_14 => ?_) (fun c_14 => ?_)
    · (try simp (disch := omega) only [i32_lti, i32_lei, i32_eqi, nI_toInt, i32z] at c_14)
      refine ev_aload_n (pc := 19) dX9_add_19 rfl ?_
      refine gf_X9_9 (pc := 20) rfl dX9_add_20 (by (try dsimp only); (repeat (first | rw [up_s] | rw [up_n (by omega)])) <;> first | rfl | assumption) ?_
      refine ev_aload_n (pc := 23) dX9_add_23 rfl ?_
      refine gf_X9_15 (pc := 24) rfl dX9_add_24 (by (try dsimp only); (repeat (first | rw [up_s] | rw [up_n (by omega)])) <;> first | rfl | assumption) ?_
      refine ev_iload_n (pc := 27) dX9_add_27 rfl ?_
      refine ev_iast (pc := 28) dX9_add_28 (by (try dsimp only); (repeat (first | rw [up_s] | rw [up_n (by omega)])) <;> first | rfl | assumption) (nI_toInt (by omega)) (by simp only [List.length_map, List.length_set, List.length_replicate, List.length_cons, List.length_nil]; omega) ?_
      (try rw [gs])
      refine ev_aload_n (pc := 29) dX9_add_29 rfl ?_
      refine ev_dup (pc := 30) dX9_add_30 rfl ?_
      refine gf_X9_15 (pc := 31) rfl dX9_add_31 (by (try dsimp only); (repeat (first | rw [up_s] | rw [up_n (by omega)])) <;> first | rfl | assumption) ?_
      refine ev_iconst (pc := 34) (v := nI 1) dX9_add_34 kc_1 ?_
      refine ev_iadd (pc := 35) dX9_add_35 ?_
      rw [nI_add, ← el]
      refine pf_X9_15 (pc := 36) rfl dX9_add_36 (by (try dsimp only); (repeat (first | rw [up_s] | rw [up_n (by omega)])) <;> first | rfl | assumption) ?_
      refine ev_iconst (pc := 39) (v := nI 1) dX9_add_39 kc_1 ?_
      refine ev_iret (pc := 40) dX9_add_40 rfl rfl (Nat.le_of_ble_eq_true rfl) (Nat.le_of_ble_eq_true rfl) ?_
      refine ⟨_, rfl, by rw [decide_eq_true (by omega)]; rfl, rfl, (by intro q hq; first | rfl | ((try dsimp only); (repeat (first | rw [up_n (by omega)])))), ?_⟩
      rw [if_pos (by omega)]
      refine ⟨(by (try dsimp only); (repeat (first | rw [up_s] | rw [up_n (by omega)])) <;> first | rfl | assumption), ⟨_, (by (try dsimp only); (repeat (first | rw [up_s] | rw [up_n (by omega)])) <;> first | rfl | assumption), (List.length_set ..).trans l1, take_push l2 (by omega) c⟩, by omega, fun j hj => ?_⟩
      by_cases hq : j < cs.length
      · have := l4 j hq
        simpa [gN, List.getD_eq_getElem?_getD, List.getElem?_append_left hq] using this
      · have : j = cs.length := by omega
        subst this
        simpa [gN, List.getD_eq_getElem?_getD] using hc
    · (try simp (disch := omega) only [i32_lti, i32_lei, i32_eqi, nI_toInt, i32z] at c_14)
      refine ev_iconst (pc := 17) (v := nI 0) dX9_add_17 kc_0 ?_
      refine ev_iret (pc := 18) dX9_add_18 rfl rfl (Nat.le_of_ble_eq_true rfl) (Nat.le_of_ble_eq_true rfl) ?_
      refine ⟨_, rfl, by rw [decide_eq_false (by omega)]; rfl, rfl, hfr.rf _ _ _, ?_⟩
      rw [if_neg (by omega)]; exact p
theorem c_empty (p : pText h x cs i0 af tk va) : Ct X 0 mt_X9_empty [.ref x] (h, z) 0 0 (Qi (fun r S' => r = nI cs.length ∧ S'.2 = z ∧ hfr h S'.1 x 2 ∧ pText S'.1 x [] i0 af tk va)) := by
  obtain ⟨hx, ⟨bs, hb, l1, l2⟩, l3, l4⟩ := id p
  refine mk_X9_empty (Nat.le_of_ble_eq_true rfl) (L := [.ref x, .retAddr 0]) rfl ?_
  refine ev_aload_n (pc := 0) dX9_empty_0 rfl ?_
  refine gf_X9_15 (pc := 1) rfl dX9_empty_1 (by (try dsimp only); (repeat (first | rw [up_s] | rw [up_n (by omega)])) <;> first | rfl | assumption) ?_
  refine ev_istore_n (pc := 4) (L' := [_, _]) dX9_empty_4 (Nat.le_of_ble_eq_true rfl) rfl ?_
  refine ev_aload_n (pc := 5) dX9_empty_5 rfl ?_
  refine ev_iconst (pc := 6) (v := nI 0) dX9_empty_6 kc_0 ?_
  refine pf_X9_15 (pc := 7) rfl dX9_empty_7 (by (try dsimp only); (repeat (first | rw [up_s] | rw [up_n (by omega)])) <;> first | rfl | assumption) ?_
  refine ev_iload_n (pc := 10) dX9_empty_10 rfl ?_
  refine ev_iret (pc := 11) dX9_empty_11 rfl rfl (Nat.le_of_ble_eq_true rfl) (Nat.le_of_ble_eq_true rfl) ?_
  exact ⟨_, rfl, rfl, rfl, (by intro q hq; first | rfl | ((try dsimp only); (repeat (first | rw [up_n (by omega)])))), (by (try dsimp only); (repeat (first | rw [up_s] | rw [up_n (by omega)])) <;> first | rfl | assumption), ⟨bs, (by (try dsimp only); (repeat (first | rw [up_s] | rw [up_n (by omega)])) <;> first | rfl | assumption), l1, rfl⟩, by simp, fun j hj => by simp at hj⟩
theorem c_takeLetters (p : pText h x cs i0 i0 tk va) (hi : i0 < cs.length) : Ct X 1 mt_X9_takeLetters [.ref x] (h, z) 0 0 (Qv (fun S' => S'.2 = z ∧ hfr h S'.1 x 2 ∧ pText S'.1 x cs i0 (rend isL cs i0) 1 (if rend isL cs i0 = i0 + 1 then gN cs i0 else 0))) := by
  obtain ⟨hx0, ⟨bs, hb0, l1, l2⟩, l3, l4⟩ := id p
  have hr := rend_le (p := isL) (cs := cs) (b := i0) (by omega)
  have hge := rend_ge isL cs i0
  refine mk_X9_takeLetters (Nat.le_of_ble_eq_true rfl) (L := [.ref x, .retAddr 0]) rfl ?_
  have fin : ∀ (u : Value) (h1 : Hp), hfr h h1 x 2 → pText h1 x cs i0 (rend isL cs i0) tk va → Ev X (mi_X9_takeLetters 1 0 0) (Qv (fun S' => S'.2 = z ∧ hfr h S'.1 x 2 ∧ pText S'.1 x cs i0 (rend isL cs i0) 1 (if rend isL cs i0 = i0 + 1 then gN cs i0 else 0))) 0 0 (h1, z) 39 [.ref x, u] [] := by
    intro u h1 f1 p1
    obtain ⟨hx, -⟩ := id p1
    refine ev_aload_n (pc := 39) dX9_takeLetters_39 rfl ?_
    refine ev_iconst (pc := 40) (v := nI 1) dX9_takeLetters_40 kc_1 ?_
    refine pf_X9_30 (pc := 41) rfl dX9_takeLetters_41 (by (try dsimp only); (repeat (first | rw [up_s] | rw [up_n (by omega)])) <;> first | rfl | assumption) ?_
    refine ev_aload_n (pc := 44) dX9_takeLetters_44 rfl ?_
    refine ev_aload_n (pc := 45) dX9_takeLetters_45 rfl ?_
    refine gf_X9_24 (pc := 46) rfl dX9_takeLetters_46 (by (try dsimp only); (repeat (first | rw [up_s] | rw [up_n (by omega)])) <;> first | rfl | assumption) ?_
    refine ev_aload_n (pc := 49) dX9_takeLetters_49 rfl ?_
    refine gf_X9_83 (pc := 50) rfl dX9_takeLetters_50 (by (try dsimp only); (repeat (first | rw [up_s] | rw [up_n (by omega)])) <;> first | rfl | assumption) ?_
    refine ev_isub (pc := 53) dX9_takeLetters_53 ?_
    rw [nI_sub hge]
    refine ev_iconst (pc := 54) (v := nI 1) dX9_takeLetters_54 kc_1 ?_
    refine ev_icmp_ne (pc := 55) 69 dX9_takeLetters_55 (by decide) (fun c_55 => ?_) (fun c_55 => ?_)
    · (try simp (disch := omega) only [i32_lti, i32_lei, i32_eqi, nI_toInt, i32z] at c_55)
      refine ev_iconst (pc := 69) (v := nI 0) dX9_takeLetters_69 kc_0 ?_
      refine pf_X9_40 (pc := 70) rfl dX9_takeLetters_70 (by (try dsimp only); (repeat (first | rw [up_s] | rw [up_n (by omega)])) <;> first | rfl | assumption) ?_
      refine ev_ret (pc := 73) dX9_takeLetters_73 rfl (Nat.le_of_ble_eq_true rfl) (Nat.le_of_ble_eq_true rfl) ?_
      refine ⟨rfl, rfl, (by intro q hq; (try dsimp only); (repeat (first | rw [up_n (by omega)])) <;> first | rfl | exact f1 q hq), ?_⟩
      first
        | (rw [if_pos (by omega)]; exact (p1.put i0 (rend isL cs i0) 1 va).put _ _ _ _)
        | (rw [if_neg (by omega)]; exact (p1.put i0 (rend isL cs i0) 1 va).put _ _ _ _)
    · (try simp (disch := omega) only [i32_lti, i32_lei, i32_eqi, nI_toInt, i32z] at c_55)
      refine ev_aload_n (pc := 58) dX9_takeLetters_58 rfl ?_
      refine ev_aload_n (pc := 59) dX9_takeLetters_59 rfl ?_
      refine gf_X9_83 (pc := 60) rfl dX9_takeLetters_60 (by (try dsimp only); (repeat (first | rw [up_s] | rw [up_n (by omega)])) <;> first | rfl | assumption) ?_
      refine iv_X9_79 (pc := 63) rfl dX9_takeLetters_63 (by (try dsimp only); (repeat (first | rw [up_s] | rw [up_n (by omega)])) <;> first | rfl | assumption) (Nat.le_of_ble_eq_true rfl) (Nat.le_of_ble_eq_true rfl) (Nat.le_of_ble_eq_true rfl) (Nat.le_of_ble_eq_true rfl) (c_byteAt (p1.put i0 (rend isL cs i0) 1 va) (k := i0) (by omega)) (kp ?_)
      rw [bA_lt hi]
      refine ev_goto (pc := 66) 70 dX9_takeLetters_66 (by decide) ?_
      refine pf_X9_40 (pc := 70) rfl dX9_takeLetters_70 (by (try dsimp only); (repeat (first | rw [up_s] | rw [up_n (by omega)])) <;> first | rfl | assumption) ?_
      refine ev_ret (pc := 73) dX9_takeLetters_73 rfl (Nat.le_of_ble_eq_true rfl) (Nat.le_of_ble_eq_true rfl) ?_
      refine ⟨rfl, rfl, (by intro q hq; (try dsimp only); (repeat (first | rw [up_n (by omega)])) <;> first | rfl | exact f1 q hq), ?_⟩
      first
        | (rw [if_pos (by omega)]; exact (p1.put i0 (rend isL cs i0) 1 va).put _ _ _ _)
        | (rw [if_neg (by omega)]; exact (p1.put i0 (rend isL cs i0) 1 va).put _ _ _ _)
  have loop : ∀ (n i : Nat), rend isL cs i0 - (i0 + i) = n → i0 + i ≤ rend isL cs i0 → ∀ h1 : Hp, hfr h h1 x 2 → pText h1 x cs i0 (i0 + i) tk va → Ev X (mi_X9_takeLetters 1 0 0) (Qv (fun S' => S'.2 = z ∧ hfr h S'.1 x 2 ∧ pText S'.1 x cs i0 (rend isL cs i0) 1 (if rend isL cs i0 = i0 + 1 then gN cs i0 else 0))) 0 0 (h1, z) 2 [.ref x, .int (nI i)] [] := by
    intro n
    induction n with
    | zero =>
      intro i hn hle h1 f1 p1
      obtain ⟨hx, -⟩ := id p1
      have e1 : i0 + i = rend isL cs i0 := by omega
      rw [e1] at p1 hx
      have eb : inI 97 122 (bA cs (rend isL cs i0)) = false := by
        rw [inI_bA l4 isL (fun _ => rfl)]
        by_cases hq : rend isL cs i0 < cs.length
        · rw [rend_out hq, Bool.and_false]
        · rw [decide_eq_false hq, Bool.false_and]
      refine ev_iload_n (pc := 2) dX9_takeLetters_2 rfl ?_
      refine ev_sipush (pc := 3) (v := nI 150) dX9_takeLetters_3 ks_150 ?_
      refine ev_icmp_ge (pc := 6) 39 dX9_takeLetters_6 (by decide) (fun c_6 => ?_) (fun c_6 => ?_)
      · (try simp (disch := omega) only [i32_lti, i32_lei, i32_eqi, nI_toInt, i32z] at c_6)
        exact fin _ h1 f1 p1
      · (try simp (disch := omega) only [i32_lti, i32_lei, i32_eqi, nI_toInt, i32z] at c_6)
        refine ev_aload_n (pc := 9) dX9_takeLetters_9 rfl ?_
        refine ev_aload_n (pc := 10) dX9_takeLetters_10 rfl ?_
        refine gf_X9_24 (pc := 11) rfl dX9_takeLetters_11 (by (try dsimp only); (repeat (first | rw [up_s] | rw [up_n (by omega)])) <;> first | rfl | assumption) ?_
        refine iv_X9_79 (pc := 14) rfl dX9_takeLetters_14 (by (try dsimp only); (repeat (first | rw [up_s] | rw [up_n (by omega)])) <;> first | rfl | assumption) (Nat.le_of_ble_eq_true rfl) (Nat.le_of_ble_eq_true rfl) (Nat.le_of_ble_eq_true rfl) (Nat.le_of_ble_eq_true rfl) (c_byteAt p1 (by omega)) (kp ?_)
        refine iv_X9_86 (pc := 17) rfl dX9_takeLetters_17 (Nat.le_of_ble_eq_true rfl) (Nat.le_of_ble_eq_true rfl) (Nat.le_of_ble_eq_true rfl) (Nat.le_of_ble_eq_true rfl) (c_isLetter (bA cs (rend isL cs i0))) (kp ?_)
        refine ev_if_eq (pc := 20) 39 dX9_takeLetters_20 (by decide) (fun c_20 => ?_) (fun c_20 => ?_)
        · (try simp (disch := omega) only [i32_lti, i32_lei, i32_eqi, nI_toInt, i32z] at c_20)
          exact fin _ h1 f1 p1
        · rw [eb] at c_20; exact absurd (by decide) c_20
    | succ n ih =>
      intro i hn hle h1 f1 p1
      obtain ⟨hx, -⟩ := id p1
      have hin := rend_in (p := isL) (cs := cs) (b := i0) (j := i0 + i) (by omega) (by omega)
      have eb : inI 97 122 (bA cs (i0 + i)) = true := by
        rw [inI_bA l4 isL (fun _ => rfl), hin.2, decide_eq_true hin.1]; rfl
      refine ev_iload_n (pc := 2) dX9_takeLetters_2 rfl ?_
      refine ev_sipush (pc := 3) (v := nI 150) dX9_takeLetters_3 ks_150 ?_
      refine ev_icmp_ge (pc := 6) 39 dX9_takeLetters_6 (by decide) (fun c_6 => ?_) (fun c_6 => ?_)
      · exfalso; (try simp (disch := omega) only [i32_lti, i32_lei, i32_eqi, nI_toInt, i32z] at c_6); omega
      · (try simp (disch := omega) only [i32_lti, i32_lei, i32_eqi, nI_toInt, i32z] at c_6)
        refine ev_aload_n (pc := 9) dX9_takeLetters_9 rfl ?_
        refine ev_aload_n (pc := 10) dX9_takeLetters_10 rfl ?_
        refine gf_X9_24 (pc := 11) rfl dX9_takeLetters_11 (by (try dsimp only); (repeat (first | rw [up_s] | rw [up_n (by omega)])) <;> first | rfl | assumption) ?_
        refine iv_X9_79 (pc := 14) rfl dX9_takeLetters_14 (by (try dsimp only); (repeat (first | rw [up_s] | rw [up_n (by omega)])) <;> first | rfl | assumption) (Nat.le_of_ble_eq_true rfl) (Nat.le_of_ble_eq_true rfl) (Nat.le_of_ble_eq_true rfl) (Nat.le_of_ble_eq_true rfl) (c_byteAt p1 (by omega)) (kp ?_)
        refine iv_X9_86 (pc := 17) rfl dX9_takeLetters_17 (Nat.le_of_ble_eq_true rfl) (Nat.le_of_ble_eq_true rfl) (Nat.le_of_ble_eq_true rfl) (Nat.le_of_ble_eq_true rfl) (c_isLetter (bA cs (i0 + i))) (kp ?_)
        refine ev_if_eq (pc := 20) 39 dX9_takeLetters_20 (by decide) (fun c_20 => ?_) (fun c_20 => ?_)
        · rw [eb] at c_20; exact absurd c_20 (by decide)
        · (try simp (disch := omega) only [i32_lti, i32_lei, i32_eqi, nI_toInt, i32z] at c_20)
          refine ev_aload_n (pc := 23) dX9_takeLetters_23 rfl ?_
          refine ev_dup (pc := 24) dX9_takeLetters_24 rfl ?_
          refine gf_X9_24 (pc := 25) rfl dX9_takeLetters_25 (by (try dsimp only); (repeat (first | rw [up_s] | rw [up_n (by omega)])) <;> first | rfl | assumption) ?_
          refine ev_iconst (pc := 28) (v := nI 1) dX9_takeLetters_28 kc_1 ?_
          refine ev_iadd (pc := 29) dX9_takeLetters_29 ?_
          rw [nI_add]
          refine pf_X9_24 (pc := 30) rfl dX9_takeLetters_30 (by (try dsimp only); (repeat (first | rw [up_s] | rw [up_n (by omega)])) <;> first | rfl | assumption) ?_
          refine ev_iinc (pc := 33) (L' := [_, _]) dX9_takeLetters_33 rfl (nI_1 _) rfl ?_
          refine ev_goto (pc := 36) 2 dX9_takeLetters_36 (by decide) ?_
          exact ih (i + 1) (by omega) (by omega) _ (by intro q hq; (try dsimp only); (repeat (first | rw [up_n (by omega)])) <;> first | rfl | exact f1 q hq) (p1.put _ _ _ _)
  refine ev_iconst (pc := 0) (v := nI 0) dX9_takeLetters_0 kc_0 ?_
  refine ev_istore_n (pc := 1) (L' := [_, _]) dX9_takeLetters_1 (Nat.le_of_ble_eq_true rfl) rfl ?_
  exact loop _ 0 rfl (by omega) h (hfr.rf _ _ _) p
theorem c_takeNumber (p : pText h x cs i0 i0 tk va) (hi : i0 < cs.length) : Ct X 1 mt_X9_takeNumber [.ref x] (h, z) 0 0 (Qv (fun S' => S'.2 = z ∧ hfr h S'.1 x 2 ∧ pText S'.1 x cs i0 (rend isD cs i0) (if 99 < numV (sub cs i0 (rend isD cs i0)) ∨ (gN cs i0 = 48 ∧ i0 + 1 < rend isD cs i0) then 4 else 2) (numV (sub cs i0 (rend isD cs i0))))) := by
  obtain ⟨hx0, ⟨bs, hb0, l1, l2⟩, l3, l4⟩ := id p
  have hr := rend_le (p := isD) (cs := cs) (b := i0) (by omega)
  have hge := rend_ge isD cs i0
  have h256 := l4 i0 hi
  have hnv := numV_le (sub cs i0 (rend isD cs i0))
  refine mk_X9_takeNumber (Nat.le_of_ble_eq_true rfl) (L := [.ref x, .retAddr 0]) rfl ?_
  have fin : ∀ (u : Value) (h1 : Hp), hfr h h1 x 2 → pText h1 x cs i0 (rend isD cs i0) tk (numV (sub cs i0 (rend isD cs i0))) → Ev X (mi_X9_takeNumber 1 0 0) (Qv (fun S' => S'.2 = z ∧ hfr h S'.1 x 2 ∧ pText S'.1 x cs i0 (rend isD cs i0) (if 99 < numV (sub cs i0 (rend isD cs i0)) ∨ (gN cs i0 = 48 ∧ i0 + 1 < rend isD cs i0) then 4 else 2) (numV (sub cs i0 (rend isD cs i0))))) 0 0 (h1, z) 72 [.ref x, u] [] := by
    intro u h1 f1 p1
    obtain ⟨hx, -⟩ := id p1
    refine ev_aload_n (pc := 72) dX9_takeNumber_72 rfl ?_
    refine ev_aload_n (pc := 73) dX9_takeNumber_73 rfl ?_
    refine gf_X9_83 (pc := 74) rfl dX9_takeNumber_74 (by (try dsimp only); (repeat (first | rw [up_s] | rw [up_n (by omega)])) <;> first | rfl | assumption) ?_
    refine iv_X9_79 (pc := 77) rfl dX9_takeNumber_77 (by (try dsimp only); (repeat (first | rw [up_s] | rw [up_n (by omega)])) <;> first | rfl | assumption) (Nat.le_of_ble_eq_true rfl) (Nat.le_of_ble_eq_true rfl) (Nat.le_of_ble_eq_true rfl) (Nat.le_of_ble_eq_true rfl) (c_byteAt p1 (k := i0) (by omega)) (kp ?_)
    rw [bA_lt hi]
    refine ev_bipush (pc := 80) (v := nI 48) dX9_takeNumber_80 kb_48 ?_
    refine ev_icmp_ne (pc := 82) 102 dX9_takeNumber_82 (by decide) (fun c_82 => ?_) (fun c_82 => ?_)
    · (try simp (disch := omega) only [i32_lti, i32_lei, i32_eqi, nI_toInt, i32z] at c_82)
      refine ev_iconst (pc := 102) (v := nI 0) dX9_takeNumber_102 kc_0 ?_
      refine ev_istore_n (pc := 103) (L' := [_, _]) dX9_takeNumber_103 (Nat.le_of_ble_eq_true rfl) rfl ?_
      refine ev_aload_n (pc := 104) dX9_takeNumber_104 rfl ?_
      refine ev_aload_n (pc := 105) dX9_takeNumber_105 rfl ?_
      refine gf_X9_40 (pc := 106) rfl dX9_takeNumber_106 (by (try dsimp only); (repeat (first | rw [up_s] | rw [up_n (by omega)])) <;> first | rfl | assumption) ?_
      refine ev_bipush (pc := 109) (v := nI 99) dX9_takeNumber_109 kb_99 ?_
      refine ev_icmp_gt (pc := 111) 118 dX9_takeNumber_111 (by decide) (fun c_111 => ?_) (fun c_111 => ?_)
      · (try simp (disch := omega) only [i32_lti, i32_lei, i32_eqi, nI_toInt, i32z] at c_111)
        refine ev_iconst (pc := 118) (v := nI 4) dX9_takeNumber_118 kc_4 ?_
        refine ev_goto (pc := 119) 123 dX9_takeNumber_119 (by decide) ?_
        refine pf_X9_30 (pc := 123) rfl dX9_takeNumber_123 (by (try dsimp only); (repeat (first | rw [up_s] | rw [up_n (by omega)])) <;> first | rfl | assumption) ?_
        refine ev_ret (pc := 126) dX9_takeNumber_126 rfl (Nat.le_of_ble_eq_true rfl) (Nat.le_of_ble_eq_true rfl) ?_
        refine ⟨rfl, rfl, (by intro q hq; (try dsimp only); (repeat (first | rw [up_n (by omega)])) <;> first | rfl | exact f1 q hq), ?_⟩
        first
          | (rw [if_pos (by omega)]; exact p1.put _ _ _ _)
          | (rw [if_neg (by omega)]; exact p1.put _ _ _ _)
      · (try simp (disch := omega) only [i32_lti, i32_lei, i32_eqi, nI_toInt, i32z] at c_111)
        refine ev_iload_n (pc := 114) dX9_takeNumber_114 rfl ?_
        refine ev_if_eq (pc := 115) 122 dX9_takeNumber_115 (by decide) (fun c_115 => ?_) (fun c_115 => ?_)
        · (try simp (disch := omega) only [i32_lti, i32_lei, i32_eqi, nI_toInt, i32z] at c_115)
          refine ev_iconst (pc := 122) (v := nI 2) dX9_takeNumber_122 kc_2 ?_
          refine pf_X9_30 (pc := 123) rfl dX9_takeNumber_123 (by (try dsimp only); (repeat (first | rw [up_s] | rw [up_n (by omega)])) <;> first | rfl | assumption) ?_
          refine ev_ret (pc := 126) dX9_takeNumber_126 rfl (Nat.le_of_ble_eq_true rfl) (Nat.le_of_ble_eq_true rfl) ?_
          refine ⟨rfl, rfl, (by intro q hq; (try dsimp only); (repeat (first | rw [up_n (by omega)])) <;> first | rfl | exact f1 q hq), ?_⟩
          first
            | (rw [if_pos (by omega)]; exact p1.put _ _ _ _)
            | (rw [if_neg (by omega)]; exact p1.put _ _ _ _)
        · (try simp (disch := omega) only [i32_lti, i32_lei, i32_eqi, nI_toInt, i32z] at c_115)
          refine ev_iconst (pc := 118) (v := nI 4) dX9_takeNumber_118 kc_4 ?_
          refine ev_goto (pc := 119) 123 dX9_takeNumber_119 (by decide) ?_
          refine pf_X9_30 (pc := 123) rfl dX9_takeNumber_123 (by (try dsimp only); (repeat (first | rw [up_s] | rw [up_n (by omega)])) <;> first | rfl | assumption) ?_
          refine ev_ret (pc := 126) dX9_takeNumber_126 rfl (Nat.le_of_ble_eq_true rfl) (Nat.le_of_ble_eq_true rfl) ?_
          refine ⟨rfl, rfl, (by intro q hq; (try dsimp only); (repeat (first | rw [up_n (by omega)])) <;> first | rfl | exact f1 q hq), ?_⟩
          first
            | (rw [if_pos (by omega)]; exact p1.put _ _ _ _)
            | (rw [if_neg (by omega)]; exact p1.put _ _ _ _)
    · (try simp (disch := omega) only [i32_lti, i32_lei, i32_eqi, nI_toInt, i32z] at c_82)
      refine ev_aload_n (pc := 85) dX9_takeNumber_85 rfl ?_
      refine gf_X9_24 (pc := 86) rfl dX9_takeNumber_86 (by (try dsimp only); (repeat (first | rw [up_s] | rw [up_n (by omega)])) <;> first | rfl | assumption) ?_
      refine ev_aload_n (pc := 89) dX9_takeNumber_89 rfl ?_
      refine gf_X9_83 (pc := 90) rfl dX9_takeNumber_90 (by (try dsimp only); (repeat (first | rw [up_s] | rw [up_n (by omega)])) <;> first | rfl | assumption) ?_
      refine ev_isub (pc := 93) dX9_takeNumber_93 ?_
      rw [nI_sub hge]
      refine ev_iconst (pc := 94) (v := nI 1) dX9_takeNumber_94 kc_1 ?_
      refine ev_icmp_le (pc := 95) 102 dX9_takeNumber_95 (by decide) (fun c_95 => ?_) (fun c_95 => ?_)
      · (try simp (disch := omega) only [i32_lti, i32_lei, i32_eqi, nI_toInt, i32z] at c_95)
        refine ev_iconst (pc := 102) (v := nI 0) dX9_takeNumber_102 kc_0 ?_
        refine ev_istore_n (pc := 103) (L' := [_, _]) dX9_takeNumber_103 (Nat.le_of_ble_eq_true rfl) rfl ?_
        refine ev_aload_n (pc := 104) dX9_takeNumber_104 rfl ?_
        refine ev_aload_n (pc := 105) dX9_takeNumber_105 rfl ?_
        refine gf_X9_40 (pc := 106) rfl dX9_takeNumber_106 (by (try dsimp only); (repeat (first | rw [up_s] | rw [up_n (by omega)])) <;> first | rfl | assumption) ?_
        refine ev_bipush (pc := 109) (v := nI 99) dX9_takeNumber_109 kb_99 ?_
        refine ev_icmp_gt (pc := 111) 118 dX9_takeNumber_111 (by decide) (fun c_111 => ?_) (fun c_111 => ?_)
        · (try simp (disch := omega) only [i32_lti, i32_lei, i32_eqi, nI_toInt, i32z] at c_111)
          refine ev_iconst (pc := 118) (v := nI 4) dX9_takeNumber_118 kc_4 ?_
          refine ev_goto (pc := 119) 123 dX9_takeNumber_119 (by decide) ?_
          refine pf_X9_30 (pc := 123) rfl dX9_takeNumber_123 (by (try dsimp only); (repeat (first | rw [up_s] | rw [up_n (by omega)])) <;> first | rfl | assumption) ?_
          refine ev_ret (pc := 126) dX9_takeNumber_126 rfl (Nat.le_of_ble_eq_true rfl) (Nat.le_of_ble_eq_true rfl) ?_
          refine ⟨rfl, rfl, (by intro q hq; (try dsimp only); (repeat (first | rw [up_n (by omega)])) <;> first | rfl | exact f1 q hq), ?_⟩
          first
            | (rw [if_pos (by omega)]; exact p1.put _ _ _ _)
            | (rw [if_neg (by omega)]; exact p1.put _ _ _ _)
        · (try simp (disch := omega) only [i32_lti, i32_lei, i32_eqi, nI_toInt, i32z] at c_111)
          refine ev_iload_n (pc := 114) dX9_takeNumber_114 rfl ?_
          refine ev_if_eq (pc := 115) 122 dX9_takeNumber_115 (by decide) (fun c_115 => ?_) (fun c_115 => ?_)
          · (try simp (disch := omega) only [i32_lti, i32_lei, i32_eqi, nI_toInt, i32z] at c_115)
            refine ev_iconst (pc := 122) (v := nI 2) dX9_takeNumber_122 kc_2 ?_
            refine pf_X9_30 (pc := 123) rfl dX9_takeNumber_123 (by (try dsimp only); (repeat (first | rw [up_s] | rw [up_n (by omega)])) <;> first | rfl | assumption) ?_
            refine ev_ret (pc := 126) dX9_takeNumber_126 rfl (Nat.le_of_ble_eq_true rfl) (Nat.le_of_ble_eq_true rfl) ?_
            refine ⟨rfl, rfl, (by intro q hq; (try dsimp only); (repeat (first | rw [up_n (by omega)])) <;> first | rfl | exact f1 q hq), ?_⟩
            first
              | (rw [if_pos (by omega)]; exact p1.put _ _ _ _)
              | (rw [if_neg (by omega)]; exact p1.put _ _ _ _)
          · (try simp (disch := omega) only [i32_lti, i32_lei, i32_eqi, nI_toInt, i32z] at c_115)
            refine ev_iconst (pc := 118) (v := nI 4) dX9_takeNumber_118 kc_4 ?_
            refine ev_goto (pc := 119) 123 dX9_takeNumber_119 (by decide) ?_
            refine pf_X9_30 (pc := 123) rfl dX9_takeNumber_123 (by (try dsimp only); (repeat (first | rw [up_s] | rw [up_n (by omega)])) <;> first | rfl | assumption) ?_
            refine ev_ret (pc := 126) dX9_takeNumber_126 rfl (Nat.le_of_ble_eq_true rfl) (Nat.le_of_ble_eq_true rfl) ?_
            refine ⟨rfl, rfl, (by intro q hq; (try dsimp only); (repeat (first | rw [up_n (by omega)])) <;> first | rfl | exact f1 q hq), ?_⟩
            first
              | (rw [if_pos (by omega)]; exact p1.put _ _ _ _)
              | (rw [if_neg (by omega)]; exact p1.put _ _ _ _)
      · (try simp (disch := omega) only [i32_lti, i32_lei, i32_eqi, nI_toInt, i32z] at c_95)
        refine ev_iconst (pc := 98) (v := nI 1) dX9_takeNumber_98 kc_1 ?_
        refine ev_goto (pc := 99) 103 dX9_takeNumber_99 (by decide) ?_
        refine ev_istore_n (pc := 103) (L' := [_, _]) dX9_takeNumber_103 (Nat.le_of_ble_eq_true rfl) rfl ?_
        refine ev_aload_n (pc := 104) dX9_takeNumber_104 rfl ?_
        refine ev_aload_n (pc := 105) dX9_takeNumber_105 rfl ?_
        refine gf_X9_40 (pc := 106) rfl dX9_takeNumber_106 (by (try dsimp only); (repeat (first | rw [up_s] | rw [up_n (by omega)])) <;> first | rfl | assumption) ?_
        refine ev_bipush (pc := 109) (v := nI 99) dX9_takeNumber_109 kb_99 ?_
        refine ev_icmp_gt (pc := 111) 118 dX9_takeNumber_111 (by decide) (fun c_111 => ?_) (fun c_111 => ?_)
        · (try simp (disch := omega) only [i32_lti, i32_lei, i32_eqi, nI_toInt, i32z] at c_111)
          refine ev_iconst (pc := 118) (v := nI 4) dX9_takeNumber_118 kc_4 ?_
          refine ev_goto (pc := 119) 123 dX9_takeNumber_119 (by decide) ?_
          refine pf_X9_30 (pc := 123) rfl dX9_takeNumber_123 (by (try dsimp only); (repeat (first | rw [up_s] | rw [up_n (by omega)])) <;> first | rfl | assumption) ?_
          refine ev_ret (pc := 126) dX9_takeNumber_126 rfl (Nat.le_of_ble_eq_true rfl) (Nat.le_of_ble_eq_true rfl) ?_
          refine ⟨rfl, rfl, (by intro q hq; (try dsimp only); (repeat (first | rw [up_n (by omega)])) <;> first | rfl | exact f1 q hq), ?_⟩
          first
            | (rw [if_pos (by omega)]; exact p1.put _ _ _ _)
            | (rw [if_neg (by omega)]; exact p1.put _ _ _ _)
        · (try simp (disch := omega) only [i32_lti, i32_lei, i32_eqi, nI_toInt, i32z] at c_111)
          refine ev_iload_n (pc := 114) dX9_takeNumber_114 rfl ?_
          refine ev_if_eq (pc := 115) 122 dX9_takeNumber_115 (by decide) (fun c_115 => ?_) (fun c_115 => ?_)
          · (try simp (disch := omega) only [i32_lti, i32_lei, i32_eqi, nI_toInt, i32z] at c_115)
            refine ev_iconst (pc := 122) (v := nI 2) dX9_takeNumber_122 kc_2 ?_
            refine pf_X9_30 (pc := 123) rfl dX9_takeNumber_123 (by (try dsimp only); (repeat (first | rw [up_s] | rw [up_n (by omega)])) <;> first | rfl | assumption) ?_
            refine ev_ret (pc := 126) dX9_takeNumber_126 rfl (Nat.le_of_ble_eq_true rfl) (Nat.le_of_ble_eq_true rfl) ?_
            refine ⟨rfl, rfl, (by intro q hq; (try dsimp only); (repeat (first | rw [up_n (by omega)])) <;> first | rfl | exact f1 q hq), ?_⟩
            first
              | (rw [if_pos (by omega)]; exact p1.put _ _ _ _)
              | (rw [if_neg (by omega)]; exact p1.put _ _ _ _)
          · (try simp (disch := omega) only [i32_lti, i32_lei, i32_eqi, nI_toInt, i32z] at c_115)
            refine ev_iconst (pc := 118) (v := nI 4) dX9_takeNumber_118 kc_4 ?_
            refine ev_goto (pc := 119) 123 dX9_takeNumber_119 (by decide) ?_
            refine pf_X9_30 (pc := 123) rfl dX9_takeNumber_123 (by (try dsimp only); (repeat (first | rw [up_s] | rw [up_n (by omega)])) <;> first | rfl | assumption) ?_
            refine ev_ret (pc := 126) dX9_takeNumber_126 rfl (Nat.le_of_ble_eq_true rfl) (Nat.le_of_ble_eq_true rfl) ?_
            refine ⟨rfl, rfl, (by intro q hq; (try dsimp only); (repeat (first | rw [up_n (by omega)])) <;> first | rfl | exact f1 q hq), ?_⟩
            first
              | (rw [if_pos (by omega)]; exact p1.put _ _ _ _)
              | (rw [if_neg (by omega)]; exact p1.put _ _ _ _)
  have loop : ∀ (n i : Nat), rend isD cs i0 - (i0 + i) = n → i0 + i ≤ rend isD cs i0 → ∀ h1 : Hp, hfr h h1 x 2 → pText h1 x cs i0 (i0 + i) tk (numV (sub cs i0 (i0 + i))) → Ev X (mi_X9_takeNumber 1 0 0) (Qv (fun S' => S'.2 = z ∧ hfr h S'.1 x 2 ∧ pText S'.1 x cs i0 (rend isD cs i0) (if 99 < numV (sub cs i0 (rend isD cs i0)) ∨ (gN cs i0 = 48 ∧ i0 + 1 < rend isD cs i0) then 4 else 2) (numV (sub cs i0 (rend isD cs i0))))) 0 0 (h1, z) 7 [.ref x, .int (nI i)] [] := by
    intro n
    induction n with
    | zero =>
      intro i hn hle h1 f1 p1
      obtain ⟨hx, -⟩ := id p1
      have e1 : i0 + i = rend isD cs i0 := by omega
      rw [e1] at p1 hx
      have eb : inI 48 57 (bA cs (rend isD cs i0)) = false := by
        rw [inI_bA l4 isD (fun _ => rfl)]
        by_cases hq : rend isD cs i0 < cs.length
        · rw [rend_out hq, Bool.and_false]
        · rw [decide_eq_false hq, Bool.false_and]
      refine ev_iload_n (pc := 7) dX9_takeNumber_7 rfl ?_
      refine ev_sipush (pc := 8) (v := nI 150) dX9_takeNumber_8 ks_150 ?_
      refine ev_icmp_ge (pc := 11) 72 dX9_takeNumber_11 (by decide) (fun c_11 => ?_) (fun c_11 => ?_)
      · (try simp (disch := omega) only [i32_lti, i32_lei, i32_eqi, nI_toInt, i32z] at c_11)
        exact fin _ h1 f1 p1
      · (try simp (disch := omega) only [i32_lti, i32_lei, i32_eqi, nI_toInt, i32z] at c_11)
        refine ev_aload_n (pc := 14) dX9_takeNumber_14 rfl ?_
        refine ev_aload_n (pc := 15) dX9_takeNumber_15 rfl ?_
        refine gf_X9_24 (pc := 16) rfl dX9_takeNumber_16 (by (try dsimp only); (repeat (first | rw [up_s] | rw [up_n (by omega)])) <;> first | rfl | assumption) ?_
        refine iv_X9_79 (pc := 19) rfl dX9_takeNumber_19 (by (try dsimp only); (repeat (first | rw [up_s] | rw [up_n (by omega)])) <;> first | rfl | assumption) (Nat.le_of_ble_eq_true rfl) (Nat.le_of_ble_eq_true rfl) (Nat.le_of_ble_eq_true rfl) (Nat.le_of_ble_eq_true rfl) (c_byteAt p1 (by omega)) (kp ?_)
        refine iv_X9_93 (pc := 22) rfl dX9_takeNumber_22 (Nat.le_of_ble_eq_true rfl) (Nat.le_of_ble_eq_true rfl) (Nat.le_of_ble_eq_true rfl) (Nat.le_of_ble_eq_true rfl) (c_isDigit (bA cs (rend isD cs i0))) (kp ?_)
        refine ev_if_eq (pc := 25) 72 dX9_takeNumber_25 (by decide) (fun c_25 => ?_) (fun c_25 => ?_)
        · (try simp (disch := omega) only [i32_lti, i32_lei, i32_eqi, nI_toInt, i32z] at c_25)
          exact fin _ h1 f1 p1
        · rw [eb] at c_25; exact absurd (by decide) c_25
    | succ n ih =>
      intro i hn hle h1 f1 p1
      obtain ⟨hx, -⟩ := id p1
      have hin := rend_in (p := isD) (cs := cs) (b := i0) (j := i0 + i) (by omega) (by omega)
      have hd : 48 ≤ gN cs (i0 + i) ∧ gN cs (i0 + i) ≤ 57 := by have := hin.2; simpa [isD] using this
      have eb : inI 48 57 (bA cs (i0 + i)) = true := by
        rw [inI_bA l4 isD (fun _ => rfl), hin.2, decide_eq_true hin.1]; rfl
      have hnv2 := numV_le (sub cs i0 (i0 + i))
      have es : numV (sub cs i0 (i0 + i + 1)) = min (numV (sub cs i0 (i0 + i)) * 10 + gN cs (i0 + i) - 48) 100 := by
        rw [sub_s (by omega) hin.1, numV_s]
      refine ev_iload_n (pc := 7) dX9_takeNumber_7 rfl ?_
      refine ev_sipush (pc := 8) (v := nI 150) dX9_takeNumber_8 ks_150 ?_
      refine ev_icmp_ge (pc := 11) 72 dX9_takeNumber_11 (by decide) (fun c_11 => ?_) (fun c_11 => ?_)
      · exfalso; (try simp (disch := omega) only [i32_lti, i32_lei, i32_eqi, nI_toInt, i32z] at c_11); omega
      · (try simp (disch := omega) only [i32_lti, i32_lei, i32_eqi, nI_toInt, i32z] at c_11)
        refine ev_aload_n (pc := 14) dX9_takeNumber_14 rfl ?_
        refine ev_aload_n (pc := 15) dX9_takeNumber_15 rfl ?_
        refine gf_X9_24 (pc := 16) rfl dX9_takeNumber_16 (by (try dsimp only); (repeat (first | rw [up_s] | rw [up_n (by omega)])) <;> first | rfl | assumption) ?_
        refine iv_X9_79 (pc := 19) rfl dX9_takeNumber_19 (by (try dsimp only); (repeat (first | rw [up_s] | rw [up_n (by omega)])) <;> first | rfl | assumption) (Nat.le_of_ble_eq_true rfl) (Nat.le_of_ble_eq_true rfl) (Nat.le_of_ble_eq_true rfl) (Nat.le_of_ble_eq_true rfl) (c_byteAt p1 (by omega)) (kp ?_)
        refine iv_X9_93 (pc := 22) rfl dX9_takeNumber_22 (Nat.le_of_ble_eq_true rfl) (Nat.le_of_ble_eq_true rfl) (Nat.le_of_ble_eq_true rfl) (Nat.le_of_ble_eq_true rfl) (c_isDigit (bA cs (i0 + i))) (kp ?_)
        refine ev_if_eq (pc := 25) 72 dX9_takeNumber_25 (by decide) (fun c_25 => ?_) (fun c_25 => ?_)
        · rw [eb] at c_25; exact absurd c_25 (by decide)
        · (try simp (disch := omega) only [i32_lti, i32_lei, i32_eqi, nI_toInt, i32z] at c_25)
          refine ev_aload_n (pc := 28) dX9_takeNumber_28 rfl ?_
          refine ev_aload_n (pc := 29) dX9_takeNumber_29 rfl ?_
          refine gf_X9_40 (pc := 30) rfl dX9_takeNumber_30 (by (try dsimp only); (repeat (first | rw [up_s] | rw [up_n (by omega)])) <;> first | rfl | assumption) ?_
          refine ev_bipush (pc := 33) (v := nI 10) dX9_takeNumber_33 kb_10 ?_
          refine ev_imul (pc := 35) dX9_takeNumber_35 ?_
          rw [pk_mul]
          refine ev_aload_n (pc := 36) dX9_takeNumber_36 rfl ?_
          refine ev_aload_n (pc := 37) dX9_takeNumber_37 rfl ?_
          refine gf_X9_24 (pc := 38) rfl dX9_takeNumber_38 (by (try dsimp only); (repeat (first | rw [up_s] | rw [up_n (by omega)])) <;> first | rfl | assumption) ?_
          refine iv_X9_79 (pc := 41) rfl dX9_takeNumber_41 (by (try dsimp only); (repeat (first | rw [up_s] | rw [up_n (by omega)])) <;> first | rfl | assumption) (Nat.le_of_ble_eq_true rfl) (Nat.le_of_ble_eq_true rfl) (Nat.le_of_ble_eq_true rfl) (Nat.le_of_ble_eq_true rfl) (c_byteAt p1 (by omega)) (kp ?_)
          rw [bA_lt hin.1]
          refine ev_iadd (pc := 44) dX9_takeNumber_44 ?_
          rw [nI_add]
          refine ev_bipush (pc := 45) (v := nI 48) dX9_takeNumber_45 kb_48 ?_
          refine ev_isub (pc := 47) dX9_takeNumber_47 ?_
          rw [nI_sub (by omega)]
          refine ev_bipush (pc := 48) (v := nI 100) dX9_takeNumber_48 kb_100 ?_
          refine ev_mmin (pc := 50) dX9_takeNumber_50 tw_402 (Nat.le_of_ble_eq_true rfl) (Nat.le_of_ble_eq_true rfl) (Nat.le_of_ble_eq_true rfl) (Nat.le_of_ble_eq_true rfl) ?_
          rw [mn_nI (by omega) (by omega), ← es]
          refine pf_X9_40 (pc := 53) rfl dX9_takeNumber_53 (by (try dsimp only); (repeat (first | rw [up_s] | rw [up_n (by omega)])) <;> first | rfl | assumption) ?_
          refine ev_aload_n (pc := 56) dX9_takeNumber_56 rfl ?_
          refine ev_dup (pc := 57) dX9_takeNumber_57 rfl ?_
          refine gf_X9_24 (pc := 58) rfl dX9_takeNumber_58 (by (try dsimp only); (repeat (first | rw [up_s] | rw [up_n (by omega)])) <;> first | rfl | assumption) ?_
          refine ev_iconst (pc := 61) (v := nI 1) dX9_takeNumber_61 kc_1 ?_
          refine ev_iadd (pc := 62) dX9_takeNumber_62 ?_
          rw [nI_add]
          refine pf_X9_24 (pc := 63) rfl dX9_takeNumber_63 (by (try dsimp only); (repeat (first | rw [up_s] | rw [up_n (by omega)])) <;> first | rfl | assumption) ?_
          refine ev_iinc (pc := 66) (L' := [_, _]) dX9_takeNumber_66 rfl (nI_1 _) rfl ?_
          refine ev_goto (pc := 69) 7 dX9_takeNumber_69 (by decide) ?_
          exact ih (i + 1) (by omega) (by omega) _ (by intro q hq; (try dsimp only); (repeat (first | rw [up_n (by omega)])) <;> first | rfl | exact f1 q hq) ((p1.put i0 (i0 + i) tk (numV (sub cs i0 (i0 + i + 1)))).put _ _ _ _)
  obtain ⟨hx, -⟩ := id p
  refine ev_aload_n (pc := 0) dX9_takeNumber_0 rfl ?_
  refine ev_iconst (pc := 1) (v := nI 0) dX9_takeNumber_1 kc_0 ?_
  refine pf_X9_40 (pc := 2) rfl dX9_takeNumber_2 (by (try dsimp only); (repeat (first | rw [up_s] | rw [up_n (by omega)])) <;> first | rfl | assumption) ?_
  refine ev_iconst (pc := 5) (v := nI 0) dX9_takeNumber_5 kc_0 ?_
  refine ev_istore_n (pc := 6) (L' := [_, _]) dX9_takeNumber_6 (Nat.le_of_ble_eq_true rfl) rfl ?_
  refine loop _ 0 rfl (by omega) _ (by intro q hq; first | rfl | ((try dsimp only); (repeat (first | rw [up_n (by omega)])))) ?_
  have e0 : numV (sub cs i0 (i0 + 0)) = 0 := by simp [sub, numV]
  rw [e0]; exact p.put _ _ _ _
theorem c_nextToken (p : pText h x cs i0 af tk va) (hi : af ≤ cs.length) (hva : va < 1000) : Ct X 2 mt_X9_nextToken [.ref x] (h, z) 0 0 (Qv (fun S' => S'.2 = z ∧ hfr h S'.1 x 2 ∧ ∃ va2 : Nat, va2 < 1000 ∧ pText S'.1 x cs (nxt cs af).2.2.1 (nxt cs af).2.2.2 (nxt cs af).1 va2 ∧ ((nxt cs af).1 = 1 ∨ (nxt cs af).1 = 2 → va2 = (nxt cs af).2.1))) := by
  obtain ⟨hx0, ⟨bs, hb0, l1, l2⟩, l3, l4⟩ := id p
  have hr := rend_le (p := isB) (cs := cs) (b := af) hi
  have hge := rend_ge isB cs af
  refine mk_X9_nextToken (Nat.le_of_ble_eq_true rfl) (L := [.ref x, .retAddr 0]) rfl ?_
  have fin : ∀ (u : Value) (h1 : Hp), hfr h h1 x 2 → pText h1 x cs i0 (rend isB cs af) tk va → Ev X (mi_X9_nextToken 2 0 0) (Qv (fun S' => S'.2 = z ∧ hfr h S'.1 x 2 ∧ ∃ va2 : Nat, va2 < 1000 ∧ pText S'.1 x cs (nxt cs af).2.2.1 (nxt cs af).2.2.2 (nxt cs af).1 va2 ∧ ((nxt cs af).1 = 1 ∨ (nxt cs af).1 = 2 → va2 = (nxt cs af).2.1))) 0 0 (h1, z) 38 [.ref x, u] [] := by
    intro u h1 f1 p1
    obtain ⟨hx, -⟩ := id p1
    have p2 := p1.put (rend isB cs af) (rend isB cs af) tk va
    by_cases hq : cs.length ≤ rend isB cs af
    · have en : nxt cs af = (0, 0, rend isB cs af, rend isB cs af) := by unfold nxt; rw [if_pos hq]
      rw [en]
      refine ev_aload_n (pc := 38) dX9_nextToken_38 rfl ?_
      refine ev_aload_n (pc := 39) dX9_nextToken_39 rfl ?_
      refine gf_X9_24 (pc := 40) rfl dX9_nextToken_40 (by (try dsimp only); (repeat (first | rw [up_s] | rw [up_n (by omega)])) <;> first | rfl | assumption) ?_
      refine pf_X9_83 (pc := 43) rfl dX9_nextToken_43 (by (try dsimp only); (repeat (first | rw [up_s] | rw [up_n (by omega)])) <;> first | rfl | assumption) ?_
      refine ev_aload_n (pc := 46) dX9_nextToken_46 rfl ?_
      refine ev_aload_n (pc := 47) dX9_nextToken_47 rfl ?_
      refine gf_X9_83 (pc := 48) rfl dX9_nextToken_48 (by (try dsimp only); (repeat (first | rw [up_s] | rw [up_n (by omega)])) <;> first | rfl | assumption) ?_
      refine iv_X9_79 (pc := 51) rfl dX9_nextToken_51 (by (try dsimp only); (repeat (first | rw [up_s] | rw [up_n (by omega)])) <;> first | rfl | assumption) (Nat.le_of_ble_eq_true rfl) (Nat.le_of_ble_eq_true rfl) (Nat.le_of_ble_eq_true rfl) (Nat.le_of_ble_eq_true rfl) (c_byteAt p2 (by omega)) (kp ?_)
      refine ev_istore_n (pc := 54) (L' := [_, _]) dX9_nextToken_54 (Nat.le_of_ble_eq_true rfl) rfl ?_
      refine ev_aload_n (pc := 55) dX9_nextToken_55 rfl ?_
      refine gf_X9_83 (pc := 56) rfl dX9_nextToken_56 (by (try dsimp only); (repeat (first | rw [up_s] | rw [up_n (by omega)])) <;> first | rfl | assumption) ?_
      refine ev_aload_n (pc := 59) dX9_nextToken_59 rfl ?_
      refine gf_X9_15 (pc := 60) rfl dX9_nextToken_60 (by (try dsimp only); (repeat (first | rw [up_s] | rw [up_n (by omega)])) <;> first | rfl | assumption) ?_
      refine ev_icmp_lt (pc := 63) 74 dX9_nextToken_63 (by decide) (fun c_63 => ?_) (fun c_63 => ?_)
      · exfalso; (try simp (disch := omega) only [i32_lti, i32_lei, i32_eqi, nI_toInt, i32z] at c_63); omega
      · (try simp (disch := omega) only [i32_lti, i32_lei, i32_eqi, nI_toInt, i32z] at c_63)
        refine ev_aload_n (pc := 66) dX9_nextToken_66 rfl ?_
        refine ev_iconst (pc := 67) (v := nI 0) dX9_nextToken_67 kc_0 ?_
        refine pf_X9_30 (pc := 68) rfl dX9_nextToken_68 (by (try dsimp only); (repeat (first | rw [up_s] | rw [up_n (by omega)])) <;> first | rfl | assumption) ?_
        refine ev_goto (pc := 71) 127 dX9_nextToken_71 (by decide) ?_
        refine ev_ret (pc := 127) dX9_nextToken_127 rfl (Nat.le_of_ble_eq_true rfl) (Nat.le_of_ble_eq_true rfl) ?_
        exact ⟨rfl, rfl, (by intro q hq; (try dsimp only); (repeat (first | rw [up_n (by omega)])) <;> first | rfl | exact f1 q hq), va, hva, p2.put _ _ _ _, fun q => by rcases q with q | q <;> cases q⟩
    · have hl : rend isB cs af < cs.length := by omega
      have eL : inI 97 122 (bA cs (rend isB cs af)) = isL (gN cs (rend isB cs af)) := by rw [inI_bA l4 isL (fun _ => rfl), decide_eq_true hl, Bool.true_and]
      have eD : inI 48 57 (bA cs (rend isB cs af)) = isD (gN cs (rend isB cs af)) := by rw [inI_bA l4 isD (fun _ => rfl), decide_eq_true hl, Bool.true_and]
      have h256 := l4 _ hl
      have eb := bA_lt hl
      have hgL := rend_ge isL cs (rend isB cs af)
      refine ev_aload_n (pc := 38) dX9_nextToken_38 rfl ?_
      refine ev_aload_n (pc := 39) dX9_nextToken_39 rfl ?_
      refine gf_X9_24 (pc := 40) rfl dX9_nextToken_40 (by (try dsimp only); (repeat (first | rw [up_s] | rw [up_n (by omega)])) <;> first | rfl | assumption) ?_
      refine pf_X9_83 (pc := 43) rfl dX9_nextToken_43 (by (try dsimp only); (repeat (first | rw [up_s] | rw [up_n (by omega)])) <;> first | rfl | assumption) ?_
      refine ev_aload_n (pc := 46) dX9_nextToken_46 rfl ?_
      refine ev_aload_n (pc := 47) dX9_nextToken_47 rfl ?_
      refine gf_X9_83 (pc := 48) rfl dX9_nextToken_48 (by (try dsimp only); (repeat (first | rw [up_s] | rw [up_n (by omega)])) <;> first | rfl | assumption) ?_
      refine iv_X9_79 (pc := 51) rfl dX9_nextToken_51 (by (try dsimp only); (repeat (first | rw [up_s] | rw [up_n (by omega)])) <;> first | rfl | assumption) (Nat.le_of_ble_eq_true rfl) (Nat.le_of_ble_eq_true rfl) (Nat.le_of_ble_eq_true rfl) (Nat.le_of_ble_eq_true rfl) (c_byteAt p2 (by omega)) (kp ?_)
      refine ev_istore_n (pc := 54) (L' := [_, _]) dX9_nextToken_54 (Nat.le_of_ble_eq_true rfl) rfl ?_
      refine ev_aload_n (pc := 55) dX9_nextToken_55 rfl ?_
      refine gf_X9_83 (pc := 56) rfl dX9_nextToken_56 (by (try dsimp only); (repeat (first | rw [up_s] | rw [up_n (by omega)])) <;> first | rfl | assumption) ?_
      refine ev_aload_n (pc := 59) dX9_nextToken_59 rfl ?_
      refine gf_X9_15 (pc := 60) rfl dX9_nextToken_60 (by (try dsimp only); (repeat (first | rw [up_s] | rw [up_n (by omega)])) <;> first | rfl | assumption) ?_
      refine ev_icmp_lt (pc := 63) 74 dX9_nextToken_63 (by decide) (fun c_63 => ?_) (fun c_63 => ?_)
      · (try simp (disch := omega) only [i32_lti, i32_lei, i32_eqi, nI_toInt, i32z] at c_63)
        refine ev_iload_n (pc := 74) dX9_nextToken_74 rfl ?_
        refine iv_X9_86 (pc := 75) rfl dX9_nextToken_75 (Nat.le_of_ble_eq_true rfl) (Nat.le_of_ble_eq_true rfl) (Nat.le_of_ble_eq_true rfl) (Nat.le_of_ble_eq_true rfl) (c_isLetter (bA cs (rend isB cs af))) (kp ?_)
        refine ev_if_eq (pc := 78) 88 dX9_nextToken_78 (by decide) (fun c_78 => ?_) (fun c_78 => ?_)
        · rw [eL, b2i_e0] at c_78
          refine ev_iload_n (pc := 88) dX9_nextToken_88 rfl ?_
          refine iv_X9_93 (pc := 89) rfl dX9_nextToken_89 (Nat.le_of_ble_eq_true rfl) (Nat.le_of_ble_eq_true rfl) (Nat.le_of_ble_eq_true rfl) (Nat.le_of_ble_eq_true rfl) (c_isDigit (bA cs (rend isB cs af))) (kp ?_)
          refine ev_if_eq (pc := 92) 102 dX9_nextToken_92 (by decide) (fun c_92 => ?_) (fun c_92 => ?_)
          · rw [eD, b2i_e0] at c_92
            refine ev_aload_n (pc := 102) dX9_nextToken_102 rfl ?_
            refine ev_iload_n (pc := 103) dX9_nextToken_103 rfl ?_
            refine ev_bipush (pc := 104) (v := nI 59) dX9_nextToken_104 kb_59 ?_
            refine ev_icmp_ne (pc := 106) 113 dX9_nextToken_106 (by decide) (fun c_106 => ?_) (fun c_106 => ?_)
            · rw [eb, nI_inj (by omega) (by omega)] at c_106
              refine ev_iconst (pc := 113) (v := nI 4) dX9_nextToken_113 kc_4 ?_
              refine pf_X9_30 (pc := 114) rfl dX9_nextToken_114 (by (try dsimp only); (repeat (first | rw [up_s] | rw [up_n (by omega)])) <;> first | rfl | assumption) ?_
              refine ev_aload_n (pc := 117) dX9_nextToken_117 rfl ?_
              refine ev_aload_n (pc := 118) dX9_nextToken_118 rfl ?_
              refine gf_X9_83 (pc := 119) rfl dX9_nextToken_119 (by (try dsimp only); (repeat (first | rw [up_s] | rw [up_n (by omega)])) <;> first | rfl | assumption) ?_
              refine ev_iconst (pc := 122) (v := nI 1) dX9_nextToken_122 kc_1 ?_
              refine ev_iadd (pc := 123) dX9_nextToken_123 ?_
              rw [nI_add]
              refine pf_X9_24 (pc := 124) rfl dX9_nextToken_124 (by (try dsimp only); (repeat (first | rw [up_s] | rw [up_n (by omega)])) <;> first | rfl | assumption) ?_
              refine ev_ret (pc := 127) dX9_nextToken_127 rfl (Nat.le_of_ble_eq_true rfl) (Nat.le_of_ble_eq_true rfl) ?_
              first
              | (rw [en]; exact ⟨rfl, rfl, f3, _, (by first | (split <;> omega) | omega), p3, fun _ => rfl⟩)
              | (have en : nxt cs af = (3, 0, rend isB cs af, rend isB cs af + 1) := by unfold nxt; rw [if_neg hq, if_neg (by simpa using c_78), if_neg (by simpa using c_92), if_pos c_106]
                 rw [en]; exact ⟨rfl, rfl, (by intro q hq; (try dsimp only); (repeat (first | rw [up_n (by omega)])) <;> first | rfl | exact f1 q hq), va, hva, (p2.put (rend isB cs af) (rend isB cs af) 3 va).put _ _ _ _, fun q => by rcases q with q | q <;> cases q⟩)
              | (have en : nxt cs af = (4, 0, rend isB cs af, rend isB cs af + 1) := by unfold nxt; rw [if_neg hq, if_neg (by simpa using c_78), if_neg (by simpa using c_92), if_neg c_106]
                 rw [en]; exact ⟨rfl, rfl, (by intro q hq; (try dsimp only); (repeat (first | rw [up_n (by omega)])) <;> first | rfl | exact f1 q hq), va, hva, (p2.put (rend isB cs af) (rend isB cs af) 4 va).put _ _ _ _, fun q => by rcases q with q | q <;> cases q⟩)
            · rw [eb, nI_inj (by omega) (by omega)] at c_106
              refine ev_iconst (pc := 109) (v := nI 3) dX9_nextToken_109 kc_3 ?_
              refine ev_goto (pc := 110) 114 dX9_nextToken_110 (by decide) ?_
              refine pf_X9_30 (pc := 114) rfl dX9_nextToken_114 (by (try dsimp only); (repeat (first | rw [up_s] | rw [up_n (by omega)])) <;> first | rfl | assumption) ?_
              refine ev_aload_n (pc := 117) dX9_nextToken_117 rfl ?_
              refine ev_aload_n (pc := 118) dX9_nextToken_118 rfl ?_
              refine gf_X9_83 (pc := 119) rfl dX9_nextToken_119 (by (try dsimp only); (repeat (first | rw [up_s] | rw [up_n (by omega)])) <;> first | rfl | assumption) ?_
              refine ev_iconst (pc := 122) (v := nI 1) dX9_nextToken_122 kc_1 ?_
              refine ev_iadd (pc := 123) dX9_nextToken_123 ?_
              rw [nI_add]
              refine pf_X9_24 (pc := 124) rfl dX9_nextToken_124 (by (try dsimp only); (repeat (first | rw [up_s] | rw [up_n (by omega)])) <;> first | rfl | assumption) ?_
              refine ev_ret (pc := 127) dX9_nextToken_127 rfl (Nat.le_of_ble_eq_true rfl) (Nat.le_of_ble_eq_true rfl) ?_
              first
              | (rw [en]; exact ⟨rfl, rfl, f3, _, (by first | (split <;> omega) | omega), p3, fun _ => rfl⟩)
              | (have en : nxt cs af = (3, 0, rend isB cs af, rend isB cs af + 1) := by unfold nxt; rw [if_neg hq, if_neg (by simpa using c_78), if_neg (by simpa using c_92), if_pos c_106]
                 rw [en]; exact ⟨rfl, rfl, (by intro q hq; (try dsimp only); (repeat (first | rw [up_n (by omega)])) <;> first | rfl | exact f1 q hq), va, hva, (p2.put (rend isB cs af) (rend isB cs af) 3 va).put _ _ _ _, fun q => by rcases q with q | q <;> cases q⟩)
              | (have en : nxt cs af = (4, 0, rend isB cs af, rend isB cs af + 1) := by unfold nxt; rw [if_neg hq, if_neg (by simpa using c_78), if_neg (by simpa using c_92), if_neg c_106]
                 rw [en]; exact ⟨rfl, rfl, (by intro q hq; (try dsimp only); (repeat (first | rw [up_n (by omega)])) <;> first | rfl | exact f1 q hq), va, hva, (p2.put (rend isB cs af) (rend isB cs af) 4 va).put _ _ _ _, fun q => by rcases q with q | q <;> cases q⟩)
          · rw [eD, b2i_e0] at c_92
            refine ev_aload_n (pc := 95) dX9_nextToken_95 rfl ?_
            refine iv_X9_96 (pc := 96) rfl dX9_nextToken_96 (by (try dsimp only); (repeat (first | rw [up_s] | rw [up_n (by omega)])) <;> first | rfl | assumption) (Nat.le_of_ble_eq_true rfl) (Nat.le_of_ble_eq_true rfl) (Nat.le_of_ble_eq_true rfl) (Nat.le_of_ble_eq_true rfl) (c_takeNumber p2 hl) (kv (fun S' hS => ?_))
            obtain ⟨h', z'⟩ := S'
            obtain ⟨rfl, f2, p3⟩ := hS
            have hnv := numV_le (sub cs (rend isB cs af) (rend isD cs (rend isB cs af)))
            have en : nxt cs af = ((if 99 < numV (sub cs (rend isB cs af) (rend isD cs (rend isB cs af))) ∨ (gN cs (rend isB cs af) = 48 ∧ rend isB cs af + 1 < rend isD cs (rend isB cs af)) then 4 else 2), numV (sub cs (rend isB cs af) (rend isD cs (rend isB cs af))), rend isB cs af, rend isD cs (rend isB cs af)) := by unfold nxt; rw [if_neg hq, if_neg (by simpa using c_78), if_pos (by simpa using c_92)]
            have f3 : hfr h h' x 2 := fun q hq => (f2 q hq).trans ((up_n (by omega)).trans (f1 q hq))
            refine ev_goto (pc := 99) 127 dX9_nextToken_99 (by decide) ?_
            refine ev_ret (pc := 127) dX9_nextToken_127 rfl (Nat.le_of_ble_eq_true rfl) (Nat.le_of_ble_eq_true rfl) ?_
            first
            | (rw [en]; exact ⟨rfl, rfl, f3, _, (by first | (split <;> omega) | omega), p3, fun _ => rfl⟩)
            | (have en : nxt cs af = (3, 0, rend isB cs af, rend isB cs af + 1) := by unfold nxt; rw [if_neg hq, if_neg (by simpa using c_78), if_neg (by simpa using c_92), if_pos c_106]
               rw [en]; exact ⟨rfl, rfl, (by intro q hq; (try dsimp only); (repeat (first | rw [up_n (by omega)])) <;> first | rfl | exact f1 q hq), va, hva, (p2.put (rend isB cs af) (rend isB cs af) 3 va).put _ _ _ _, fun q => by rcases q with q | q <;> cases q⟩)
            | (have en : nxt cs af = (4, 0, rend isB cs af, rend isB cs af + 1) := by unfold nxt; rw [if_neg hq, if_neg (by simpa using c_78), if_neg (by simpa using c_92), if_neg c_106]
               rw [en]; exact ⟨rfl, rfl, (by intro q hq; (try dsimp only); (repeat (first | rw [up_n (by omega)])) <;> first | rfl | exact f1 q hq), va, hva, (p2.put (rend isB cs af) (rend isB cs af) 4 va).put _ _ _ _, fun q => by rcases q with q | q <;> cases q⟩)
        · rw [eL, b2i_e0] at c_78
          refine ev_aload_n (pc := 81) dX9_nextToken_81 rfl ?_
          refine iv_X9_90 (pc := 82) rfl dX9_nextToken_82 (by (try dsimp only); (repeat (first | rw [up_s] | rw [up_n (by omega)])) <;> first | rfl | assumption) (Nat.le_of_ble_eq_true rfl) (Nat.le_of_ble_eq_true rfl) (Nat.le_of_ble_eq_true rfl) (Nat.le_of_ble_eq_true rfl) (c_takeLetters p2 hl) (kv (fun S' hS => ?_))
          obtain ⟨h', z'⟩ := S'
          obtain ⟨rfl, f2, p3⟩ := hS
          have en : nxt cs af = (1, (if rend isL cs (rend isB cs af) = rend isB cs af + 1 then gN cs (rend isB cs af) else 0), rend isB cs af, rend isL cs (rend isB cs af)) := by unfold nxt; rw [if_neg hq, if_pos (by simpa using c_78)]
          have f3 : hfr h h' x 2 := fun q hq => (f2 q hq).trans ((up_n (by omega)).trans (f1 q hq))
          refine ev_goto (pc := 85) 127 dX9_nextToken_85 (by decide) ?_
          refine ev_ret (pc := 127) dX9_nextToken_127 rfl (Nat.le_of_ble_eq_true rfl) (Nat.le_of_ble_eq_true rfl) ?_
          first
          | (rw [en]; exact ⟨rfl, rfl, f3, _, (by first | (split <;> omega) | omega), p3, fun _ => rfl⟩)
          | (have en : nxt cs af = (3, 0, rend isB cs af, rend isB cs af + 1) := by unfold nxt; rw [if_neg hq, if_neg (by simpa using c_78), if_neg (by simpa using c_92), if_pos c_106]
             rw [en]; exact ⟨rfl, rfl, (by intro q hq; (try dsimp only); (repeat (first | rw [up_n (by omega)])) <;> first | rfl | exact f1 q hq), va, hva, (p2.put (rend isB cs af) (rend isB cs af) 3 va).put _ _ _ _, fun q => by rcases q with q | q <;> cases q⟩)
          | (have en : nxt cs af = (4, 0, rend isB cs af, rend isB cs af + 1) := by unfold nxt; rw [if_neg hq, if_neg (by simpa using c_78), if_neg (by simpa using c_92), if_neg c_106]
             rw [en]; exact ⟨rfl, rfl, (by intro q hq; (try dsimp only); (repeat (first | rw [up_n (by omega)])) <;> first | rfl | exact f1 q hq), va, hva, (p2.put (rend isB cs af) (rend isB cs af) 4 va).put _ _ _ _, fun q => by rcases q with q | q <;> cases q⟩)
      · exfalso; (try simp (disch := omega) only [i32_lti, i32_lei, i32_eqi, nI_toInt, i32z] at c_63); omega
  have loop : ∀ (n i : Nat), rend isB cs af - (af + i) = n → af + i ≤ rend isB cs af → ∀ h1 : Hp, hfr h h1 x 2 → pText h1 x cs i0 (af + i) tk va → Ev X (mi_X9_nextToken 2 0 0) (Qv (fun S' => S'.2 = z ∧ hfr h S'.1 x 2 ∧ ∃ va2 : Nat, va2 < 1000 ∧ pText S'.1 x cs (nxt cs af).2.2.1 (nxt cs af).2.2.2 (nxt cs af).1 va2 ∧ ((nxt cs af).1 = 1 ∨ (nxt cs af).1 = 2 → va2 = (nxt cs af).2.1))) 0 0 (h1, z) 2 [.ref x, .int (nI i)] [] := by
    intro n
    induction n with
    | zero =>
      intro i hn hle h1 f1 p1
      obtain ⟨hx, -⟩ := id p1
      have e1 : af + i = rend isB cs af := by omega
      rw [e1] at p1 hx
      have eb : ¬ bA cs (rend isB cs af) = nI 32 := by
        by_cases hq : rend isB cs af < cs.length
        · have h1 := rend_out hq
          have h2 := l4 _ hq
          rw [bA_lt hq, nI_inj (by omega) (by omega)]
          simpa [isB] using h1
        · rw [bA_ge hq]; decide
      refine ev_iload_n (pc := 2) dX9_nextToken_2 rfl ?_
      refine ev_sipush (pc := 3) (v := nI 150) dX9_nextToken_3 ks_150 ?_
      refine ev_icmp_ge (pc := 6) 38 dX9_nextToken_6 (by decide) (fun c_6 => ?_) (fun c_6 => ?_)
      · (try simp (disch := omega) only [i32_lti, i32_lei, i32_eqi, nI_toInt, i32z] at c_6)
        exact fin _ h1 f1 p1
      · (try simp (disch := omega) only [i32_lti, i32_lei, i32_eqi, nI_toInt, i32z] at c_6)
        refine ev_aload_n (pc := 9) dX9_nextToken_9 rfl ?_
        refine ev_aload_n (pc := 10) dX9_nextToken_10 rfl ?_
        refine gf_X9_24 (pc := 11) rfl dX9_nextToken_11 (by (try dsimp only); (repeat (first | rw [up_s] | rw [up_n (by omega)])) <;> first | rfl | assumption) ?_
        refine iv_X9_79 (pc := 14) rfl dX9_nextToken_14 (by (try dsimp only); (repeat (first | rw [up_s] | rw [up_n (by omega)])) <;> first | rfl | assumption) (Nat.le_of_ble_eq_true rfl) (Nat.le_of_ble_eq_true rfl) (Nat.le_of_ble_eq_true rfl) (Nat.le_of_ble_eq_true rfl) (c_byteAt p1 (by omega)) (kp ?_)
        refine ev_bipush (pc := 17) (v := nI 32) dX9_nextToken_17 kb_32 ?_
        refine ev_icmp_ne (pc := 19) 38 dX9_nextToken_19 (by decide) (fun c_19 => ?_) (fun c_19 => ?_)
        · exact fin _ h1 f1 p1
        · exact absurd c_19 eb
    | succ n ih =>
      intro i hn hle h1 f1 p1
      obtain ⟨hx, -⟩ := id p1
      have hin := rend_in (p := isB) (cs := cs) (b := af) (j := af + i) (by omega) (by omega)
      have eb : bA cs (af + i) = nI 32 := by
        have := hin.2
        rw [bA_lt hin.1]
        simp only [isB, decide_eq_true_eq] at this
        rw [this]
      refine ev_iload_n (pc := 2) dX9_nextToken_2 rfl ?_
      refine ev_sipush (pc := 3) (v := nI 150) dX9_nextToken_3 ks_150 ?_
      refine ev_icmp_ge (pc := 6) 38 dX9_nextToken_6 (by decide) (fun c_6 => ?_) (fun c_6 => ?_)
      · exfalso; (try simp (disch := omega) only [i32_lti, i32_lei, i32_eqi, nI_toInt, i32z] at c_6); omega
      · (try simp (disch := omega) only [i32_lti, i32_lei, i32_eqi, nI_toInt, i32z] at c_6)
        refine ev_aload_n (pc := 9) dX9_nextToken_9 rfl ?_
        refine ev_aload_n (pc := 10) dX9_nextToken_10 rfl ?_
        refine gf_X9_24 (pc := 11) rfl dX9_nextToken_11 (by (try dsimp only); (repeat (first | rw [up_s] | rw [up_n (by omega)])) <;> first | rfl | assumption) ?_
        refine iv_X9_79 (pc := 14) rfl dX9_nextToken_14 (by (try dsimp only); (repeat (first | rw [up_s] | rw [up_n (by omega)])) <;> first | rfl | assumption) (Nat.le_of_ble_eq_true rfl) (Nat.le_of_ble_eq_true rfl) (Nat.le_of_ble_eq_true rfl) (Nat.le_of_ble_eq_true rfl) (c_byteAt p1 (by omega)) (kp ?_)
        refine ev_bipush (pc := 17) (v := nI 32) dX9_nextToken_17 kb_32 ?_
        refine ev_icmp_ne (pc := 19) 38 dX9_nextToken_19 (by decide) (fun c_19 => ?_) (fun c_19 => ?_)
        · exact absurd eb c_19
        · refine ev_aload_n (pc := 22) dX9_nextToken_22 rfl ?_
          refine ev_dup (pc := 23) dX9_nextToken_23 rfl ?_
          refine gf_X9_24 (pc := 24) rfl dX9_nextToken_24 (by (try dsimp only); (repeat (first | rw [up_s] | rw [up_n (by omega)])) <;> first | rfl | assumption) ?_
          refine ev_iconst (pc := 27) (v := nI 1) dX9_nextToken_27 kc_1 ?_
          refine ev_iadd (pc := 28) dX9_nextToken_28 ?_
          rw [nI_add]
          refine pf_X9_24 (pc := 29) rfl dX9_nextToken_29 (by (try dsimp only); (repeat (first | rw [up_s] | rw [up_n (by omega)])) <;> first | rfl | assumption) ?_
          refine ev_iinc (pc := 32) (L' := [_, _]) dX9_nextToken_32 rfl (nI_1 _) rfl ?_
          refine ev_goto (pc := 35) 2 dX9_nextToken_35 (by decide) ?_
          exact ih (i + 1) (by omega) (by omega) _ (by intro q hq; (try dsimp only); (repeat (first | rw [up_n (by omega)])) <;> first | rfl | exact f1 q hq) (p1.put _ _ _ _)
  refine ev_iconst (pc := 0) (v := nI 0) dX9_nextToken_0 kc_0 ?_
  refine ev_istore_n (pc := 1) (L' := [_, _]) dX9_nextToken_1 (Nat.le_of_ble_eq_true rfl) rfl ?_
  exact loop _ 0 rfl (by omega) h (hfr.rf _ _ _) p
theorem c_Text_init (hx : h x = some (.inl (9, [.null, .int 0, .int 0, .int 0, .int 0, .int 0]))) (hz : z = x + 1) : Ct X 1 mt_X9_init [.ref x] (h, z) 1 150 (Qv (fun S' => S'.2 = x + 2 ∧ hfr h S'.1 x 2 ∧ pText S'.1 x [] 0 0 0 0)) := by
  subst hz
  refine mk_X9_init (Nat.le_of_ble_eq_true rfl) (L := [.ref x]) rfl ?_
  refine ev_aload_n (pc := 0) dX9_init_0 rfl ?_
  refine ev_objInit (pc := 1) dX9_init_1 tw_31 tw_24 tw_25 (Nat.le_of_ble_eq_true rfl) (Nat.le_of_ble_eq_true rfl) ?_
  refine ev_aload_n (pc := 4) dX9_init_4 rfl ?_
  refine ev_sipush (pc := 5) (v := nI 150) dX9_init_5 ks_150 ?_
  refine ev_newi (pc := 8) (t := 0) (N := 150) dX9_init_8 (Nat.le_of_ble_eq_true rfl) rfl tw_53 rfl (Nat.le_of_ble_eq_true rfl) (Nat.le_of_ble_eq_true rfl) (Nat.le_of_ble_eq_true rfl) ?_
  refine pf_X9_9 (pc := 10) rfl rfl dX9_init_10 (by (try dsimp only); (repeat (first | rw [up_s] | rw [up_n (by omega)])) <;> first | rfl | assumption) ?_
  refine ev_ret (pc := 13) dX9_init_13 rfl (Nat.le_of_ble_eq_true rfl) (Nat.le_of_ble_eq_true rfl) ?_
  exact ⟨rfl, rfl, (by intro q hq; first | rfl | ((try dsimp only); (repeat (first | rw [up_n (by omega)])))), (by (try dsimp only); (repeat (first | rw [up_s] | rw [up_n (by omega)])) <;> first | rfl | assumption), ⟨List.replicate 150 0, (by rw [List.map_replicate]; exact (by (try dsimp only); (repeat (first | rw [up_s] | rw [up_n (by omega)])) <;> first | rfl | assumption)), List.length_replicate, rfl⟩, by simp, fun j hj => by simp at hj⟩
end TEXT
