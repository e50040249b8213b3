/-! ===== Telling ===== -/
abbrev Tl : Type := Nat × Nat × Nat × Bool × Nat × List Nat × List Nat × List Nat
/-- night, hours left, saved, lives, begun (bits), open (outermost first), parts left, the night in which it was told of last -/
abbrev tN (T : Tl) : Nat := T.1
abbrev tH (T : Tl) : Nat := T.2.1
abbrev tS (T : Tl) : Nat := T.2.2.1
abbrev tV (T : Tl) : Bool := T.2.2.2.1
abbrev tB (T : Tl) : Nat := T.2.2.2.2.1
abbrev tO (T : Tl) : List Nat := T.2.2.2.2.2.1
abbrev tF (T : Tl) : List Nat := T.2.2.2.2.2.2.1
abbrev tA (T : Tl) : List Nat := T.2.2.2.2.2.2.2
def mk : List Nat → Nat
  | [] => 0
  | t :: l => (1 <<< t) ||| mk l
theorem mk_app (l m : List Nat) : mk (l ++ m) = mk l ||| mk m := by
  induction l with
  | nil => simp [mk]
  | cons t l ih => simp [mk, ih, Nat.or_assoc]
theorem mk_one (t : Nat) : mk [t] = 1 <<< t := by simp [mk]
theorem mk_bit (l : List Nat) (i : Nat) : (mk l).testBit i = decide (i ∈ l) := by
  induction l with
  | nil => simp [mk]
  | cons t l ih =>
    simp only [mk, Nat.testBit_or, ih, List.mem_cons, Nat.one_shiftLeft, Nat.testBit_two_pow]
    by_cases h1 : t = i
    · subst h1; simp
    · have : ¬ i = t := fun q => h1 q.symm
      simp [h1, this]
theorem mk_lt {l : List Nat} (h : ∀ t ∈ l, t < 6) : mk l < 64 := by
  induction l with
  | nil => simp [mk]
  | cons t l ih =>
    have h1 := h t List.mem_cons_self
    have h2 := ih (fun x hx => h x (List.mem_cons_of_mem _ hx))
    have h3 : (1 <<< t) < 2 ^ 6 := by rw [Nat.one_shiftLeft]; exact Nat.pow_lt_pow_right (by omega) h1
    exact Nat.or_lt_two_pow (n := 6) h3 h2
theorem bt_and : ∀ a, a < 64 → ∀ b, b < 64 → nI a &&& nI b = nI (a &&& b) := by decide +kernel
theorem bt_or : ∀ a, a < 64 → ∀ b, b < 64 → nI a ||| nI b = nI (a ||| b) := by decide +kernel
theorem bt_clr : ∀ a, a < 64 → ∀ b, b < 64 → nI a &&& (nI b ^^^ (-1)) = nI (a &&& (63 ^^^ b)) := by decide +kernel
theorem bt_shl : ∀ t, t < 6 → nI 1 <<< (nI t &&& 31) = nI (1 <<< t) := by decide +kernel
theorem bt_shl64 : ∀ t, t < 6 → 1 <<< t < 64 := by decide +kernel
theorem bt_tst : ∀ a, a < 64 → ∀ t, t < 6 → (nI a >>> (nI t &&& 31)) &&& nI 1 = b2i (a.testBit t) := by decide +kernel
theorem bt_or64 : ∀ a, a < 64 → ∀ b, b < 64 → a ||| b < 64 := fun a ha b hb => Nat.or_lt_two_pow (n := 6) ha hb
theorem mk_clr {l : List Nat} {t : Nat} (h : ∀ x ∈ l, x < 6) (ht : t < 6) (hn : t ∉ l) : mk (l ++ [t]) &&& (63 ^^^ (1 <<< t)) = mk l := by
  apply Nat.eq_of_testBit_eq
  intro i
  have e63 : (63 : Nat) = 2 ^ 6 - 1 := rfl
  rw [Nat.testBit_and, Nat.testBit_xor, mk_bit, mk_bit, e63, Nat.testBit_two_pow_sub_one, Nat.one_shiftLeft, Nat.testBit_two_pow]
  by_cases h1 : i ∈ l
  · have h2 := h i h1
    have h3 : ¬ t = i := fun q => hn (q ▸ h1)
    simp [h1, h2, h3]
  · by_cases h4 : t = i
    · subst h4; simp [h1, ht]
    · have h5 : ¬ i = t := fun q => h4 q.symm
      simp [h1, h5]
/-- the object at a (cells a .. a+3) holds the telling T -/
def pTel (h : Hp) (a : Nat) (T : Tl) : Prop := h a = some (.inl (8, [.int (nI (tN T)), .int (nI (tH T)), .int (nI (tS T)), .int (b2i (tV T)), .int (nI (tB T)), .int (nI (mk (tO T))), .int (nI (tO T).length), .ref (a + 1), .ref (a + 2), .ref (a + 3)])) ∧ (∃ os : List Nat, h (a + 1) = some (.inr (0, .inl (os.map nI))) ∧ os.length = 6 ∧ os.take (tO T).length = tO T) ∧ h (a + 2) = some (.inr (0, .inl ((tF T).map nI))) ∧ (∃ ls : List Nat, h (a + 3) = some (.inr (0, .inl (ls.map nI))) ∧ ls.length = 6 ∧ ∀ t : Nat, t < 6 → (tB T).testBit t = true → gN ls t = gN (tA T) t) ∧ (tF T).length = 6
theorem pTel.fr {h h' : Hp} {a : Nat} {T : Tl} (p : pTel h a T) (e : ∀ q : Nat, a ≤ q → q < a + 4 → h' q = h q) : pTel h' a T := by
  obtain ⟨p1, ⟨os, p2, q2⟩, p3, ⟨ls, p4, q4⟩, p5⟩ := p
  exact ⟨by rw [e a (by omega) (by omega)]; exact p1, ⟨os, by rw [e (a + 1) (by omega) (by omega)]; exact p2, q2⟩, by rw [e (a + 2) (by omega) (by omega)]; exact p3, ⟨ls, by rw [e (a + 3) (by omega) (by omega)]; exact p4, q4⟩, p5⟩
theorem pTel.frA {h h' : Hp} {a b n : Nat} {T : Tl} (p : pTel h a T) (e : hfr h h' b n) (d : a + 4 ≤ b ∨ b + n ≤ a) : pTel h' a T := p.fr fun q h1 h2 => e q (by omega)
/-- what always holds of a telling -/
def wT (T : Tl) : Prop := (tO T).Nodup ∧ (∀ t ∈ tO T, t < 6 ∧ (tB T).testBit t = true ∧ 0 < gN (tF T) t ∧ gN (tA T) t ≤ tN T) ∧ tB T < 64 ∧ (tO T).length ≤ 6 ∧ (∀ t : Nat, gN (tF T) t < 100) ∧ tH T < 100 ∧ tN T < 1000 ∧ (tA T).length = 6 ∧ (tF T).length = 6 ∧ (tO T).Pairwise (fun x y => gN (tA T) x ≤ gN (tA T) y)
def inn (T : Tl) : Int32 := match (tO T).getLast? with
  | none => -9
  | some t => nI t
/-- k parts of the innermost tale, t -/
def tPart (T : Tl) (t k : Nat) : Tl := (tN T, tH T - k, tS T, tV T, tB T, (if gN (tF T) t - k = 0 then (tO T).dropLast else tO T), (tF T).set t (gN (tF T) t - k), (tA T).set t (tN T))
def tBeg (T : Tl) (t : Nat) : Tl := tPart (tN T, tH T, tS T, tV T, tB T ||| (1 <<< t), tO T ++ [t], tF T, tA T) t 1
def mayN (B : Bk) (T : Tl) (k : Nat) : Bool := tV T && (decide (0 < tH T) && (!(tB T).testBit k && (decide ((tO T).length < bD B) && (decide (gN (bW B) k = 9) || decide ((tO T).getLast? = some (gN (bW B) k))))))
theorem take_last {l os : List Nat} (h : os.take l.length = l) (hl : l ≠ []) (h6 : l.length ≤ os.length) : l.getLast? = some (gN os (l.length - 1)) := by
  rw [List.getLast?_eq_getElem?]
  have hp : 0 < l.length := List.length_pos_iff.mpr hl
  have : (os.take l.length)[l.length - 1]? = os[l.length - 1]? := by rw [List.getElem?_take, if_pos (by omega)]
  rw [h] at this
  rw [this, List.getElem?_eq_getElem (by omega)]
  simp [gN, List.getD_eq_getElem?_getD, List.getElem?_eq_getElem (show l.length - 1 < os.length by omega)]
theorem take_get {l os : List Nat} (h : os.take l.length = l) {i : Nat} (hi : i < l.length) : gN os i = gN l i := by
  have : (os.take l.length)[i]? = os[i]? := by rw [List.getElem?_take, if_pos hi]
  rw [h] at this
  simp only [gN, List.getD_eq_getElem?_getD, this]
theorem take_pop {l os : List Nat} (h : os.take l.length = l) : os.take l.dropLast.length = l.dropLast := by
  conv => rhs; rw [← h]
  rw [List.length_dropLast, List.dropLast_eq_take, List.length_take, List.take_take]
  by_cases hq : l.length ≤ os.length
  · congr 1; omega
  · have : os = l := by rw [← h, List.take_of_length_le (by omega)]
    subst this; congr 1; omega
theorem take_push {l os : List Nat} (h : os.take l.length = l) (h6 : l.length < os.length) (t : Nat) : (os.set l.length t).take (l ++ [t]).length = l ++ [t] := by
  apply List.ext_getElem?
  intro i
  rw [List.length_append, List.length_singleton, List.getElem?_take, List.getElem?_set, List.getElem?_append]
  by_cases h1 : i < l.length
  · rw [if_pos (by omega), if_neg (by omega), if_pos h1]
    have : (os.take l.length)[i]? = os[i]? := by rw [List.getElem?_take, if_pos h1]
    rw [h] at this
    exact this.symm
  · by_cases h2 : i = l.length
    · subst h2
      simp [h6]
    · rw [if_neg (by omega), if_neg h1, List.getElem?_eq_none (by simp; omega)]
theorem wT.mem {T : Tl} (w : wT T) {t : Nat} (h : (tO T).getLast? = some t) : t ∈ tO T := List.mem_of_getLast? h
theorem wT.split {T : Tl} {t : Nat} (h : (tO T).getLast? = some t) : tO T = (tO T).dropLast ++ [t] := by
  have hne : tO T ≠ [] := fun q => by rw [q] at h; cases h
  have : (tO T).getLast hne = t := by rw [List.getLast?_eq_some_getLast hne] at h; exact Option.some.inj h
  rw [← this]; exact (List.dropLast_concat_getLast hne).symm
section TELL
variable {X : Cx} {h : Hp} {z a b : Nat} {T : Tl} {B : Bk}
theorem c_leftOf (p : pTel h a T) {k : Nat} (hk : k < 6) : Ct X 0 mt_X8_leftOf [.ref a, .int (nI k)] (h, z) 0 0 (QP (.int (nI (gN (tF T) k))) (h, z)) := by
  obtain ⟨ha, -, hf, -, l1⟩ := id p
  refine mk_X8_leftOf (Nat.le_of_ble_eq_true rfl) (L := [.ref a, .int (nI k)]) rfl ?_
  refine ev_iload_n (pc := 0) dX8_leftOf_0 rfl ?_
  refine ev_if_lt (pc := 1) 19 dX8_leftOf_1 (by decide) (fun c_1 => ?_) (fun c_1 => ?_)
  · exfalso; (try simp (disch := omega) only [i32_lti, i32_lei, i32_eqi, nI_toInt, i32z] at c_1); omega
  · (try simp (disch := omega) only [i32_lti, i32_lei, i32_eqi, nI_toInt, i32z] at c_1)
    refine ev_iload_n (pc := 4) dX8_leftOf_4 rfl ?_
    refine ev_bipush (pc := 5) (v := nI 6) dX8_leftOf_5 kb_6 ?_
    refine ev_icmp_ge (pc := 7) 19 dX8_leftOf_7 (by decide) (fun c_7 => ?_) (fun c_7 => ?_)
    · exfalso; (try simp (disch := omega) only [i32_lti, i32_lei, i32_eqi, nI_toInt, i32z] at c_7); omega
    · (try simp (disch := omega) only [i32_lti, i32_lei, i32_eqi, nI_toInt, i32z] at c_7)
      refine ev_aload_n (pc := 10) dX8_leftOf_10 rfl ?_
      refine gf_X8_15 (pc := 11) rfl dX8_leftOf_11 (by (try dsimp only); (repeat (first | rw [up_s] | rw [up_n (by omega)])) <;> first | rfl | assumption) ?_
      refine ev_iload_n (pc := 14) dX8_leftOf_14 rfl ?_
      refine ev_iald (pc := 15) dX8_leftOf_15 (by (try dsimp only); (repeat (first | rw [up_s] | rw [up_n (by omega)])) <;> first | rfl | assumption) (nI_toInt (by omega)) (gm (by omega)) ?_
      refine ev_goto (pc := 16) 20 dX8_leftOf_16 (by decide) ?_
      refine ev_iret (pc := 20) dX8_leftOf_20 rfl rfl (Nat.le_of_ble_eq_true rfl) (Nat.le_of_ble_eq_true rfl) ?_
      exact ⟨rfl, rfl⟩
/-- of no tale: 0 -/
theorem c_leftOf_m9 (p : pTel h a T) : Ct X 0 mt_X8_leftOf [.ref a, .int (-9)] (h, z) 0 0 (QP (.int (nI 0)) (h, z)) := by
  refine mk_X8_leftOf (Nat.le_of_ble_eq_true rfl) (L := [.ref a, .int (-9)]) rfl ?_
  refine ev_iload_n (pc := 0) dX8_leftOf_0 rfl ?_
  refine ev_if_lt (pc := 1) 19 dX8_leftOf_1 (by decide) (fun c_1 => ?_) (fun c_1 => ?_)
  · (try simp (disch := omega) only [i32_lti, i32_lei, i32_eqi, nI_toInt, i32z] at c_1)
    refine ev_iconst (pc := 19) (v := nI 0) dX8_leftOf_19 kc_0 ?_
    refine ev_iret (pc := 20) dX8_leftOf_20 rfl rfl (Nat.le_of_ble_eq_true rfl) (Nat.le_of_ble_eq_true rfl) ?_
    exact ⟨rfl, rfl⟩
  · exact absurd (by decide) c_1
theorem c_lastNightOf (p : pTel h a T) {k : Nat} (hk : k < 6) (hb : (tB T).testBit k = true) : Ct X 0 mt_X8_lastNightOf [.ref a, .int (nI k)] (h, z) 0 0 (QP (.int (nI (gN (tA T) k))) (h, z)) := by
  obtain ⟨ha, -, -, ⟨ls, hl, l1, l2⟩, -⟩ := id p
  have e := l2 k hk hb
  refine mk_X8_lastNightOf (Nat.le_of_ble_eq_true rfl) (L := [.ref a, .int (nI k)]) rfl ?_
  refine ev_iload_n (pc := 0) dX8_lastNightOf_0 rfl ?_
  refine ev_if_lt (pc := 1) 19 dX8_lastNightOf_1 (by decide) (fun c_1 => ?_) (fun c_1 => ?_)
  · exfalso; (try simp (disch := omega) only [i32_lti, i32_lei, i32_eqi, nI_toInt, i32z] at c_1); omega
  · (try simp (disch := omega) only [i32_lti, i32_lei, i32_eqi, nI_toInt, i32z] at c_1)
    refine ev_iload_n (pc := 4) dX8_lastNightOf_4 rfl ?_
    refine ev_bipush (pc := 5) (v := nI 6) dX8_lastNightOf_5 kb_6 ?_
    refine ev_icmp_ge (pc := 7) 19 dX8_lastNightOf_7 (by decide) (fun c_7 => ?_) (fun c_7 => ?_)
    · exfalso; (try simp (disch := omega) only [i32_lti, i32_lei, i32_eqi, nI_toInt, i32z] at c_7); omega
    · (try simp (disch := omega) only [i32_lti, i32_lei, i32_eqi, nI_toInt, i32z] at c_7)
      refine ev_aload_n (pc := 10) dX8_lastNightOf_10 rfl ?_
      refine gf_X8_18 (pc := 11) rfl dX8_lastNightOf_11 (by (try dsimp only); (repeat (first | rw [up_s] | rw [up_n (by omega)])) <;> first | rfl | assumption) ?_
      refine ev_iload_n (pc := 14) dX8_lastNightOf_14 rfl ?_
      refine ev_iald (pc := 15) dX8_lastNightOf_15 (by (try dsimp only); (repeat (first | rw [up_s] | rw [up_n (by omega)])) <;> first | rfl | assumption) (nI_toInt (by omega)) (gm (by omega)) ?_
      refine ev_goto (pc := 16) 20 dX8_lastNightOf_16 (by decide) ?_
      refine ev_iret (pc := 20) dX8_lastNightOf_20 rfl rfl (Nat.le_of_ble_eq_true rfl) (Nat.le_of_ble_eq_true rfl) ?_
      exact ⟨by rw [e], rfl⟩
theorem c_isBegun (p : pTel h a T) (h64 : tB T < 64) {k : Nat} (hk : k < 6) : Ct X 0 mt_X8_isBegun [.ref a, .int (nI k)] (h, z) 0 0 (QP (.int (b2i ((tB T).testBit k))) (h, z)) := by
  obtain ⟨ha, -⟩ := id p
  have e := bt_tst (tB T) h64 k hk
  refine mk_X8_isBegun (Nat.le_of_ble_eq_true rfl) (L := [.ref a, .int (nI k)]) rfl ?_
  refine ev_aload_n (pc := 0) dX8_isBegun_0 rfl ?_
  refine gf_X8_41 (pc := 1) rfl dX8_isBegun_1 (by (try dsimp only); (repeat (first | rw [up_s] | rw [up_n (by omega)])) <;> first | rfl | assumption) ?_
  refine ev_iload_n (pc := 4) dX8_isBegun_4 rfl ?_
  refine ev_ishr (pc := 5) dX8_isBegun_5 ?_
  refine ev_iconst (pc := 6) (v := nI 1) dX8_isBegun_6 kc_1 ?_
  refine ev_iand (pc := 7) dX8_isBegun_7 ?_
  rw [e]
  refine ev_iconst (pc := 8) (v := nI 1) dX8_isBegun_8 kc_1 ?_
  refine ev_icmp_ne (pc := 9) 16 dX8_isBegun_9 (by decide) (fun c_9 => ?_) (fun c_9 => ?_)
  · refine ev_iconst (pc := 16) (v := nI 0) dX8_isBegun_16 kc_0 ?_
    refine ev_iret (pc := 17) dX8_isBegun_17 rfl rfl (Nat.le_of_ble_eq_true rfl) (Nat.le_of_ble_eq_true rfl) ?_
    cases hh : (tB T).testBit k <;> rw [hh] at c_9 <;> first | exact qb1 rfl | exact qb0 rfl | exact absurd (by decide) c_9 | exact absurd c_9 (by decide)
  · refine ev_iconst (pc := 12) (v := nI 1) dX8_isBegun_12 kc_1 ?_
    refine ev_goto (pc := 13) 17 dX8_isBegun_13 (by decide) ?_
    refine ev_iret (pc := 17) dX8_isBegun_17 rfl rfl (Nat.le_of_ble_eq_true rfl) (Nat.le_of_ble_eq_true rfl) ?_
    cases hh : (tB T).testBit k <;> rw [hh] at c_9 <;> first | exact qb1 rfl | exact qb0 rfl | exact absurd (by decide) c_9 | exact absurd c_9 (by decide)
theorem c_openAt (p : pTel h a T) {k : Nat} (hk : k < (tO T).length) (h6 : (tO T).length ≤ 6) : Ct X 0 mt_X8_openAt [.ref a, .int (nI k)] (h, z) 0 0 (QP (.int (nI (gN (tO T) k))) (h, z)) := by
  obtain ⟨ha, ⟨os, ho, l1, l2⟩, -⟩ := id p
  have e := take_get l2 hk
  refine mk_X8_openAt (Nat.le_of_ble_eq_true rfl) (L := [.ref a, .int (nI k)]) rfl ?_
  refine ev_iload_n (pc := 0) dX8_openAt_0 rfl ?_
  refine ev_if_lt (pc := 1) 27 dX8_openAt_1 (by decide) (fun c_1 => ?_) (fun c_1 => ?_)
  · exfalso; (try simp (disch := omega) only [i32_lti, i32_lei, i32_eqi, nI_toInt, i32z] at c_1); omega
  · (try simp (disch := omega) only [i32_lti, i32_lei, i32_eqi, nI_toInt, i32z] at c_1)
    refine ev_iload_n (pc := 4) dX8_openAt_4 rfl ?_
    refine ev_aload_n (pc := 5) dX8_openAt_5 rfl ?_
    refine gf_X8_47 (pc := 6) rfl dX8_openAt_6 (by (try dsimp only); (repeat (first | rw [up_s] | rw [up_n (by omega)])) <;> first | rfl | assumption) ?_
    refine ev_icmp_ge (pc := 9) 27 dX8_openAt_9 (by decide) (fun c_9 => ?_) (fun c_9 => ?_)
    · exfalso; (try simp (disch := omega) only [i32_lti, i32_lei, i32_eqi, nI_toInt, i32z] at c_9); omega
    · (try simp (disch := omega) only [i32_lti, i32_lei, i32_eqi, nI_toInt, i32z] at c_9)
      refine ev_iload_n (pc := 12) dX8_openAt_12 rfl ?_
      refine ev_bipush (pc := 13) (v := nI 6) dX8_openAt_13 kb_6 ?_
      refine ev_icmp_ge (pc := 15) 27 dX8_openAt_15 (by decide) (fun c_15 => ?_) (fun c_15 => ?_)
      · exfalso; (try simp (disch := omega) only [i32_lti, i32_lei, i32_eqi, nI_toInt, i32z] at c_15); omega
      · (try simp (disch := omega) only [i32_lti, i32_lei, i32_eqi, nI_toInt, i32z] at c_15)
        refine ev_aload_n (pc := 18) dX8_openAt_18 rfl ?_
        refine gf_X8_9 (pc := 19) rfl dX8_openAt_19 (by (try dsimp only); (repeat (first | rw [up_s] | rw [up_n (by omega)])) <;> first | rfl | assumption) ?_
        refine ev_iload_n (pc := 22) dX8_openAt_22 rfl ?_
        refine ev_iald (pc := 23) dX8_openAt_23 (by (try dsimp only); (repeat (first | rw [up_s] | rw [up_n (by omega)])) <;> first | rfl | assumption) (nI_toInt (by omega)) (gm (by omega)) ?_
        refine ev_goto (pc := 24) 29 dX8_openAt_24 (by decide) ?_
        refine ev_iret (pc := 29) dX8_openAt_29 rfl rfl (Nat.le_of_ble_eq_true rfl) (Nat.le_of_ble_eq_true rfl) ?_
        exact ⟨by rw [e], rfl⟩
theorem c_innermost (p : pTel h a T) (h6 : (tO T).length ≤ 6) : Ct X 0 mt_X8_innermost [.ref a] (h, z) 0 0 (QP (.int (inn T)) (h, z)) := by
  obtain ⟨ha, ⟨os, ho, l1, l2⟩, -⟩ := id p
  refine mk_X8_innermost (Nat.le_of_ble_eq_true rfl) (L := [.ref a]) rfl ?_
  rcases List.eq_nil_or_concat (tO T) with hn | ⟨l0, t0, hn⟩
  · have e0 : (tO T).length = 0 := by rw [hn]; rfl
    have e1 : inn T = -9 := by unfold inn; rw [hn]; rfl
    refine ev_aload_n (pc := 0) dX8_innermost_0 rfl ?_
    refine gf_X8_47 (pc := 1) rfl dX8_innermost_1 (by (try dsimp only); (repeat (first | rw [up_s] | rw [up_n (by omega)])) <;> first | rfl | assumption) ?_
    refine ev_if_le (pc := 4) 30 dX8_innermost_4 (by decide) (fun c_4 => ?_) (fun c_4 => ?_)
    · (try simp (disch := omega) only [i32_lti, i32_lei, i32_eqi, nI_toInt, i32z] at c_4)
      refine ev_bipush (pc := 30) (v := (-9)) dX8_innermost_30 kb_m9 ?_
      refine ev_iret (pc := 32) dX8_innermost_32 rfl rfl (Nat.le_of_ble_eq_true rfl) (Nat.le_of_ble_eq_true rfl) ?_
      exact ⟨by rw [e1], rfl⟩
    · exfalso; (try simp (disch := omega) only [i32_lti, i32_lei, i32_eqi, nI_toInt, i32z] at c_4); omega
  · have e0 : 0 < (tO T).length := by rw [hn]; simp
    have e1 : inn T = nI (gN os ((tO T).length - 1)) := by
      unfold inn
      rw [take_last l2 (by intro q; rw [q] at e0; cases e0) (by omega)]
    refine ev_aload_n (pc := 0) dX8_innermost_0 rfl ?_
    refine gf_X8_47 (pc := 1) rfl dX8_innermost_1 (by (try dsimp only); (repeat (first | rw [up_s] | rw [up_n (by omega)])) <;> first | rfl | assumption) ?_
    refine ev_if_le (pc := 4) 30 dX8_innermost_4 (by decide) (fun c_4 => ?_) (fun c_4 => ?_)
    · exfalso; (try simp (disch := omega) only [i32_lti, i32_lei, i32_eqi, nI_toInt, i32z] at c_4); omega
    · (try simp (disch := omega) only [i32_lti, i32_lei, i32_eqi, nI_toInt, i32z] at c_4)
      refine ev_aload_n (pc := 7) dX8_innermost_7 rfl ?_
      refine gf_X8_47 (pc := 8) rfl dX8_innermost_8 (by (try dsimp only); (repeat (first | rw [up_s] | rw [up_n (by omega)])) <;> first | rfl | assumption) ?_
      refine ev_bipush (pc := 11) (v := nI 6) dX8_innermost_11 kb_6 ?_
      refine ev_icmp_gt (pc := 13) 30 dX8_innermost_13 (by decide) (fun c_13 => ?_) (fun c_13 => ?_)
      · exfalso; (try simp (disch := omega) only [i32_lti, i32_lei, i32_eqi, nI_toInt, i32z] at c_13); omega
      · (try simp (disch := omega) only [i32_lti, i32_lei, i32_eqi, nI_toInt, i32z] at c_13)
        refine ev_aload_n (pc := 16) dX8_innermost_16 rfl ?_
        refine gf_X8_9 (pc := 17) rfl dX8_innermost_17 (by (try dsimp only); (repeat (first | rw [up_s] | rw [up_n (by omega)])) <;> first | rfl | assumption) ?_
        refine ev_aload_n (pc := 20) dX8_innermost_20 rfl ?_
        refine gf_X8_47 (pc := 21) rfl dX8_innermost_21 (by (try dsimp only); (repeat (first | rw [up_s] | rw [up_n (by omega)])) <;> first | rfl | assumption) ?_
        refine ev_iconst (pc := 24) (v := nI 1) dX8_innermost_24 kc_1 ?_
        refine ev_isub (pc := 25) dX8_innermost_25 ?_
        rw [nI_sub (by omega)]
        refine ev_iald (pc := 26) dX8_innermost_26 (by (try dsimp only); (repeat (first | rw [up_s] | rw [up_n (by omega)])) <;> first | rfl | assumption) (nI_toInt (by omega)) (gm (by omega)) ?_
        refine ev_goto (pc := 27) 32 dX8_innermost_27 (by decide) ?_
        refine ev_iret (pc := 32) dX8_innermost_32 rfl rfl (Nat.le_of_ble_eq_true rfl) (Nat.le_of_ble_eq_true rfl) ?_
        exact ⟨by rw [e1], rfl⟩
theorem c_hasHour (p : pTel h a T) (hh : tH T < 100) : Ct X 0 mt_X8_hasHour [.ref a] (h, z) 0 0 (QP (.int (b2i (tV T && decide (0 < tH T)))) (h, z)) := by
  obtain ⟨ha, -⟩ := id p
  refine mk_X8_hasHour (Nat.le_of_ble_eq_true rfl) (L := [.ref a]) rfl ?_
  refine ev_aload_n (pc := 0) dX8_hasHour_0 rfl ?_
  refine gf_X8_37 (pc := 1) rfl dX8_hasHour_1 (by (try dsimp only); (repeat (first | rw [up_s] | rw [up_n (by omega)])) <;> first | rfl | assumption) ?_
  refine ev_if_eq (pc := 4) 18 dX8_hasHour_4 (by decide) (fun c_4 => ?_) (fun c_4 => ?_)
  · simp only [b2i_e0, Bool.not_eq_false] at c_4
    refine ev_iconst (pc := 18) (v := nI 0) dX8_hasHour_18 kc_0 ?_
    refine ev_iret (pc := 19) dX8_hasHour_19 rfl rfl (Nat.le_of_ble_eq_true rfl) (Nat.le_of_ble_eq_true rfl) ?_
    first | exact qb0 (by rw [c_4]; rfl) | exact qb1 (by rw [c_4]; simp; omega) | exact qb0 (by rw [c_4]; simp; omega)
  · simp only [b2i_e0, Bool.not_eq_false] at c_4
    refine ev_aload_n (pc := 7) dX8_hasHour_7 rfl ?_
    refine gf_X8_31 (pc := 8) rfl dX8_hasHour_8 (by (try dsimp only); (repeat (first | rw [up_s] | rw [up_n (by omega)])) <;> first | rfl | assumption) ?_
    refine ev_if_le (pc := 11) 18 dX8_hasHour_11 (by decide) (fun c_11 => ?_) (fun c_11 => ?_)
    · (try simp (disch := omega) only [i32_lti, i32_lei, i32_eqi, nI_toInt, i32z] at c_11)
      refine ev_iconst (pc := 18) (v := nI 0) dX8_hasHour_18 kc_0 ?_
      refine ev_iret (pc := 19) dX8_hasHour_19 rfl rfl (Nat.le_of_ble_eq_true rfl) (Nat.le_of_ble_eq_true rfl) ?_
      first | exact qb0 (by rw [c_4]; rfl) | exact qb1 (by rw [c_4]; simp; omega) | exact qb0 (by rw [c_4]; simp; omega)
    · (try simp (disch := omega) only [i32_lti, i32_lei, i32_eqi, nI_toInt, i32z] at c_11)
      refine ev_iconst (pc := 14) (v := nI 1) dX8_hasHour_14 kc_1 ?_
      refine ev_goto (pc := 15) 19 dX8_hasHour_15 (by decide) ?_
      refine ev_iret (pc := 19) dX8_hasHour_19 rfl rfl (Nat.le_of_ble_eq_true rfl) (Nat.le_of_ble_eq_true rfl) ?_
      first | exact qb0 (by rw [c_4]; rfl) | exact qb1 (by rw [c_4]; simp; omega) | exact qb0 (by rw [c_4]; simp; omega)
theorem c_mayDawn (p : pTel h a T) (hh : tH T < 100) (hn : tN T < 1000) : Ct X 0 mt_X8_mayDawn [.ref a] (h, z) 0 0 (QP (.int (b2i (tV T && (decide (tH T = 0) && decide (tN T < 99))))) (h, z)) := by
  obtain ⟨ha, -⟩ := id p
  refine mk_X8_mayDawn (Nat.le_of_ble_eq_true rfl) (L := [.ref a]) rfl ?_
  refine ev_aload_n (pc := 0) dX8_mayDawn_0 rfl ?_
  refine gf_X8_37 (pc := 1) rfl dX8_mayDawn_1 (by (try dsimp only); (repeat (first | rw [up_s] | rw [up_n (by omega)])) <;> first | rfl | assumption) ?_
  refine ev_if_eq (pc := 4) 27 dX8_mayDawn_4 (by decide) (fun c_4 => ?_) (fun c_4 => ?_)
  · simp only [b2i_e0, Bool.not_eq_false] at c_4
    refine ev_iconst (pc := 27) (v := nI 0) dX8_mayDawn_27 kc_0 ?_
    refine ev_iret (pc := 28) dX8_mayDawn_28 rfl rfl (Nat.le_of_ble_eq_true rfl) (Nat.le_of_ble_eq_true rfl) ?_
    first | exact qb0 (by rw [c_4]; rfl) | exact qb1 (by rw [c_4]; simp; omega) | exact qb0 (by rw [c_4]; simp; omega)
  · simp only [b2i_e0, Bool.not_eq_false] at c_4
    refine ev_aload_n (pc := 7) dX8_mayDawn_7 rfl ?_
    refine gf_X8_31 (pc := 8) rfl dX8_mayDawn_8 (by (try dsimp only); (repeat (first | rw [up_s] | rw [up_n (by omega)])) <;> first | rfl | assumption) ?_
    refine ev_if_gt (pc := 11) 27 dX8_mayDawn_11 (by decide) (fun c_11 => ?_) (fun c_11 => ?_)
    · (try simp (disch := omega) only [i32_lti, i32_lei, i32_eqi, nI_toInt, i32z] at c_11)
      refine ev_iconst (pc := 27) (v := nI 0) dX8_mayDawn_27 kc_0 ?_
      refine ev_iret (pc := 28) dX8_mayDawn_28 rfl rfl (Nat.le_of_ble_eq_true rfl) (Nat.le_of_ble_eq_true rfl) ?_
      first | exact qb0 (by rw [c_4]; rfl) | exact qb1 (by rw [c_4]; simp; omega) | exact qb0 (by rw [c_4]; simp; omega)
    · (try simp (disch := omega) only [i32_lti, i32_lei, i32_eqi, nI_toInt, i32z] at c_11)
      refine ev_aload_n (pc := 14) dX8_mayDawn_14 rfl ?_
      refine gf_X8_21 (pc := 15) rfl dX8_mayDawn_15 (by (try dsimp only); (repeat (first | rw [up_s] | rw [up_n (by omega)])) <;> first | rfl | assumption) ?_
      refine ev_bipush (pc := 18) (v := nI 99) dX8_mayDawn_18 kb_99 ?_
      refine ev_icmp_ge (pc := 20) 27 dX8_mayDawn_20 (by decide) (fun c_20 => ?_) (fun c_20 => ?_)
      · (try simp (disch := omega) only [i32_lti, i32_lei, i32_eqi, nI_toInt, i32z] at c_20)
        refine ev_iconst (pc := 27) (v := nI 0) dX8_mayDawn_27 kc_0 ?_
        refine ev_iret (pc := 28) dX8_mayDawn_28 rfl rfl (Nat.le_of_ble_eq_true rfl) (Nat.le_of_ble_eq_true rfl) ?_
        first | exact qb0 (by rw [c_4]; rfl) | exact qb1 (by rw [c_4]; simp; omega) | exact qb0 (by rw [c_4]; simp; omega)
      · (try simp (disch := omega) only [i32_lti, i32_lei, i32_eqi, nI_toInt, i32z] at c_20)
        refine ev_iconst (pc := 23) (v := nI 1) dX8_mayDawn_23 kc_1 ?_
        refine ev_goto (pc := 24) 28 dX8_mayDawn_24 (by decide) ?_
        refine ev_iret (pc := 28) dX8_mayDawn_28 rfl rfl (Nat.le_of_ble_eq_true rfl) (Nat.le_of_ble_eq_true rfl) ?_
        first | exact qb0 (by rw [c_4]; rfl) | exact qb1 (by rw [c_4]; simp; omega) | exact qb0 (by rw [c_4]; simp; omega)
theorem c_passHour (p : pTel h a T) (hh : 0 < tH T) : Ct X 0 mt_X8_passHour [.ref a] (h, z) 0 0 (Qv (fun S' => S'.2 = z ∧ hfr h S'.1 a 4 ∧ pTel S'.1 a (tN T, tH T - 1, tS T, tV T, tB T, tO T, tF T, tA T))) := by
  obtain ⟨ha, ⟨os, ho, l1, l2⟩, hf, ⟨ls, hl, l3, l4⟩, l5⟩ := id p
  refine mk_X8_passHour (Nat.le_of_ble_eq_true rfl) (L := [.ref a]) rfl ?_
  refine ev_aload_n (pc := 0) dX8_passHour_0 rfl ?_
  refine ev_dup (pc := 1) dX8_passHour_1 rfl ?_
  refine gf_X8_31 (pc := 2) rfl dX8_passHour_2 (by (try dsimp only); (repeat (first | rw [up_s] | rw [up_n (by omega)])) <;> first | rfl | assumption) ?_
  refine ev_iconst (pc := 5) (v := nI 1) dX8_passHour_5 kc_1 ?_
  refine ev_isub (pc := 6) dX8_passHour_6 ?_
  rw [nI_sub1 hh]
  refine pf_X8_31 (pc := 7) rfl dX8_passHour_7 (by (try dsimp only); (repeat (first | rw [up_s] | rw [up_n (by omega)])) <;> first | rfl | assumption) ?_
  refine ev_ret (pc := 10) dX8_passHour_10 rfl (Nat.le_of_ble_eq_true rfl) (Nat.le_of_ble_eq_true rfl) ?_
  exact ⟨rfl, rfl, (by intro q hq; first | rfl | ((try dsimp only); (repeat (first | rw [up_n (by omega)])))), (by (try dsimp only); (repeat (first | rw [up_s] | rw [up_n (by omega)])) <;> first | rfl | assumption), ⟨os, (by (try dsimp only); (repeat (first | rw [up_s] | rw [up_n (by omega)])) <;> first | rfl | assumption), l1, l2⟩, (by (try dsimp only); (repeat (first | rw [up_s] | rw [up_n (by omega)])) <;> first | rfl | assumption), ⟨ls, (by (try dsimp only); (repeat (first | rw [up_s] | rw [up_n (by omega)])) <;> first | rfl | assumption), l3, l4⟩, l5⟩
theorem c_tellParts0 {os ls : List Nat} {t k : Nat} (ha : h a = some (.inl (8, [.int (nI (tN T)), .int (nI (tH T)), .int (nI (tS T)), .int (b2i (tV T)), .int (nI (tB T)), .int (nI (mk (tO T))), .int (nI (tO T).length), .ref (a + 1), .ref (a + 2), .ref (a + 3)]))) (ho : h (a + 1) = some (.inr (0, .inl (os.map nI)))) (l1 : os.length = 6) (l2 : os.take (tO T).length = tO T) (hf : h (a + 2) = some (.inr (0, .inl ((tF T).map nI)))) (hl : h (a + 3) = some (.inr (0, .inl (ls.map nI)))) (l3 : ls.length = 6) (l4 : ∀ x : Nat, x < 6 → x ≠ t → (tB T).testBit x = true → gN ls x = gN (tA T) x) (l5 : (tF T).length = 6) (w1 : (tO T).Nodup) (w2 : ∀ x ∈ tO T, x < 6) (w5 : ∀ t : Nat, gN (tF T) t < 100) (w6 : tH T < 100) (w4 : (tO T).length ≤ 6) (w8 : (tA T).length = 6) (ht : (tO T).getLast? = some t) (h1 : 1 ≤ k) (hk : k ≤ gN (tF T) t) (hh : k ≤ tH T) : Ct X 0 mt_X8_tellParts [.ref a, .int (nI t), .int (nI k)] (h, z) 0 0 (Qv (fun S' => S'.2 = z ∧ hfr h S'.1 a 4 ∧ pTel S'.1 a (tPart T t k))) := by
  have hm := List.mem_of_getLast? ht
  have t6 := w2 t hm
  have hF := w5 t
  have hsp := wT.split ht
  have hl2 : (tO T).dropLast.length = (tO T).length - 1 := List.length_dropLast
  have hpos : 0 < (tO T).length := List.length_pos_of_mem hm
  have hmk := mk_lt (l := tO T) w2
  have hnd : t ∉ (tO T).dropLast := by
    have := w1
    rw [hsp, List.nodup_append] at this
    intro q
    exact this.2.2 t q t List.mem_cons_self rfl
  have hclr : mk (tO T) &&& (63 ^^^ (1 <<< t)) = mk (tO T).dropLast := by
    conv => lhs; rw [hsp]
    exact mk_clr (fun x hx => w2 x (List.dropLast_subset _ hx)) t6 hnd
  have hfs : gN ((tF T).set t (gN (tF T) t - k)) t = gN (tF T) t - k := by
    simp [gN, List.getD_eq_getElem?_getD, l5, t6]
  have hls : ∀ x : Nat, x < 6 → (tB T).testBit x = true → gN (ls.set t (tN T)) x = gN ((tA T).set t (tN T)) x := by
    intro x hx hb
    by_cases hq : t = x
    · subst hq; simp [gN, List.getD_eq_getElem?_getD, l3, w8, t6]
    · have := l4 x hx (fun q => hq q.symm) hb
      simp only [gN, List.getD_eq_getElem?_getD, List.getElem?_set] at this ⊢
      rw [if_neg hq, if_neg hq]; exact this
  refine mk_X8_tellParts (Nat.le_of_ble_eq_true rfl) (L := [.ref a, .int (nI t), .int (nI k)]) rfl ?_
  refine ev_iload_n (pc := 0) dX8_tellParts_0 rfl ?_
  refine ev_if_lt (pc := 1) 73 dX8_tellParts_1 (by decide) (fun c_1 => ?_) (fun c_1 => ?_)
  · exfalso; (try simp (disch := omega) only [i32_lti, i32_lei, i32_eqi, nI_toInt, i32z] at c_1); omega
  · (try simp (disch := omega) only [i32_lti, i32_lei, i32_eqi, nI_toInt, i32z] at c_1)
    refine ev_iload_n (pc := 4) dX8_tellParts_4 rfl ?_
    refine ev_bipush (pc := 5) (v := nI 6) dX8_tellParts_5 kb_6 ?_
    refine ev_icmp_ge (pc := 7) 73 dX8_tellParts_7 (by decide) (fun c_7 => ?_) (fun c_7 => ?_)
    · exfalso; (try simp (disch := omega) only [i32_lti, i32_lei, i32_eqi, nI_toInt, i32z] at c_7); omega
    · (try simp (disch := omega) only [i32_lti, i32_lei, i32_eqi, nI_toInt, i32z] at c_7)
      refine ev_aload_n (pc := 10) dX8_tellParts_10 rfl ?_
      refine gf_X8_15 (pc := 11) rfl dX8_tellParts_11 (by (try dsimp only); (repeat (first | rw [up_s] | rw [up_n (by omega)])) <;> first | rfl | assumption) ?_
      refine ev_iload_n (pc := 14) dX8_tellParts_14 rfl ?_
      refine ev_dup2 (pc := 15) dX8_tellParts_15 rfl rfl ?_
      refine ev_iald (pc := 16) dX8_tellParts_16 (by (try dsimp only); (repeat (first | rw [up_s] | rw [up_n (by omega)])) <;> first | rfl | assumption) (nI_toInt (by omega)) (gm (by omega)) ?_
      refine ev_iload_n (pc := 17) dX8_tellParts_17 rfl ?_
      refine ev_isub (pc := 18) dX8_tellParts_18 ?_
      rw [nI_sub hk]
      refine ev_iast (pc := 19) dX8_tellParts_19 (by (try dsimp only); (repeat (first | rw [up_s] | rw [up_n (by omega)])) <;> first | rfl | assumption) (nI_toInt (by omega)) (by simp only [List.length_map, List.length_set, List.length_replicate, List.length_cons, List.length_nil]; omega) ?_
      (try rw [gs])
      refine ev_aload_n (pc := 20) dX8_tellParts_20 rfl ?_
      refine gf_X8_18 (pc := 21) rfl dX8_tellParts_21 (by (try dsimp only); (repeat (first | rw [up_s] | rw [up_n (by omega)])) <;> first | rfl | assumption) ?_
      refine ev_iload_n (pc := 24) dX8_tellParts_24 rfl ?_
      refine ev_aload_n (pc := 25) dX8_tellParts_25 rfl ?_
      refine gf_X8_21 (pc := 26) rfl dX8_tellParts_26 (by (try dsimp only); (repeat (first | rw [up_s] | rw [up_n (by omega)])) <;> first | rfl | assumption) ?_
      refine ev_iast (pc := 29) dX8_tellParts_29 (by (try dsimp only); (repeat (first | rw [up_s] | rw [up_n (by omega)])) <;> first | rfl | assumption) (nI_toInt (by omega)) (by simp only [List.length_map, List.length_set, List.length_replicate, List.length_cons, List.length_nil]; omega) ?_
      (try rw [gs])
      refine ev_aload_n (pc := 30) dX8_tellParts_30 rfl ?_
      refine ev_dup (pc := 31) dX8_tellParts_31 rfl ?_
      refine gf_X8_31 (pc := 32) rfl dX8_tellParts_32 (by (try dsimp only); (repeat (first | rw [up_s] | rw [up_n (by omega)])) <;> first | rfl | assumption) ?_
      refine ev_iload_n (pc := 35) dX8_tellParts_35 rfl ?_
      refine ev_isub (pc := 36) dX8_tellParts_36 ?_
      rw [nI_sub hh]
      refine pf_X8_31 (pc := 37) rfl dX8_tellParts_37 (by (try dsimp only); (repeat (first | rw [up_s] | rw [up_n (by omega)])) <;> first | rfl | assumption) ?_
      refine ev_aload_n (pc := 40) dX8_tellParts_40 rfl ?_
      refine gf_X8_15 (pc := 41) rfl dX8_tellParts_41 (by (try dsimp only); (repeat (first | rw [up_s] | rw [up_n (by omega)])) <;> first | rfl | assumption) ?_
      refine ev_iload_n (pc := 44) dX8_tellParts_44 rfl ?_
      refine ev_iald (pc := 45) dX8_tellParts_45 (by (try dsimp only); (repeat (first | rw [up_s] | rw [up_n (by omega)])) <;> first | rfl | assumption) (nI_toInt (by omega)) (gm (by rw [List.length_set]; omega)) ?_
      rw [hfs]
      refine ev_if_gt (pc := 46) 73 dX8_tellParts_46 (by decide) (fun c_46 => ?_) (fun c_46 => ?_)
      · (try simp (disch := omega) only [i32_lti, i32_lei, i32_eqi, nI_toInt, i32z] at c_46)
        refine ev_ret (pc := 73) dX8_tellParts_73 rfl (Nat.le_of_ble_eq_true rfl) (Nat.le_of_ble_eq_true rfl) ?_
        refine ⟨rfl, rfl, (by intro q hq; first | rfl | ((try dsimp only); (repeat (first | rw [up_n (by omega)])))), ?_⟩
        unfold tPart
        first
          | (rw [if_neg (by omega)]; exact ⟨(by (try dsimp only); (repeat (first | rw [up_s] | rw [up_n (by omega)])) <;> first | rfl | assumption), ⟨os, (by (try dsimp only); (repeat (first | rw [up_s] | rw [up_n (by omega)])) <;> first | rfl | assumption), l1, l2⟩, (by (try dsimp only); (repeat (first | rw [up_s] | rw [up_n (by omega)])) <;> first | rfl | assumption), ⟨_, (by (try dsimp only); (repeat (first | rw [up_s] | rw [up_n (by omega)])) <;> first | rfl | assumption), (List.length_set ..).trans l3, hls⟩, (List.length_set ..).trans l5⟩)
          | (rw [if_pos (by omega)]; exact ⟨(by (try dsimp only); (repeat (first | rw [up_s] | rw [up_n (by omega)])) <;> first | rfl | assumption), ⟨os, (by (try dsimp only); (repeat (first | rw [up_s] | rw [up_n (by omega)])) <;> first | rfl | assumption), l1, take_pop l2⟩, (by (try dsimp only); (repeat (first | rw [up_s] | rw [up_n (by omega)])) <;> first | rfl | assumption), ⟨_, (by (try dsimp only); (repeat (first | rw [up_s] | rw [up_n (by omega)])) <;> first | rfl | assumption), (List.length_set ..).trans l3, hls⟩, (List.length_set ..).trans l5⟩)
      · (try simp (disch := omega) only [i32_lti, i32_lei, i32_eqi, nI_toInt, i32z] at c_46)
        refine ev_aload_n (pc := 49) dX8_tellParts_49 rfl ?_
        refine ev_dup (pc := 50) dX8_tellParts_50 rfl ?_
        refine gf_X8_44 (pc := 51) rfl dX8_tellParts_51 (by (try dsimp only); (repeat (first | rw [up_s] | rw [up_n (by omega)])) <;> first | rfl | assumption) ?_
        refine ev_iconst (pc := 54) (v := nI 1) dX8_tellParts_54 kc_1 ?_
        refine ev_iload_n (pc := 55) dX8_tellParts_55 rfl ?_
        refine ev_ishl (pc := 56) dX8_tellParts_56 ?_
        rw [bt_shl t t6]
        refine ev_iconst (pc := 57) (v := (-1)) dX8_tellParts_57 kc_m1 ?_
        refine ev_ixor (pc := 58) dX8_tellParts_58 ?_
        refine ev_iand (pc := 59) dX8_tellParts_59 ?_
        rw [bt_clr _ hmk _ (bt_shl64 t t6), hclr]
        refine pf_X8_44 (pc := 60) rfl dX8_tellParts_60 (by (try dsimp only); (repeat (first | rw [up_s] | rw [up_n (by omega)])) <;> first | rfl | assumption) ?_
        refine ev_aload_n (pc := 63) dX8_tellParts_63 rfl ?_
        refine ev_dup (pc := 64) dX8_tellParts_64 rfl ?_
        refine gf_X8_47 (pc := 65) rfl dX8_tellParts_65 (by (try dsimp only); (repeat (first | rw [up_s] | rw [up_n (by omega)])) <;> first | rfl | assumption) ?_
        refine ev_iconst (pc := 68) (v := nI 1) dX8_tellParts_68 kc_1 ?_
        refine ev_isub (pc := 69) dX8_tellParts_69 ?_
        rw [nI_sub1 (by omega), ← hl2]
        refine pf_X8_47 (pc := 70) rfl dX8_tellParts_70 (by (try dsimp only); (repeat (first | rw [up_s] | rw [up_n (by omega)])) <;> first | rfl | assumption) ?_
        refine ev_ret (pc := 73) dX8_tellParts_73 rfl (Nat.le_of_ble_eq_true rfl) (Nat.le_of_ble_eq_true rfl) ?_
        refine ⟨rfl, rfl, (by intro q hq; first | rfl | ((try dsimp only); (repeat (first | rw [up_n (by omega)])))), ?_⟩
        unfold tPart
        first
          | (rw [if_neg (by omega)]; exact ⟨(by (try dsimp only); (repeat (first | rw [up_s] | rw [up_n (by omega)])) <;> first | rfl | assumption), ⟨os, (by (try dsimp only); (repeat (first | rw [up_s] | rw [up_n (by omega)])) <;> first | rfl | assumption), l1, l2⟩, (by (try dsimp only); (repeat (first | rw [up_s] | rw [up_n (by omega)])) <;> first | rfl | assumption), ⟨_, (by (try dsimp only); (repeat (first | rw [up_s] | rw [up_n (by omega)])) <;> first | rfl | assumption), (List.length_set ..).trans l3, hls⟩, (List.length_set ..).trans l5⟩)
          | (rw [if_pos (by omega)]; exact ⟨(by (try dsimp only); (repeat (first | rw [up_s] | rw [up_n (by omega)])) <;> first | rfl | assumption), ⟨os, (by (try dsimp only); (repeat (first | rw [up_s] | rw [up_n (by omega)])) <;> first | rfl | assumption), l1, take_pop l2⟩, (by (try dsimp only); (repeat (first | rw [up_s] | rw [up_n (by omega)])) <;> first | rfl | assumption), ⟨_, (by (try dsimp only); (repeat (first | rw [up_s] | rw [up_n (by omega)])) <;> first | rfl | assumption), (List.length_set ..).trans l3, hls⟩, (List.length_set ..).trans l5⟩)
theorem c_tellParts (p : pTel h a T) (w : wT T) {t k : Nat} (ht : (tO T).getLast? = some t) (h1 : 1 ≤ k) (hk : k ≤ gN (tF T) t) (hh : k ≤ tH T) : Ct X 0 mt_X8_tellParts [.ref a, .int (nI t), .int (nI k)] (h, z) 0 0 (Qv (fun S' => S'.2 = z ∧ hfr h S'.1 a 4 ∧ pTel S'.1 a (tPart T t k))) := by
  obtain ⟨ha, ⟨os, ho, l1, l2⟩, hf, ⟨ls, hl, l3, l4⟩, l5⟩ := id p
  obtain ⟨w1, w2, w3, w4, w5, w6, w7, w8, -⟩ := id w
  exact c_tellParts0 ha ho l1 l2 hf hl l3 (fun x hx _ hb => l4 x hx hb) l5 w1 (fun x hx => (w2 x hx).1) w5 w6 w4 w8 ht h1 hk hh
end TELL
