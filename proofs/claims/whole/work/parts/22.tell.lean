/-! ===== Telling, second half ===== -/
theorem ext6 {l m : List Nat} (h1 : l.length = 6) (h2 : m.length = 6) (h : ∀ i : Nat, i < 6 → gN l i = gN m i) : l = m := by
  apply List.ext_getElem (by omega)
  intro i hi hj
  have := h i (by omega)
  simpa [gN, List.getD_eq_getElem?_getD, List.getElem?_eq_getElem hi, List.getElem?_eq_getElem hj] using this
theorem gN_set {l : List Nat} {i j v : Nat} (hj : i < l.length) : gN (l.set i v) j = if j = i then v else gN l j := by
  simp only [gN, List.getD_eq_getElem?_getD, List.getElem?_set]
  by_cases hq : i = j
  · subst hq; simp [hj]
  · rw [if_neg hq, if_neg (fun q => hq q.symm)]
theorem gN_mem {l : List Nat} {i : Nat} (h : i < l.length) : gN l i ∈ l := by
  simp only [gN, List.getD_eq_getElem?_getD, List.getElem?_eq_getElem h, Option.getD_some]
  exact List.getElem_mem h
theorem gN_map {f : Nat → Nat} {n i : Nat} (h : i < n) : gN ((List.range n).map f) i = f i := by
  simp [gN, List.getD_eq_getElem?_getD, List.getElem?_map, List.getElem?_range h]
/-- a telling's cells, whatever they hold -/
def rTel (h : Hp) (a : Nat) : Prop := (∃ x0 x1 x2 x3 x4 x5 x6 : Int32, (x3 = 0 ∨ x3 = 1) ∧ h a = some (.inl (8, [.int x0, .int x1, .int x2, .int x3, .int x4, .int x5, .int x6, .ref (a + 1), .ref (a + 2), .ref (a + 3)]))) ∧ (∃ os : List Nat, h (a + 1) = some (.inr (0, .inl (os.map nI))) ∧ os.length = 6) ∧ (∃ fs : List Nat, h (a + 2) = some (.inr (0, .inl (fs.map nI))) ∧ fs.length = 6) ∧ (∃ ls : List Nat, h (a + 3) = some (.inr (0, .inl (ls.map nI))) ∧ ls.length = 6)
theorem pTel.raw {h : Hp} {a : Nat} {T : Tl} (p : pTel h a T) : rTel h a := by
  obtain ⟨p1, ⟨os, p2, q2, -⟩, p3, ⟨ls, p4, q4, -⟩, p5⟩ := p
  exact ⟨⟨_, _, _, _, _, _, _, b2i_01 _, p1⟩, ⟨os, p2, q2⟩, ⟨_, p3, p5⟩, ⟨ls, p4, q4⟩⟩
theorem rTel.fr {h h' : Hp} {a : Nat} (p : rTel h a) (e : ∀ q : Nat, a ≤ q → q < a + 4 → h' q = h q) : rTel h' a := by
  obtain ⟨p1, p2, p3, p4⟩ := p
  unfold rTel
  rw [e a (by omega) (by omega), e (a + 1) (by omega) (by omega), e (a + 2) (by omega) (by omega), e (a + 3) (by omega) (by omega)]
  exact ⟨p1, p2, p3, p4⟩
theorem inn_eq {T : Tl} {w : Nat} (hw : w < 100) (hm : ∀ t ∈ tO T, t < 6) : nI w = inn T ↔ (tO T).getLast? = some w := by
  unfold inn
  cases hg : (tO T).getLast? with
  | none =>
    refine ⟨fun q => ?_, fun q => by cases q⟩
    rw [i32_eqi, nI_toInt (by omega), i32m9] at q
    omega
  | some t =>
    have := hm t (List.mem_of_getLast? hg)
    show nI w = nI t ↔ _
    rw [nI_eq (by omega) (by omega)]
    exact ⟨fun q => by rw [q], fun q => (Option.some.inj q).symm⟩
def pauseT (T : Tl) : Bool := match (tO T).getLast? with
  | none => true
  | some t => decide (gN (tF T) t = 1)
def goT (T : Tl) : Tl := match (tO T).getLast? with
  | none => (tN T, 0, tS T, tV T, tB T, tO T, tF T, tA T)
  | some t => tPart T t (min (max (gN (tF T) t - 1) 1) (tH T))
def forgT (B : Bk) (T : Tl) : Bool := decide (bM B ≤ tN T - gN (tA T) (gN (tO T) 0))
def dawnOk (B : Bk) (T : Tl) : Bool := decide (0 < (tO T).length) && !forgT B T
def dawnT (B : Bk) (T : Tl) : Tl := if dawnOk B T = true then (tN T + 1, hoN B (tN T + 1), tS T + 1, tV T, tB T, tO T, tF T, tA T) else (tN T, tH T, tS T, false, tB T, tO T, tF T, tA T)
def lfB (B : Bk) : List Nat := (List.range 6).map (fun t => if t < bT B then gN (bP B) t else 0)
def startT (B : Bk) : Tl := (0, hoN B 0, 0, true, 0, [], lfB B, List.replicate 6 0)
def endN (T : Tl) : Nat → Nat
  | 0 => 0
  | n + 1 => endN T n ||| (if (tB T).testBit n = true ∧ gN (tF T) n = 0 then 1 <<< n else 0)
def mayBN (B : Bk) (T : Tl) : Nat → Nat
  | 0 => 0
  | n + 1 => mayBN B T n ||| (if mayN B T n = true then 1 <<< n else 0)
theorem endN_lt (T : Tl) : ∀ n, n ≤ 6 → endN T n < 64
  | 0, _ => by simp [endN]
  | n + 1, h => by
    have := endN_lt T n (by omega)
    unfold endN
    refine bt_or64 _ this _ ?_
    split
    · exact bt_shl64 n (by omega)
    · omega
theorem mayBN_lt (B : Bk) (T : Tl) : ∀ n, n ≤ 6 → mayBN B T n < 64
  | 0, _ => by simp [mayBN]
  | n + 1, h => by
    have := mayBN_lt B T n (by omega)
    unfold mayBN
    refine bt_or64 _ this _ ?_
    split
    · exact bt_shl64 n (by omega)
    · omega
theorem mx_nI {a b : Nat} (ha : a < 2 ^ 31) (hb : b < 2 ^ 31) : (if nI a < nI b then nI b else nI a) = nI (max a b) := by
  by_cases hq : a < b
  · rw [if_pos ((nI_ltI ha hb).mpr hq), Nat.max_eq_right (by omega)]
  · rw [if_neg (fun q => hq ((nI_ltI ha hb).mp q)), Nat.max_eq_left (by omega)]
theorem mn_nI {a b : Nat} (ha : a < 2 ^ 31) (hb : b < 2 ^ 31) : (if nI b < nI a then nI b else nI a) = nI (min a b) := by
  by_cases hq : b < a
  · rw [if_pos ((nI_ltI hb ha).mpr hq), Nat.min_eq_right (by omega)]
  · rw [if_neg (fun q => hq ((nI_ltI hb ha).mp q)), Nat.min_eq_left (by omega)]
section TELL2
variable {X : Cx} {h : Hp} {z a b : Nat} {T : Tl} {B : Bk}
theorem c_mayBegin_no (p : pTel h a T) (hH : tH T < 100) (q : pBook h b B) (h6 : bT B ≤ 6) {t : Int32} (ht : iTn (bT B) t = false) : Ct X 1 mt_X8_mayBegin [.ref a, .ref b, .int t] (h, z) 0 0 (QP (.int (b2i false)) (h, z)) := by
  obtain ⟨ha, -⟩ := id p
  obtain ⟨hb, -⟩ := id q
  refine mk_X8_mayBegin (Nat.le_of_ble_eq_true rfl) (L := [.ref a, .ref b, .int t, .retAddr 0]) rfl ?_
  refine ev_aload_n (pc := 0) dX8_mayBegin_0 rfl ?_
  refine iv_X8_73 (pc := 1) rfl dX8_mayBegin_1 (by (try dsimp only); (repeat (first | rw [up_s] | rw [up_n (by omega)])) <;> first | rfl | assumption) (Nat.le_of_ble_eq_true rfl) (Nat.le_of_ble_eq_true rfl) (Nat.le_of_ble_eq_true rfl) (Nat.le_of_ble_eq_true rfl) (c_hasHour p hH) (kp ?_)
  refine ev_if_eq (pc := 4) 34 dX8_mayBegin_4 (by decide) (fun c_4 => ?_) (fun c_4 => ?_)
  · simp only [b2i_e0, Bool.not_eq_false] at c_4
    refine ev_iconst (pc := 34) (v := nI 0) dX8_mayBegin_34 kc_0 ?_
    refine ev_iret (pc := 35) dX8_mayBegin_35 rfl rfl (Nat.le_of_ble_eq_true rfl) (Nat.le_of_ble_eq_true rfl) ?_
    exact qb0 rfl
  · simp only [b2i_e0, Bool.not_eq_false] at c_4
    refine ev_aload_n (pc := 7) dX8_mayBegin_7 rfl ?_
    refine ev_iload_n (pc := 8) dX8_mayBegin_8 rfl ?_
    refine iv_X8_77 (pc := 9) rfl dX8_mayBegin_9 (by (try dsimp only); (repeat (first | rw [up_s] | rw [up_n (by omega)])) <;> first | rfl | assumption) (Nat.le_of_ble_eq_true rfl) (Nat.le_of_ble_eq_true rfl) (Nat.le_of_ble_eq_true rfl) (Nat.le_of_ble_eq_true rfl) (c_isTale q h6 t) (kp ?_)
    refine ev_if_eq (pc := 12) 34 dX8_mayBegin_12 (by decide) (fun c_12 => ?_) (fun c_12 => ?_)
    · (try simp (disch := omega) only [i32_lti, i32_lei, i32_eqi, nI_toInt, i32z] at c_12)
      refine ev_iconst (pc := 34) (v := nI 0) dX8_mayBegin_34 kc_0 ?_
      refine ev_iret (pc := 35) dX8_mayBegin_35 rfl rfl (Nat.le_of_ble_eq_true rfl) (Nat.le_of_ble_eq_true rfl) ?_
      exact qb0 rfl
    · exact absurd (by rw [ht]; rfl) c_12
theorem c_mayBegin (p : pTel h a T) (w : wT T) (q : pBook h b B) (h6 : bT B ≤ 6) (hd : bD B < 100) (hw : ∀ i : Nat, i < bT B → gN (bW B) i < 10) {k : Nat} (hk : k < bT B) : Ct X 1 mt_X8_mayBegin [.ref a, .ref b, .int (nI k)] (h, z) 0 0 (QP (.int (b2i (mayN B T k))) (h, z)) := by
  obtain ⟨ha, -⟩ := id p
  obtain ⟨hb, -, hW, -, -, l2, -⟩ := id q
  obtain ⟨w1, w2, w3, w4, w5, w6, w7, w8, -⟩ := id w
  have hi : iTn (bT B) (nI k) = true := by rw [iTn_nI (by omega)]; exact decide_eq_true hk
  have hwk := hw k hk
  refine mk_X8_mayBegin (Nat.le_of_ble_eq_true rfl) (L := [.ref a, .ref b, .int (nI k), .retAddr 0]) rfl ?_
  refine ev_aload_n (pc := 0) dX8_mayBegin_0 rfl ?_
  refine iv_X8_73 (pc := 1) rfl dX8_mayBegin_1 (by (try dsimp only); (repeat (first | rw [up_s] | rw [up_n (by omega)])) <;> first | rfl | assumption) (Nat.le_of_ble_eq_true rfl) (Nat.le_of_ble_eq_true rfl) (Nat.le_of_ble_eq_true rfl) (Nat.le_of_ble_eq_true rfl) (c_hasHour p w6) (kp ?_)
  refine ev_if_eq (pc := 4) 34 dX8_mayBegin_4 (by decide) (fun c_4 => ?_) (fun c_4 => ?_)
  · rw [b2i_e0] at c_4
    simp only [Bool.and_eq_false_iff, decide_eq_false_iff_not] at c_4
    refine ev_iconst (pc := 34) (v := nI 0) dX8_mayBegin_34 kc_0 ?_
    refine ev_iret (pc := 35) dX8_mayBegin_35 rfl rfl (Nat.le_of_ble_eq_true rfl) (Nat.le_of_ble_eq_true rfl) ?_
    first
    | (refine qb0 ?_; unfold mayN; rcases c_4 with c | c <;> simp [c]; done)
    | (refine qb0 ?_; unfold mayN; rw [c_20]; simp; done)
    | (refine qb0 ?_; unfold mayN; rw [decide_eq_false (show ¬ (tO T).length < bD B by omega)]; simp; done)
    | (refine qb1 ?_; unfold mayN; rw [c_4.1, c_20, decide_eq_true c_4.2, decide_eq_true (show (tO T).length < bD B by omega), decide_eq_true (show gN (bW B) k = 9 by omega)]; rfl)
    | (refine qb1 ?_; unfold mayN; rw [c_4.1, c_20, decide_eq_true c_4.2, decide_eq_true (show (tO T).length < bD B by omega), decide_eq_true c_54, Bool.or_true]; rfl)
    | (refine qb0 ?_; unfold mayN; rw [decide_eq_false (show ¬ gN (bW B) k = 9 by omega), decide_eq_false c_54]; simp; done)
  · rw [b2i_e0] at c_4
    simp only [Bool.not_eq_false, Bool.and_eq_true, decide_eq_true_eq] at c_4
    refine ev_aload_n (pc := 7) dX8_mayBegin_7 rfl ?_
    refine ev_iload_n (pc := 8) dX8_mayBegin_8 rfl ?_
    refine iv_X8_77 (pc := 9) rfl dX8_mayBegin_9 (by (try dsimp only); (repeat (first | rw [up_s] | rw [up_n (by omega)])) <;> first | rfl | assumption) (Nat.le_of_ble_eq_true rfl) (Nat.le_of_ble_eq_true rfl) (Nat.le_of_ble_eq_true rfl) (Nat.le_of_ble_eq_true rfl) (c_isTale q h6 (nI k)) (kp ?_)
    refine ev_if_eq (pc := 12) 34 dX8_mayBegin_12 (by decide) (fun c_12 => ?_) (fun c_12 => ?_)
    · rw [hi] at c_12; exact absurd c_12 (by decide)
    · (try simp (disch := omega) only [i32_lti, i32_lei, i32_eqi, nI_toInt, i32z] at c_12)
      refine ev_aload_n (pc := 15) dX8_mayBegin_15 rfl ?_
      refine ev_iload_n (pc := 16) dX8_mayBegin_16 rfl ?_
      refine iv_X8_62 (pc := 17) rfl dX8_mayBegin_17 (by (try dsimp only); (repeat (first | rw [up_s] | rw [up_n (by omega)])) <;> first | rfl | assumption) (Nat.le_of_ble_eq_true rfl) (Nat.le_of_ble_eq_true rfl) (Nat.le_of_ble_eq_true rfl) (Nat.le_of_ble_eq_true rfl) (c_isBegun p w3 (by omega)) (kp ?_)
      refine ev_if_ne (pc := 20) 34 dX8_mayBegin_20 (by decide) (fun c_20 => ?_) (fun c_20 => ?_)
      · simp only [b2i_e0, Bool.not_eq_false] at c_20
        refine ev_iconst (pc := 34) (v := nI 0) dX8_mayBegin_34 kc_0 ?_
        refine ev_iret (pc := 35) dX8_mayBegin_35 rfl rfl (Nat.le_of_ble_eq_true rfl) (Nat.le_of_ble_eq_true rfl) ?_
        first
        | (refine qb0 ?_; unfold mayN; rcases c_4 with c | c <;> simp [c]; done)
        | (refine qb0 ?_; unfold mayN; rw [c_20]; simp; done)
        | (refine qb0 ?_; unfold mayN; rw [decide_eq_false (show ¬ (tO T).length < bD B by omega)]; simp; done)
        | (refine qb1 ?_; unfold mayN; rw [c_4.1, c_20, decide_eq_true c_4.2, decide_eq_true (show (tO T).length < bD B by omega), decide_eq_true (show gN (bW B) k = 9 by omega)]; rfl)
        | (refine qb1 ?_; unfold mayN; rw [c_4.1, c_20, decide_eq_true c_4.2, decide_eq_true (show (tO T).length < bD B by omega), decide_eq_true c_54, Bool.or_true]; rfl)
        | (refine qb0 ?_; unfold mayN; rw [decide_eq_false (show ¬ gN (bW B) k = 9 by omega), decide_eq_false c_54]; simp; done)
      · simp only [b2i_e0, Bool.not_eq_false] at c_20
        refine ev_aload_n (pc := 23) dX8_mayBegin_23 rfl ?_
        refine gf_X8_47 (pc := 24) rfl dX8_mayBegin_24 (by (try dsimp only); (repeat (first | rw [up_s] | rw [up_n (by omega)])) <;> first | rfl | assumption) ?_
        refine ev_aload_n (pc := 27) dX8_mayBegin_27 rfl ?_
        refine gf_X8_80 (pc := 28) rfl dX8_mayBegin_28 (by (try dsimp only); (repeat (first | rw [up_s] | rw [up_n (by omega)])) <;> first | rfl | assumption) ?_
        refine ev_icmp_lt (pc := 31) 36 dX8_mayBegin_31 (by decide) (fun c_31 => ?_) (fun c_31 => ?_)
        · (try simp (disch := omega) only [i32_lti, i32_lei, i32_eqi, nI_toInt, i32z] at c_31)
          refine ev_aload_n (pc := 36) dX8_mayBegin_36 rfl ?_
          refine gf_X8_83 (pc := 37) rfl dX8_mayBegin_37 (by (try dsimp only); (repeat (first | rw [up_s] | rw [up_n (by omega)])) <;> first | rfl | assumption) ?_
          refine ev_iload_n (pc := 40) dX8_mayBegin_40 rfl ?_
          refine ev_iald (pc := 41) dX8_mayBegin_41 (by (try dsimp only); (repeat (first | rw [up_s] | rw [up_n (by omega)])) <;> first | rfl | assumption) (nI_toInt (by omega)) (gm (by omega)) ?_
          refine ev_istore_n (pc := 42) (L' := [_, _, _, _]) dX8_mayBegin_42 (Nat.le_of_ble_eq_true rfl) rfl ?_
          refine ev_iload_n (pc := 43) dX8_mayBegin_43 rfl ?_
          refine ev_bipush (pc := 44) (v := nI 9) dX8_mayBegin_44 kb_9 ?_
          refine ev_icmp_eq (pc := 46) 57 dX8_mayBegin_46 (by decide) (fun c_46 => ?_) (fun c_46 => ?_)
          · (try simp (disch := omega) only [i32_lti, i32_lei, i32_eqi, nI_toInt, i32z] at c_46)
            refine ev_iconst (pc := 57) (v := nI 1) dX8_mayBegin_57 kc_1 ?_
            refine ev_goto (pc := 58) 62 dX8_mayBegin_58 (by decide) ?_
            refine ev_iret (pc := 62) dX8_mayBegin_62 rfl rfl (Nat.le_of_ble_eq_true rfl) (Nat.le_of_ble_eq_true rfl) ?_
            first
            | (refine qb0 ?_; unfold mayN; rcases c_4 with c | c <;> simp [c]; done)
            | (refine qb0 ?_; unfold mayN; rw [c_20]; simp; done)
            | (refine qb0 ?_; unfold mayN; rw [decide_eq_false (show ¬ (tO T).length < bD B by omega)]; simp; done)
            | (refine qb1 ?_; unfold mayN; rw [c_4.1, c_20, decide_eq_true c_4.2, decide_eq_true (show (tO T).length < bD B by omega), decide_eq_true (show gN (bW B) k = 9 by omega)]; rfl)
            | (refine qb1 ?_; unfold mayN; rw [c_4.1, c_20, decide_eq_true c_4.2, decide_eq_true (show (tO T).length < bD B by omega), decide_eq_true c_54, Bool.or_true]; rfl)
            | (refine qb0 ?_; unfold mayN; rw [decide_eq_false (show ¬ gN (bW B) k = 9 by omega), decide_eq_false c_54]; simp; done)
          · (try simp (disch := omega) only [i32_lti, i32_lei, i32_eqi, nI_toInt, i32z] at c_46)
            refine ev_iload_n (pc := 49) dX8_mayBegin_49 rfl ?_
            refine ev_aload_n (pc := 50) dX8_mayBegin_50 rfl ?_
            refine iv_X8_86 (pc := 51) rfl dX8_mayBegin_51 (by (try dsimp only); (repeat (first | rw [up_s] | rw [up_n (by omega)])) <;> first | rfl | assumption) (Nat.le_of_ble_eq_true rfl) (Nat.le_of_ble_eq_true rfl) (Nat.le_of_ble_eq_true rfl) (Nat.le_of_ble_eq_true rfl) (c_innermost p w4) (kp ?_)
            refine ev_icmp_ne (pc := 54) 61 dX8_mayBegin_54 (by decide) (fun c_54 => ?_) (fun c_54 => ?_)
            · rw [inn_eq (by omega) (fun t ht => (w2 t ht).1)] at c_54
              refine ev_iconst (pc := 61) (v := nI 0) dX8_mayBegin_61 kc_0 ?_
              refine ev_iret (pc := 62) dX8_mayBegin_62 rfl rfl (Nat.le_of_ble_eq_true rfl) (Nat.le_of_ble_eq_true rfl) ?_
              first
              | (refine qb0 ?_; unfold mayN; rcases c_4 with c | c <;> simp [c]; done)
              | (refine qb0 ?_; unfold mayN; rw [c_20]; simp; done)
              | (refine qb0 ?_; unfold mayN; rw [decide_eq_false (show ¬ (tO T).length < bD B by omega)]; simp; done)
              | (refine qb1 ?_; unfold mayN; rw [c_4.1, c_20, decide_eq_true c_4.2, decide_eq_true (show (tO T).length < bD B by omega), decide_eq_true (show gN (bW B) k = 9 by omega)]; rfl)
              | (refine qb1 ?_; unfold mayN; rw [c_4.1, c_20, decide_eq_true c_4.2, decide_eq_true (show (tO T).length < bD B by omega), decide_eq_true c_54, Bool.or_true]; rfl)
              | (refine qb0 ?_; unfold mayN; rw [decide_eq_false (show ¬ gN (bW B) k = 9 by omega), decide_eq_false c_54]; simp; done)
            · rw [inn_eq (by omega) (fun t ht => (w2 t ht).1)] at c_54
              refine ev_iconst (pc := 57) (v := nI 1) dX8_mayBegin_57 kc_1 ?_
              refine ev_goto (pc := 58) 62 dX8_mayBegin_58 (by decide) ?_
              refine ev_iret (pc := 62) dX8_mayBegin_62 rfl rfl (Nat.le_of_ble_eq_true rfl) (Nat.le_of_ble_eq_true rfl) ?_
              first
              | (refine qb0 ?_; unfold mayN; rcases c_4 with c | c <;> simp [c]; done)
              | (refine qb0 ?_; unfold mayN; rw [c_20]; simp; done)
              | (refine qb0 ?_; unfold mayN; rw [decide_eq_false (show ¬ (tO T).length < bD B by omega)]; simp; done)
              | (refine qb1 ?_; unfold mayN; rw [c_4.1, c_20, decide_eq_true c_4.2, decide_eq_true (show (tO T).length < bD B by omega), decide_eq_true (show gN (bW B) k = 9 by omega)]; rfl)
              | (refine qb1 ?_; unfold mayN; rw [c_4.1, c_20, decide_eq_true c_4.2, decide_eq_true (show (tO T).length < bD B by omega), decide_eq_true c_54, Bool.or_true]; rfl)
              | (refine qb0 ?_; unfold mayN; rw [decide_eq_false (show ¬ gN (bW B) k = 9 by omega), decide_eq_false c_54]; simp; done)
        · (try simp (disch := omega) only [i32_lti, i32_lei, i32_eqi, nI_toInt, i32z] at c_31)
          refine ev_iconst (pc := 34) (v := nI 0) dX8_mayBegin_34 kc_0 ?_
          refine ev_iret (pc := 35) dX8_mayBegin_35 rfl rfl (Nat.le_of_ble_eq_true rfl) (Nat.le_of_ble_eq_true rfl) ?_
          first
          | (refine qb0 ?_; unfold mayN; rcases c_4 with c | c <;> simp [c]; done)
          | (refine qb0 ?_; unfold mayN; rw [c_20]; simp; done)
          | (refine qb0 ?_; unfold mayN; rw [decide_eq_false (show ¬ (tO T).length < bD B by omega)]; simp; done)
          | (refine qb1 ?_; unfold mayN; rw [c_4.1, c_20, decide_eq_true c_4.2, decide_eq_true (show (tO T).length < bD B by omega), decide_eq_true (show gN (bW B) k = 9 by omega)]; rfl)
          | (refine qb1 ?_; unfold mayN; rw [c_4.1, c_20, decide_eq_true c_4.2, decide_eq_true (show (tO T).length < bD B by omega), decide_eq_true c_54, Bool.or_true]; rfl)
          | (refine qb0 ?_; unfold mayN; rw [decide_eq_false (show ¬ gN (bW B) k = 9 by omega), decide_eq_false c_54]; simp; done)
theorem c_placeOf (p : pTel h a T) (w : wT T) {k : Nat} (hk : k < 100) : Ct X 1 mt_X8_placeOf [.ref a, .int (nI k)] (h, z) 0 0 (QP (.int (if k ∈ tO T then nI ((tO T).idxOf k) else -9)) (h, z)) := by
  obtain ⟨ha, -⟩ := id p
  obtain ⟨w1, w2, w3, w4, -⟩ := id w
  refine mk_X8_placeOf (Nat.le_of_ble_eq_true rfl) (L := [.ref a, .int (nI k), .retAddr 0]) rfl ?_
  have loop : ∀ (n i : Nat), (tO T).length - i = n → i ≤ (tO T).length → (∀ j : Nat, j < i → gN (tO T) j ≠ k) → Ev X (mi_X8_placeOf 1 0 0) (QP (.int (if k ∈ tO T then nI ((tO T).idxOf k) else -9)) (h, z)) 0 0 (h, z) 2 [.ref a, .int (nI k), .int (nI i)] [] := by
    intro n
    induction n with
    | zero =>
      intro i hn hi hj
      have hi2 : i = (tO T).length := by omega
      subst hi2
      have hno : k ∉ tO T := by
        intro q
        obtain ⟨j, hj1, hj2⟩ := List.getElem_of_mem q
        exact hj j hj1 (by simp [gN, List.getD_eq_getElem?_getD, List.getElem?_eq_getElem hj1, hj2])
      refine ev_iload_n (pc := 2) dX8_placeOf_2 rfl ?_
      refine ev_aload_n (pc := 3) dX8_placeOf_3 rfl ?_
      refine gf_X8_47 (pc := 4) rfl dX8_placeOf_4 (by (try dsimp only); (repeat (first | rw [up_s] | rw [up_n (by omega)])) <;> first | rfl | assumption) ?_
      refine ev_icmp_ge (pc := 7) 27 dX8_placeOf_7 (by decide) (fun c_7 => ?_) (fun c_7 => ?_)
      · (try simp (disch := omega) only [i32_lti, i32_lei, i32_eqi, nI_toInt, i32z] at c_7)
        refine ev_bipush (pc := 27) (v := (-9)) dX8_placeOf_27 kb_m9 ?_
        refine ev_iret (pc := 29) dX8_placeOf_29 rfl rfl (Nat.le_of_ble_eq_true rfl) (Nat.le_of_ble_eq_true rfl) ?_
        exact ⟨by rw [if_neg hno], rfl⟩
      · exfalso; (try simp (disch := omega) only [i32_lti, i32_lei, i32_eqi, nI_toInt, i32z] at c_7); omega
    | succ n ih =>
      intro i hn hi hj
      have hg6 := (w2 _ (gN_mem (l := tO T) (i := i) (by omega))).1
      refine ev_iload_n (pc := 2) dX8_placeOf_2 rfl ?_
      refine ev_aload_n (pc := 3) dX8_placeOf_3 rfl ?_
      refine gf_X8_47 (pc := 4) rfl dX8_placeOf_4 (by (try dsimp only); (repeat (first | rw [up_s] | rw [up_n (by omega)])) <;> first | rfl | assumption) ?_
      refine ev_icmp_ge (pc := 7) 27 dX8_placeOf_7 (by decide) (fun c_7 => ?_) (fun c_7 => ?_)
      · exfalso; (try simp (disch := omega) only [i32_lti, i32_lei, i32_eqi, nI_toInt, i32z] at c_7); omega
      · (try simp (disch := omega) only [i32_lti, i32_lei, i32_eqi, nI_toInt, i32z] at c_7)
        refine ev_aload_n (pc := 10) dX8_placeOf_10 rfl ?_
        refine ev_iload_n (pc := 11) dX8_placeOf_11 rfl ?_
        refine iv_X8_59 (pc := 12) rfl dX8_placeOf_12 (by (try dsimp only); (repeat (first | rw [up_s] | rw [up_n (by omega)])) <;> first | rfl | assumption) (Nat.le_of_ble_eq_true rfl) (Nat.le_of_ble_eq_true rfl) (Nat.le_of_ble_eq_true rfl) (Nat.le_of_ble_eq_true rfl) (c_openAt p (k := i) (by omega) w4) (kp ?_)
        refine ev_iload_n (pc := 15) dX8_placeOf_15 rfl ?_
        refine ev_icmp_ne (pc := 16) 21 dX8_placeOf_16 (by decide) (fun c_16 => ?_) (fun c_16 => ?_)
        · (try simp (disch := omega) only [i32_lti, i32_lei, i32_eqi, nI_toInt, i32z] at c_16)
          refine ev_iinc (pc := 21) (L' := [_, _, _]) dX8_placeOf_21 rfl (nI_1 _) rfl ?_
          refine ev_goto (pc := 24) 2 dX8_placeOf_24 (by decide) ?_
          refine ih (i + 1) (by omega) (by omega) (fun j hj2 => ?_)
          by_cases hji : j = i
          · subst hji; omega
          · exact hj j (by omega)
        · (try simp (disch := omega) only [i32_lti, i32_lei, i32_eqi, nI_toInt, i32z] at c_16)
          refine ev_iload_n (pc := 19) dX8_placeOf_19 rfl ?_
          refine ev_iret (pc := 20) dX8_placeOf_20 rfl rfl (Nat.le_of_ble_eq_true rfl) (Nat.le_of_ble_eq_true rfl) ?_
          refine ⟨?_, rfl⟩
          have e1 : gN (tO T) i = k := by omega
          have hil : i < (tO T).length := by omega
          have hget : (tO T)[i] = k := by rw [← e1]; simp [gN, List.getD_eq_getElem?_getD, List.getElem?_eq_getElem hil]
          have hmem : k ∈ tO T := by rw [← e1]; exact gN_mem hil
          rw [if_pos hmem, ← hget, w1.idxOf_getElem i hil]
  refine ev_iconst (pc := 0) (v := nI 0) dX8_placeOf_0 kc_0 ?_
  refine ev_istore_n (pc := 1) (L' := [_, _, _]) dX8_placeOf_1 (Nat.le_of_ble_eq_true rfl) rfl ?_
  exact loop _ 0 rfl (Nat.zero_le _) (fun j hj => by omega)
theorem c_endedBits (p : pTel h a T) (w : wT T) : Ct X 1 mt_X8_endedBits [.ref a] (h, z) 0 0 (QP (.int (nI (endN T 6))) (h, z)) := by
  obtain ⟨ha, -, hf, -, l5⟩ := id p
  obtain ⟨w1, w2, w3, w4, w5, -⟩ := id w
  refine mk_X8_endedBits (Nat.le_of_ble_eq_true rfl) (L := [.ref a, .retAddr 0, .retAddr 0]) rfl ?_
  have loop : ∀ (n i : Nat), 6 - i = n → i ≤ 6 → Ev X (mi_X8_endedBits 1 0 0) (QP (.int (nI (endN T 6))) (h, z)) 0 0 (h, z) 4 [.ref a, .int (nI (endN T i)), .int (nI i)] [] := by
    intro n
    induction n with
    | zero =>
      intro i hn hi
      have hi2 : i = 6 := by omega
      subst hi2
      refine ev_iload_n (pc := 4) dX8_endedBits_4 rfl ?_
      refine ev_bipush (pc := 5) (v := nI 6) dX8_endedBits_5 kb_6 ?_
      refine ev_icmp_ge (pc := 7) 43 dX8_endedBits_7 (by decide) (fun c_7 => ?_) (fun c_7 => ?_)
      · (try simp (disch := omega) only [i32_lti, i32_lei, i32_eqi, nI_toInt, i32z] at c_7)
        refine ev_iload_n (pc := 43) dX8_endedBits_43 rfl ?_
        refine ev_iret (pc := 44) dX8_endedBits_44 rfl rfl (Nat.le_of_ble_eq_true rfl) (Nat.le_of_ble_eq_true rfl) ?_
        exact ⟨rfl, rfl⟩
      · exfalso; (try simp (disch := omega) only [i32_lti, i32_lei, i32_eqi, nI_toInt, i32z] at c_7); omega
    | succ n ih =>
      intro i hn hi
      have h64 := endN_lt T i hi
      have hF := w5 i
      have es : endN T (i + 1) = endN T i ||| (if (tB T).testBit i = true ∧ gN (tF T) i = 0 then 1 <<< i else 0) := rfl
      refine ev_iload_n (pc := 4) dX8_endedBits_4 rfl ?_
      refine ev_bipush (pc := 5) (v := nI 6) dX8_endedBits_5 kb_6 ?_
      refine ev_icmp_ge (pc := 7) 43 dX8_endedBits_7 (by decide) (fun c_7 => ?_) (fun c_7 => ?_)
      · exfalso; (try simp (disch := omega) only [i32_lti, i32_lei, i32_eqi, nI_toInt, i32z] at c_7); omega
      · (try simp (disch := omega) only [i32_lti, i32_lei, i32_eqi, nI_toInt, i32z] at c_7)
        refine ev_iload_n (pc := 10) dX8_endedBits_10 rfl ?_
        refine ev_aload_n (pc := 11) dX8_endedBits_11 rfl ?_
        refine ev_iload_n (pc := 12) dX8_endedBits_12 rfl ?_
        refine iv_X8_62 (pc := 13) rfl dX8_endedBits_13 (by (try dsimp only); (repeat (first | rw [up_s] | rw [up_n (by omega)])) <;> first | rfl | assumption) (Nat.le_of_ble_eq_true rfl) (Nat.le_of_ble_eq_true rfl) (Nat.le_of_ble_eq_true rfl) (Nat.le_of_ble_eq_true rfl) (c_isBegun p w3 (by omega)) (kp ?_)
        refine ev_if_eq (pc := 16) 34 dX8_endedBits_16 (by decide) (fun c_16 => ?_) (fun c_16 => ?_)
        · simp only [b2i_e0, Bool.not_eq_false] at c_16
          rw [if_neg (fun q => by rw [c_16] at q; cases q.1)] at es
          refine ev_iconst (pc := 34) (v := nI 0) dX8_endedBits_34 kc_0 ?_
          refine ev_ior (pc := 35) dX8_endedBits_35 ?_
          first | rw [bt_or _ h64 _ (bt_shl64 i (by omega)), ← es] | rw [bt_or _ h64 _ (by omega), ← es]
          refine ev_istore_n (pc := 36) (L' := [_, _, _]) dX8_endedBits_36 (Nat.le_of_ble_eq_true rfl) rfl ?_
          refine ev_iinc (pc := 37) (L' := [_, _, _]) dX8_endedBits_37 rfl (nI_1 _) rfl ?_
          refine ev_goto (pc := 40) 4 dX8_endedBits_40 (by decide) ?_
          exact ih (i + 1) (by omega) (by omega)
        · simp only [b2i_e0, Bool.not_eq_false] at c_16
          refine ev_aload_n (pc := 19) dX8_endedBits_19 rfl ?_
          refine gf_X8_15 (pc := 20) rfl dX8_endedBits_20 (by (try dsimp only); (repeat (first | rw [up_s] | rw [up_n (by omega)])) <;> first | rfl | assumption) ?_
          refine ev_iload_n (pc := 23) dX8_endedBits_23 rfl ?_
          refine ev_iald (pc := 24) dX8_endedBits_24 (by (try dsimp only); (repeat (first | rw [up_s] | rw [up_n (by omega)])) <;> first | rfl | assumption) (nI_toInt (by omega)) (gm (by omega)) ?_
          refine ev_if_ne (pc := 25) 34 dX8_endedBits_25 (by decide) (fun c_25 => ?_) (fun c_25 => ?_)
          · (try simp (disch := omega) only [i32_lti, i32_lei, i32_eqi, nI_toInt, i32z] at c_25)
            rw [if_neg (fun q => by omega)] at es
            refine ev_iconst (pc := 34) (v := nI 0) dX8_endedBits_34 kc_0 ?_
            refine ev_ior (pc := 35) dX8_endedBits_35 ?_
            first | rw [bt_or _ h64 _ (bt_shl64 i (by omega)), ← es] | rw [bt_or _ h64 _ (by omega), ← es]
            refine ev_istore_n (pc := 36) (L' := [_, _, _]) dX8_endedBits_36 (Nat.le_of_ble_eq_true rfl) rfl ?_
            refine ev_iinc (pc := 37) (L' := [_, _, _]) dX8_endedBits_37 rfl (nI_1 _) rfl ?_
            refine ev_goto (pc := 40) 4 dX8_endedBits_40 (by decide) ?_
            exact ih (i + 1) (by omega) (by omega)
          · (try simp (disch := omega) only [i32_lti, i32_lei, i32_eqi, nI_toInt, i32z] at c_25)
            rw [if_pos ⟨c_16, by omega⟩] at es
            refine ev_iconst (pc := 28) (v := nI 1) dX8_endedBits_28 kc_1 ?_
            refine ev_iload_n (pc := 29) dX8_endedBits_29 rfl ?_
            refine ev_ishl (pc := 30) dX8_endedBits_30 ?_
            rw [bt_shl i (by omega)]
            refine ev_goto (pc := 31) 35 dX8_endedBits_31 (by decide) ?_
            refine ev_ior (pc := 35) dX8_endedBits_35 ?_
            first | rw [bt_or _ h64 _ (bt_shl64 i (by omega)), ← es] | rw [bt_or _ h64 _ (by omega), ← es]
            refine ev_istore_n (pc := 36) (L' := [_, _, _]) dX8_endedBits_36 (Nat.le_of_ble_eq_true rfl) rfl ?_
            refine ev_iinc (pc := 37) (L' := [_, _, _]) dX8_endedBits_37 rfl (nI_1 _) rfl ?_
            refine ev_goto (pc := 40) 4 dX8_endedBits_40 (by decide) ?_
            exact ih (i + 1) (by omega) (by omega)
  refine ev_iconst (pc := 0) (v := nI 0) dX8_endedBits_0 kc_0 ?_
  refine ev_istore_n (pc := 1) (L' := [_, _, _]) dX8_endedBits_1 (Nat.le_of_ble_eq_true rfl) rfl ?_
  refine ev_iconst (pc := 2) (v := nI 0) dX8_endedBits_2 kc_0 ?_
  refine ev_istore_n (pc := 3) (L' := [_, _, _]) dX8_endedBits_3 (Nat.le_of_ble_eq_true rfl) rfl ?_
  exact loop _ 0 rfl (Nat.zero_le _)
theorem c_mayBeginBits (p : pTel h a T) (w : wT T) (q : pBook h b B) (h6 : bT B ≤ 6) (hd : bD B < 100) (hw : ∀ i : Nat, i < bT B → gN (bW B) i < 10) : Ct X 2 mt_X8_mayBeginBits [.ref a, .ref b] (h, z) 0 0 (QP (.int (nI (mayBN B T (bT B)))) (h, z)) := by
  obtain ⟨ha, -⟩ := id p
  obtain ⟨hb, -⟩ := id q
  refine mk_X8_mayBeginBits (Nat.le_of_ble_eq_true rfl) (L := [.ref a, .ref b, .retAddr 0, .retAddr 0]) rfl ?_
  have loop : ∀ (n i : Nat), bT B - i = n → i ≤ bT B → Ev X (mi_X8_mayBeginBits 2 0 0) (QP (.int (nI (mayBN B T (bT B)))) (h, z)) 0 0 (h, z) 4 [.ref a, .ref b, .int (nI (mayBN B T i)), .int (nI i)] [] := by
    intro n
    induction n with
    | zero =>
      intro i hn hi
      have hi2 : i = bT B := by omega
      subst hi2
      refine ev_iload_n (pc := 4) dX8_mayBeginBits_4 rfl ?_
      refine ev_aload_n (pc := 5) dX8_mayBeginBits_5 rfl ?_
      refine gf_X8_66 (pc := 6) rfl dX8_mayBeginBits_6 (by (try dsimp only); (repeat (first | rw [up_s] | rw [up_n (by omega)])) <;> first | rfl | assumption) ?_
      refine ev_icmp_ge (pc := 9) 37 dX8_mayBeginBits_9 (by decide) (fun c_9 => ?_) (fun c_9 => ?_)
      · (try simp (disch := omega) only [i32_lti, i32_lei, i32_eqi, nI_toInt, i32z] at c_9)
        refine ev_iload_n (pc := 37) dX8_mayBeginBits_37 rfl ?_
        refine ev_iret (pc := 38) dX8_mayBeginBits_38 rfl rfl (Nat.le_of_ble_eq_true rfl) (Nat.le_of_ble_eq_true rfl) ?_
        exact ⟨rfl, rfl⟩
      · exfalso; (try simp (disch := omega) only [i32_lti, i32_lei, i32_eqi, nI_toInt, i32z] at c_9); omega
    | succ n ih =>
      intro i hn hi
      have h64 := mayBN_lt B T i (by omega)
      have es : mayBN B T (i + 1) = mayBN B T i ||| (if mayN B T i = true then 1 <<< i else 0) := rfl
      refine ev_iload_n (pc := 4) dX8_mayBeginBits_4 rfl ?_
      refine ev_aload_n (pc := 5) dX8_mayBeginBits_5 rfl ?_
      refine gf_X8_66 (pc := 6) rfl dX8_mayBeginBits_6 (by (try dsimp only); (repeat (first | rw [up_s] | rw [up_n (by omega)])) <;> first | rfl | assumption) ?_
      refine ev_icmp_ge (pc := 9) 37 dX8_mayBeginBits_9 (by decide) (fun c_9 => ?_) (fun c_9 => ?_)
      · exfalso; (try simp (disch := omega) only [i32_lti, i32_lei, i32_eqi, nI_toInt, i32z] at c_9); omega
      · (try simp (disch := omega) only [i32_lti, i32_lei, i32_eqi, nI_toInt, i32z] at c_9)
        refine ev_iload_n (pc := 12) dX8_mayBeginBits_12 rfl ?_
        refine ev_aload_n (pc := 13) dX8_mayBeginBits_13 rfl ?_
        refine ev_aload_n (pc := 14) dX8_mayBeginBits_14 rfl ?_
        refine ev_iload_n (pc := 15) dX8_mayBeginBits_15 rfl ?_
        refine iv_X8_69 (pc := 16) rfl dX8_mayBeginBits_16 (by (try dsimp only); (repeat (first | rw [up_s] | rw [up_n (by omega)])) <;> first | rfl | assumption) (Nat.le_of_ble_eq_true rfl) (Nat.le_of_ble_eq_true rfl) (Nat.le_of_ble_eq_true rfl) (Nat.le_of_ble_eq_true rfl) (c_mayBegin p w q h6 hd hw (k := i) (by omega)) (kp ?_)
        refine ev_if_eq (pc := 19) 28 dX8_mayBeginBits_19 (by decide) (fun c_19 => ?_) (fun c_19 => ?_)
        · simp only [b2i_e0, Bool.not_eq_false] at c_19
          rw [if_neg (fun q => by rw [c_19] at q; cases q)] at es
          refine ev_iconst (pc := 28) (v := nI 0) dX8_mayBeginBits_28 kc_0 ?_
          refine ev_ior (pc := 29) dX8_mayBeginBits_29 ?_
          first | rw [bt_or _ h64 _ (bt_shl64 i (by omega)), ← es] | rw [bt_or _ h64 _ (by omega), ← es]
          refine ev_istore_n (pc := 30) (L' := [_, _, _, _]) dX8_mayBeginBits_30 (Nat.le_of_ble_eq_true rfl) rfl ?_
          refine ev_iinc (pc := 31) (L' := [_, _, _, _]) dX8_mayBeginBits_31 rfl (nI_1 _) rfl ?_
          refine ev_goto (pc := 34) 4 dX8_mayBeginBits_34 (by decide) ?_
          exact ih (i + 1) (by omega) (by omega)
        · simp only [b2i_e0, Bool.not_eq_false] at c_19
          rw [if_pos c_19] at es
          refine ev_iconst (pc := 22) (v := nI 1) dX8_mayBeginBits_22 kc_1 ?_
          refine ev_iload_n (pc := 23) dX8_mayBeginBits_23 rfl ?_
          refine ev_ishl (pc := 24) dX8_mayBeginBits_24 ?_
          rw [bt_shl i (by omega)]
          refine ev_goto (pc := 25) 29 dX8_mayBeginBits_25 (by decide) ?_
          refine ev_ior (pc := 29) dX8_mayBeginBits_29 ?_
          first | rw [bt_or _ h64 _ (bt_shl64 i (by omega)), ← es] | rw [bt_or _ h64 _ (by omega), ← es]
          refine ev_istore_n (pc := 30) (L' := [_, _, _, _]) dX8_mayBeginBits_30 (Nat.le_of_ble_eq_true rfl) rfl ?_
          refine ev_iinc (pc := 31) (L' := [_, _, _, _]) dX8_mayBeginBits_31 rfl (nI_1 _) rfl ?_
          refine ev_goto (pc := 34) 4 dX8_mayBeginBits_34 (by decide) ?_
          exact ih (i + 1) (by omega) (by omega)
  refine ev_iconst (pc := 0) (v := nI 0) dX8_mayBeginBits_0 kc_0 ?_
  refine ev_istore_n (pc := 1) (L' := [_, _, _, _]) dX8_mayBeginBits_1 (Nat.le_of_ble_eq_true rfl) rfl ?_
  refine ev_iconst (pc := 2) (v := nI 0) dX8_mayBeginBits_2 kc_0 ?_
  refine ev_istore_n (pc := 3) (L' := [_, _, _, _]) dX8_mayBeginBits_3 (Nat.le_of_ble_eq_true rfl) rfl ?_
  exact loop _ 0 rfl (Nat.zero_le _)
theorem c_bitOf {t : Nat} (ht : t < 6) : Ct X 0 mt_X8_bitOf [.int (nI t)] (h, z) 0 0 (QP (.int (nI (1 <<< t))) (h, z)) := by
  refine mk_X8_bitOf (Nat.le_of_ble_eq_true rfl) (L := [.int (nI t)]) rfl ?_
  refine ev_iload_n (pc := 0) dX8_bitOf_0 rfl ?_
  refine ev_if_lt (pc := 1) 16 dX8_bitOf_1 (by decide) (fun c_1 => ?_) (fun c_1 => ?_)
  · exfalso; (try simp (disch := omega) only [i32_lti, i32_lei, i32_eqi, nI_toInt, i32z] at c_1); omega
  · (try simp (disch := omega) only [i32_lti, i32_lei, i32_eqi, nI_toInt, i32z] at c_1)
    refine ev_iload_n (pc := 4) dX8_bitOf_4 rfl ?_
    refine ev_bipush (pc := 5) (v := nI 6) dX8_bitOf_5 kb_6 ?_
    refine ev_icmp_ge (pc := 7) 16 dX8_bitOf_7 (by decide) (fun c_7 => ?_) (fun c_7 => ?_)
    · exfalso; (try simp (disch := omega) only [i32_lti, i32_lei, i32_eqi, nI_toInt, i32z] at c_7); omega
    · (try simp (disch := omega) only [i32_lti, i32_lei, i32_eqi, nI_toInt, i32z] at c_7)
      refine ev_iconst (pc := 10) (v := nI 1) dX8_bitOf_10 kc_1 ?_
      refine ev_iload_n (pc := 11) dX8_bitOf_11 rfl ?_
      refine ev_ishl (pc := 12) dX8_bitOf_12 ?_
      rw [bt_shl t ht]
      refine ev_goto (pc := 13) 17 dX8_bitOf_13 (by decide) ?_
      refine ev_iret (pc := 17) dX8_bitOf_17 rfl rfl (Nat.le_of_ble_eq_true rfl) (Nat.le_of_ble_eq_true rfl) ?_
      exact ⟨rfl, rfl⟩
theorem c_isPause (p : pTel h a T) (w : wT T) : Ct X 1 mt_X8_isPause [.ref a] (h, z) 0 0 (QP (.int (b2i (pauseT T))) (h, z)) := by
  obtain ⟨ha, -⟩ := id p
  obtain ⟨w1, w2, w3, w4, w5, -⟩ := id w
  refine mk_X8_isPause (Nat.le_of_ble_eq_true rfl) (L := [.ref a]) rfl ?_
  rcases hg : (tO T).getLast? with _ | t
  · have e0 : (tO T).length = 0 := by rw [List.getLast?_eq_none_iff.mp hg]; rfl
    have e1 : pauseT T = true := by unfold pauseT; rw [hg]
    refine ev_aload_n (pc := 0) dX8_isPause_0 rfl ?_
    refine gf_X8_47 (pc := 1) rfl dX8_isPause_1 (by (try dsimp only); (repeat (first | rw [up_s] | rw [up_n (by omega)])) <;> first | rfl | assumption) ?_
    refine ev_if_eq (pc := 4) 19 dX8_isPause_4 (by decide) (fun c_4 => ?_) (fun c_4 => ?_)
    · (try simp (disch := omega) only [i32_lti, i32_lei, i32_eqi, nI_toInt, i32z] at c_4)
      refine ev_iconst (pc := 19) (v := nI 1) dX8_isPause_19 kc_1 ?_
      refine ev_goto (pc := 20) 24 dX8_isPause_20 (by decide) ?_
      refine ev_iret (pc := 24) dX8_isPause_24 rfl rfl (Nat.le_of_ble_eq_true rfl) (Nat.le_of_ble_eq_true rfl) ?_
      exact qb1 e1
    · exfalso; (try simp (disch := omega) only [i32_lti, i32_lei, i32_eqi, nI_toInt, i32z] at c_4); omega
  · have hm := List.mem_of_getLast? hg
    have e0 := List.length_pos_of_mem hm
    have e1 : pauseT T = decide (gN (tF T) t = 1) := by unfold pauseT; rw [hg]
    have e2 : inn T = nI t := by unfold inn; rw [hg]
    have hF := w5 t
    refine ev_aload_n (pc := 0) dX8_isPause_0 rfl ?_
    refine gf_X8_47 (pc := 1) rfl dX8_isPause_1 (by (try dsimp only); (repeat (first | rw [up_s] | rw [up_n (by omega)])) <;> first | rfl | assumption) ?_
    refine ev_if_eq (pc := 4) 19 dX8_isPause_4 (by decide) (fun c_4 => ?_) (fun c_4 => ?_)
    · exfalso; (try simp (disch := omega) only [i32_lti, i32_lei, i32_eqi, nI_toInt, i32z] at c_4); omega
    · (try simp (disch := omega) only [i32_lti, i32_lei, i32_eqi, nI_toInt, i32z] at c_4)
      refine ev_aload_n (pc := 7) dX8_isPause_7 rfl ?_
      refine ev_aload_n (pc := 8) dX8_isPause_8 rfl ?_
      refine iv_X8_86 (pc := 9) rfl dX8_isPause_9 (by (try dsimp only); (repeat (first | rw [up_s] | rw [up_n (by omega)])) <;> first | rfl | assumption) (Nat.le_of_ble_eq_true rfl) (Nat.le_of_ble_eq_true rfl) (Nat.le_of_ble_eq_true rfl) (Nat.le_of_ble_eq_true rfl) (c_innermost p w4) (kp ?_)
      rw [e2]
      refine iv_X8_94 (pc := 12) rfl dX8_isPause_12 (by (try dsimp only); (repeat (first | rw [up_s] | rw [up_n (by omega)])) <;> first | rfl | assumption) (Nat.le_of_ble_eq_true rfl) (Nat.le_of_ble_eq_true rfl) (Nat.le_of_ble_eq_true rfl) (Nat.le_of_ble_eq_true rfl) (c_leftOf p (w2 t hm).1) (kp ?_)
      refine ev_iconst (pc := 15) (v := nI 1) dX8_isPause_15 kc_1 ?_
      refine ev_icmp_ne (pc := 16) 23 dX8_isPause_16 (by decide) (fun c_16 => ?_) (fun c_16 => ?_)
      · (try simp (disch := omega) only [i32_lti, i32_lei, i32_eqi, nI_toInt, i32z] at c_16)
        refine ev_iconst (pc := 23) (v := nI 0) dX8_isPause_23 kc_0 ?_
        refine ev_iret (pc := 24) dX8_isPause_24 rfl rfl (Nat.le_of_ble_eq_true rfl) (Nat.le_of_ble_eq_true rfl) ?_
        first | exact qb1 (by rw [e1]; exact decide_eq_true (by omega)) | exact qb0 (by rw [e1]; exact decide_eq_false (by omega))
      · (try simp (disch := omega) only [i32_lti, i32_lei, i32_eqi, nI_toInt, i32z] at c_16)
        refine ev_iconst (pc := 19) (v := nI 1) dX8_isPause_19 kc_1 ?_
        refine ev_goto (pc := 20) 24 dX8_isPause_20 (by decide) ?_
        refine ev_iret (pc := 24) dX8_isPause_24 rfl rfl (Nat.le_of_ble_eq_true rfl) (Nat.le_of_ble_eq_true rfl) ?_
        first | exact qb1 (by rw [e1]; exact decide_eq_true (by omega)) | exact qb0 (by rw [e1]; exact decide_eq_false (by omega))
theorem c_goOn (p : pTel h a T) (w : wT T) (hH : 0 < tH T) : Ct X 1 mt_X8_goOn [.ref a] (h, z) 0 0 (Qv (fun S' => S'.2 = z ∧ hfr h S'.1 a 4 ∧ pTel S'.1 a (goT T))) := by
  obtain ⟨ha, ⟨os, ho, l1, l2⟩, hf, ⟨ls, hl, l3, l4⟩, l5⟩ := id p
  obtain ⟨w1, w2, w3, w4, w5, w6, -⟩ := id w
  refine mk_X8_goOn (Nat.le_of_ble_eq_true rfl) (L := [.ref a, .retAddr 0]) rfl ?_
  rcases hg : (tO T).getLast? with _ | t
  · have e0 : (tO T).length = 0 := by rw [List.getLast?_eq_none_iff.mp hg]; rfl
    have e1 : goT T = (tN T, 0, tS T, tV T, tB T, tO T, tF T, tA T) := by unfold goT; rw [hg]
    refine ev_aload_n (pc := 0) dX8_goOn_0 rfl ?_
    refine gf_X8_47 (pc := 1) rfl dX8_goOn_1 (by (try dsimp only); (repeat (first | rw [up_s] | rw [up_n (by omega)])) <;> first | rfl | assumption) ?_
    refine ev_if_le (pc := 4) 38 dX8_goOn_4 (by decide) (fun c_4 => ?_) (fun c_4 => ?_)
    · (try simp (disch := omega) only [i32_lti, i32_lei, i32_eqi, nI_toInt, i32z] at c_4)
      refine ev_aload_n (pc := 38) dX8_goOn_38 rfl ?_
      refine ev_iconst (pc := 39) (v := nI 0) dX8_goOn_39 kc_0 ?_
      refine pf_X8_31 (pc := 40) rfl dX8_goOn_40 (by (try dsimp only); (repeat (first | rw [up_s] | rw [up_n (by omega)])) <;> first | rfl | assumption) ?_
      refine ev_ret (pc := 43) dX8_goOn_43 rfl (Nat.le_of_ble_eq_true rfl) (Nat.le_of_ble_eq_true rfl) ?_
      rw [e1]; exact ⟨rfl, rfl, (by intro q hq; first | rfl | ((try dsimp only); (repeat (first | rw [up_n (by omega)])))), (by (try dsimp only); (repeat (first | rw [up_s] | rw [up_n (by omega)])) <;> first | rfl | assumption), ⟨os, (by (try dsimp only); (repeat (first | rw [up_s] | rw [up_n (by omega)])) <;> first | rfl | assumption), l1, l2⟩, (by (try dsimp only); (repeat (first | rw [up_s] | rw [up_n (by omega)])) <;> first | rfl | assumption), ⟨ls, (by (try dsimp only); (repeat (first | rw [up_s] | rw [up_n (by omega)])) <;> first | rfl | assumption), l3, l4⟩, l5⟩
    · exfalso; (try simp (disch := omega) only [i32_lti, i32_lei, i32_eqi, nI_toInt, i32z] at c_4); omega
  · have hm := List.mem_of_getLast? hg
    have e0 := List.length_pos_of_mem hm
    have e1 : goT T = tPart T t (min (max (gN (tF T) t - 1) 1) (tH T)) := by unfold goT; rw [hg]
    have e2 : inn T = nI t := by unfold inn; rw [hg]
    have hF := w5 t
    obtain ⟨t6, -, tf, -⟩ := w2 t hm
    refine ev_aload_n (pc := 0) dX8_goOn_0 rfl ?_
    refine gf_X8_47 (pc := 1) rfl dX8_goOn_1 (by (try dsimp only); (repeat (first | rw [up_s] | rw [up_n (by omega)])) <;> first | rfl | assumption) ?_
    refine ev_if_le (pc := 4) 38 dX8_goOn_4 (by decide) (fun c_4 => ?_) (fun c_4 => ?_)
    · exfalso; (try simp (disch := omega) only [i32_lti, i32_lei, i32_eqi, nI_toInt, i32z] at c_4); omega
    · (try simp (disch := omega) only [i32_lti, i32_lei, i32_eqi, nI_toInt, i32z] at c_4)
      refine ev_aload_n (pc := 7) dX8_goOn_7 rfl ?_
      refine iv_X8_86 (pc := 8) rfl dX8_goOn_8 (by (try dsimp only); (repeat (first | rw [up_s] | rw [up_n (by omega)])) <;> first | rfl | assumption) (Nat.le_of_ble_eq_true rfl) (Nat.le_of_ble_eq_true rfl) (Nat.le_of_ble_eq_true rfl) (Nat.le_of_ble_eq_true rfl) (c_innermost p w4) (kp ?_)
      rw [e2]
      refine ev_istore_n (pc := 11) (L' := [_, _]) dX8_goOn_11 (Nat.le_of_ble_eq_true rfl) rfl ?_
      refine ev_aload_n (pc := 12) dX8_goOn_12 rfl ?_
      refine ev_iload_n (pc := 13) dX8_goOn_13 rfl ?_
      refine ev_aload_n (pc := 14) dX8_goOn_14 rfl ?_
      refine ev_iload_n (pc := 15) dX8_goOn_15 rfl ?_
      refine iv_X8_94 (pc := 16) rfl dX8_goOn_16 (by (try dsimp only); (repeat (first | rw [up_s] | rw [up_n (by omega)])) <;> first | rfl | assumption) (Nat.le_of_ble_eq_true rfl) (Nat.le_of_ble_eq_true rfl) (Nat.le_of_ble_eq_true rfl) (Nat.le_of_ble_eq_true rfl) (c_leftOf p t6) (kp ?_)
      refine ev_iconst (pc := 19) (v := nI 1) dX8_goOn_19 kc_1 ?_
      refine ev_isub (pc := 20) dX8_goOn_20 ?_
      rw [nI_sub1 tf]
      refine ev_iconst (pc := 21) (v := nI 1) dX8_goOn_21 kc_1 ?_
      refine ev_mmax (pc := 22) dX8_goOn_22 tw_584 (Nat.le_of_ble_eq_true rfl) (Nat.le_of_ble_eq_true rfl) (Nat.le_of_ble_eq_true rfl) (Nat.le_of_ble_eq_true rfl) ?_
      rw [mx_nI (by omega) (by omega)]
      refine ev_aload_n (pc := 25) dX8_goOn_25 rfl ?_
      refine gf_X8_31 (pc := 26) rfl dX8_goOn_26 (by (try dsimp only); (repeat (first | rw [up_s] | rw [up_n (by omega)])) <;> first | rfl | assumption) ?_
      refine ev_mmin (pc := 29) dX8_goOn_29 tw_587 (Nat.le_of_ble_eq_true rfl) (Nat.le_of_ble_eq_true rfl) (Nat.le_of_ble_eq_true rfl) (Nat.le_of_ble_eq_true rfl) ?_
      rw [mn_nI (by omega) (by omega)]
      refine iv_X8_90 (pc := 32) rfl dX8_goOn_32 (by (try dsimp only); (repeat (first | rw [up_s] | rw [up_n (by omega)])) <;> first | rfl | assumption) (Nat.le_of_ble_eq_true rfl) (Nat.le_of_ble_eq_true rfl) (Nat.le_of_ble_eq_true rfl) (Nat.le_of_ble_eq_true rfl) (c_tellParts p w hg (by omega) (by omega) (by omega)) (kv (fun S' hS => ?_))
      obtain ⟨h', z'⟩ := S'
      obtain ⟨rfl, f1, p1⟩ := hS
      refine ev_goto (pc := 35) 43 dX8_goOn_35 (by decide) ?_
      refine ev_ret (pc := 43) dX8_goOn_43 rfl (Nat.le_of_ble_eq_true rfl) (Nat.le_of_ble_eq_true rfl) ?_
      rw [e1]; exact ⟨rfl, rfl, f1, p1⟩
theorem c_isForgotten (p : pTel h a T) (w : wT T) (q : pBook h b B) (hM : bM B < 100) (h0 : 0 < (tO T).length) : Ct X 1 mt_X8_isForgotten [.ref a, .ref b] (h, z) 0 0 (QP (.int (b2i (forgT B T))) (h, z)) := by
  obtain ⟨ha, -⟩ := id p
  obtain ⟨hb, -⟩ := id q
  obtain ⟨w1, w2, w3, w4, w5, w6, w7, -⟩ := id w
  obtain ⟨t6, tb, -, ta⟩ := w2 _ (gN_mem h0)
  refine mk_X8_isForgotten (Nat.le_of_ble_eq_true rfl) (L := [.ref a, .ref b]) rfl ?_
  refine ev_aload_n (pc := 0) dX8_isForgotten_0 rfl ?_
  refine gf_X8_21 (pc := 1) rfl dX8_isForgotten_1 (by (try dsimp only); (repeat (first | rw [up_s] | rw [up_n (by omega)])) <;> first | rfl | assumption) ?_
  refine ev_aload_n (pc := 4) dX8_isForgotten_4 rfl ?_
  refine ev_aload_n (pc := 5) dX8_isForgotten_5 rfl ?_
  refine ev_iconst (pc := 6) (v := nI 0) dX8_isForgotten_6 kc_0 ?_
  refine iv_X8_59 (pc := 7) rfl dX8_isForgotten_7 (by (try dsimp only); (repeat (first | rw [up_s] | rw [up_n (by omega)])) <;> first | rfl | assumption) (Nat.le_of_ble_eq_true rfl) (Nat.le_of_ble_eq_true rfl) (Nat.le_of_ble_eq_true rfl) (Nat.le_of_ble_eq_true rfl) (c_openAt p h0 w4) (kp ?_)
  refine iv_X8_106 (pc := 10) rfl dX8_isForgotten_10 (by (try dsimp only); (repeat (first | rw [up_s] | rw [up_n (by omega)])) <;> first | rfl | assumption) (Nat.le_of_ble_eq_true rfl) (Nat.le_of_ble_eq_true rfl) (Nat.le_of_ble_eq_true rfl) (Nat.le_of_ble_eq_true rfl) (c_lastNightOf p t6 tb) (kp ?_)
  refine ev_isub (pc := 13) dX8_isForgotten_13 ?_
  rw [nI_sub ta]
  refine ev_aload_n (pc := 14) dX8_isForgotten_14 rfl ?_
  refine gf_X8_109 (pc := 15) rfl dX8_isForgotten_15 (by (try dsimp only); (repeat (first | rw [up_s] | rw [up_n (by omega)])) <;> first | rfl | assumption) ?_
  refine ev_icmp_lt (pc := 18) 25 dX8_isForgotten_18 (by decide) (fun c_18 => ?_) (fun c_18 => ?_)
  · (try simp (disch := omega) only [i32_lti, i32_lei, i32_eqi, nI_toInt, i32z] at c_18)
    refine ev_iconst (pc := 25) (v := nI 0) dX8_isForgotten_25 kc_0 ?_
    refine ev_iret (pc := 26) dX8_isForgotten_26 rfl rfl (Nat.le_of_ble_eq_true rfl) (Nat.le_of_ble_eq_true rfl) ?_
    first | exact qb1 (by unfold forgT; exact decide_eq_true (by omega)) | exact qb0 (by unfold forgT; exact decide_eq_false (by omega))
  · (try simp (disch := omega) only [i32_lti, i32_lei, i32_eqi, nI_toInt, i32z] at c_18)
    refine ev_iconst (pc := 21) (v := nI 1) dX8_isForgotten_21 kc_1 ?_
    refine ev_goto (pc := 22) 26 dX8_isForgotten_22 (by decide) ?_
    refine ev_iret (pc := 26) dX8_isForgotten_26 rfl rfl (Nat.le_of_ble_eq_true rfl) (Nat.le_of_ble_eq_true rfl) ?_
    first | exact qb1 (by unfold forgT; exact decide_eq_true (by omega)) | exact qb0 (by unfold forgT; exact decide_eq_false (by omega))
theorem c_meetDawn (p : pTel h a T) (w : wT T) (q : pBook h b B) (hM : bM B < 100) (k1 : 1 ≤ bK B) (k8 : bK B ≤ 8) (d : b + 4 ≤ a ∨ a + 4 ≤ b) : Ct X 2 mt_X8_meetDawn [.ref a, .ref b] (h, z) 0 0 (Qi (fun v S' => v = b2i (dawnOk B T) ∧ S'.2 = z ∧ hfr h S'.1 a 4 ∧ pTel S'.1 a (dawnT B T))) := by
  obtain ⟨ha, ⟨os, ho, l1, l2⟩, hf, ⟨ls, hl, l3, l4⟩, l5⟩ := id p
  obtain ⟨hb, hP, hW, hHh, -⟩ := id q
  obtain ⟨w1, w2, w3, w4, w5, w6, w7, -⟩ := id w
  refine mk_X8_meetDawn (Nat.le_of_ble_eq_true rfl) (L := [.ref a, .ref b]) rfl ?_
  refine ev_aload_n (pc := 0) dX8_meetDawn_0 rfl ?_
  refine gf_X8_47 (pc := 1) rfl dX8_meetDawn_1 (by (try dsimp only); (repeat (first | rw [up_s] | rw [up_n (by omega)])) <;> first | rfl | assumption) ?_
  refine ev_if_eq (pc := 4) 15 dX8_meetDawn_4 (by decide) (fun c_4 => ?_) (fun c_4 => ?_)
  · (try simp (disch := omega) only [i32_lti, i32_lei, i32_eqi, nI_toInt, i32z] at c_4)
    refine ev_aload_n (pc := 15) dX8_meetDawn_15 rfl ?_
    refine ev_iconst (pc := 16) (v := nI 0) dX8_meetDawn_16 kc_0 ?_
    refine pf_X8_37 (pc := 17) rfl dX8_meetDawn_17 (by first | exact Or.inl rfl | exact Or.inr rfl) (by (try dsimp only); (repeat (first | rw [up_s] | rw [up_n (by omega)])) <;> first | rfl | assumption) ?_
    refine ev_iconst (pc := 20) (v := nI 0) dX8_meetDawn_20 kc_0 ?_
    refine ev_iret (pc := 21) dX8_meetDawn_21 rfl rfl (Nat.le_of_ble_eq_true rfl) (Nat.le_of_ble_eq_true rfl) ?_
    first
    | (have e : dawnOk B T = false := by unfold dawnOk; rw [decide_eq_false (by omega)]; rfl
       refine ⟨_, rfl, by rw [e]; rfl, rfl, (by intro q hq; first | rfl | ((try dsimp only); (repeat (first | rw [up_n (by omega)])))), ?_⟩
       unfold dawnT; rw [if_neg (by rw [e]; decide)]
       exact ⟨(by (try dsimp only); (repeat (first | rw [up_s] | rw [up_n (by omega)])) <;> first | rfl | assumption), ⟨os, (by (try dsimp only); (repeat (first | rw [up_s] | rw [up_n (by omega)])) <;> first | rfl | assumption), l1, l2⟩, (by (try dsimp only); (repeat (first | rw [up_s] | rw [up_n (by omega)])) <;> first | rfl | assumption), ⟨ls, (by (try dsimp only); (repeat (first | rw [up_s] | rw [up_n (by omega)])) <;> first | rfl | assumption), l3, l4⟩, l5⟩)
    | (have e : dawnOk B T = false := by unfold dawnOk; rw [c_12, Bool.not_true, Bool.and_false]
       refine ⟨_, rfl, by rw [e]; rfl, rfl, (by intro q hq; first | rfl | ((try dsimp only); (repeat (first | rw [up_n (by omega)])))), ?_⟩
       unfold dawnT; rw [if_neg (by rw [e]; decide)]
       exact ⟨(by (try dsimp only); (repeat (first | rw [up_s] | rw [up_n (by omega)])) <;> first | rfl | assumption), ⟨os, (by (try dsimp only); (repeat (first | rw [up_s] | rw [up_n (by omega)])) <;> first | rfl | assumption), l1, l2⟩, (by (try dsimp only); (repeat (first | rw [up_s] | rw [up_n (by omega)])) <;> first | rfl | assumption), ⟨ls, (by (try dsimp only); (repeat (first | rw [up_s] | rw [up_n (by omega)])) <;> first | rfl | assumption), l3, l4⟩, l5⟩)
  · (try simp (disch := omega) only [i32_lti, i32_lei, i32_eqi, nI_toInt, i32z] at c_4)
    refine ev_aload_n (pc := 7) dX8_meetDawn_7 rfl ?_
    refine ev_aload_n (pc := 8) dX8_meetDawn_8 rfl ?_
    refine iv_X8_112 (pc := 9) rfl dX8_meetDawn_9 (by (try dsimp only); (repeat (first | rw [up_s] | rw [up_n (by omega)])) <;> first | rfl | assumption) (Nat.le_of_ble_eq_true rfl) (Nat.le_of_ble_eq_true rfl) (Nat.le_of_ble_eq_true rfl) (Nat.le_of_ble_eq_true rfl) (c_isForgotten p w q hM (by omega)) (kp ?_)
    refine ev_if_eq (pc := 12) 22 dX8_meetDawn_12 (by decide) (fun c_12 => ?_) (fun c_12 => ?_)
    · simp only [b2i_e0, Bool.not_eq_false] at c_12
      refine ev_aload_n (pc := 22) dX8_meetDawn_22 rfl ?_
      refine ev_dup (pc := 23) dX8_meetDawn_23 rfl ?_
      refine gf_X8_34 (pc := 24) rfl dX8_meetDawn_24 (by (try dsimp only); (repeat (first | rw [up_s] | rw [up_n (by omega)])) <;> first | rfl | assumption) ?_
      refine ev_iconst (pc := 27) (v := nI 1) dX8_meetDawn_27 kc_1 ?_
      refine ev_iadd (pc := 28) dX8_meetDawn_28 ?_
      rw [nI_add]
      refine pf_X8_34 (pc := 29) rfl dX8_meetDawn_29 (by (try dsimp only); (repeat (first | rw [up_s] | rw [up_n (by omega)])) <;> first | rfl | assumption) ?_
      refine ev_aload_n (pc := 32) dX8_meetDawn_32 rfl ?_
      refine ev_dup (pc := 33) dX8_meetDawn_33 rfl ?_
      refine gf_X8_21 (pc := 34) rfl dX8_meetDawn_34 (by (try dsimp only); (repeat (first | rw [up_s] | rw [up_n (by omega)])) <;> first | rfl | assumption) ?_
      refine ev_iconst (pc := 37) (v := nI 1) dX8_meetDawn_37 kc_1 ?_
      refine ev_iadd (pc := 38) dX8_meetDawn_38 ?_
      rw [nI_add]
      refine pf_X8_21 (pc := 39) rfl dX8_meetDawn_39 (by (try dsimp only); (repeat (first | rw [up_s] | rw [up_n (by omega)])) <;> first | rfl | assumption) ?_
      refine ev_aload_n (pc := 42) dX8_meetDawn_42 rfl ?_
      refine ev_aload_n (pc := 43) dX8_meetDawn_43 rfl ?_
      refine ev_aload_n (pc := 44) dX8_meetDawn_44 rfl ?_
      refine gf_X8_21 (pc := 45) rfl dX8_meetDawn_45 (by (try dsimp only); (repeat (first | rw [up_s] | rw [up_n (by omega)])) <;> first | rfl | assumption) ?_
      refine iv_X8_25 (pc := 48) rfl dX8_meetDawn_48 (by (try dsimp only); (repeat (first | rw [up_s] | rw [up_n (by omega)])) <;> first | rfl | assumption) (Nat.le_of_ble_eq_true rfl) (Nat.le_of_ble_eq_true rfl) (Nat.le_of_ble_eq_true rfl) (Nat.le_of_ble_eq_true rfl) (c_hoursOf (q.frA (a := a) (n := 4) (by intro q hq; first | rfl | ((try dsimp only); (repeat (first | rw [up_n (by omega)])))) d) k1 k8 (by omega)) (kp ?_)
      refine pf_X8_31 (pc := 51) rfl dX8_meetDawn_51 (by (try dsimp only); (repeat (first | rw [up_s] | rw [up_n (by omega)])) <;> first | rfl | assumption) ?_
      refine ev_iconst (pc := 54) (v := nI 1) dX8_meetDawn_54 kc_1 ?_
      refine ev_iret (pc := 55) dX8_meetDawn_55 rfl rfl (Nat.le_of_ble_eq_true rfl) (Nat.le_of_ble_eq_true rfl) ?_
      have e : dawnOk B T = true := by unfold dawnOk; rw [c_12, decide_eq_true (by omega)]; rfl
      refine ⟨_, rfl, by rw [e]; rfl, rfl, (by intro q hq; first | rfl | ((try dsimp only); (repeat (first | rw [up_n (by omega)])))), ?_⟩
      unfold dawnT; rw [if_pos e]
      exact ⟨(by (try dsimp only); (repeat (first | rw [up_s] | rw [up_n (by omega)])) <;> first | rfl | assumption), ⟨os, (by (try dsimp only); (repeat (first | rw [up_s] | rw [up_n (by omega)])) <;> first | rfl | assumption), l1, l2⟩, (by (try dsimp only); (repeat (first | rw [up_s] | rw [up_n (by omega)])) <;> first | rfl | assumption), ⟨ls, (by (try dsimp only); (repeat (first | rw [up_s] | rw [up_n (by omega)])) <;> first | rfl | assumption), l3, l4⟩, l5⟩
    · simp only [b2i_e0, Bool.not_eq_false] at c_12
      refine ev_aload_n (pc := 15) dX8_meetDawn_15 rfl ?_
      refine ev_iconst (pc := 16) (v := nI 0) dX8_meetDawn_16 kc_0 ?_
      refine pf_X8_37 (pc := 17) rfl dX8_meetDawn_17 (by first | exact Or.inl rfl | exact Or.inr rfl) (by (try dsimp only); (repeat (first | rw [up_s] | rw [up_n (by omega)])) <;> first | rfl | assumption) ?_
      refine ev_iconst (pc := 20) (v := nI 0) dX8_meetDawn_20 kc_0 ?_
      refine ev_iret (pc := 21) dX8_meetDawn_21 rfl rfl (Nat.le_of_ble_eq_true rfl) (Nat.le_of_ble_eq_true rfl) ?_
      first
      | (have e : dawnOk B T = false := by unfold dawnOk; rw [decide_eq_false (by omega)]; rfl
         refine ⟨_, rfl, by rw [e]; rfl, rfl, (by intro q hq; first | rfl | ((try dsimp only); (repeat (first | rw [up_n (by omega)])))), ?_⟩
         unfold dawnT; rw [if_neg (by rw [e]; decide)]
         exact ⟨(by (try dsimp only); (repeat (first | rw [up_s] | rw [up_n (by omega)])) <;> first | rfl | assumption), ⟨os, (by (try dsimp only); (repeat (first | rw [up_s] | rw [up_n (by omega)])) <;> first | rfl | assumption), l1, l2⟩, (by (try dsimp only); (repeat (first | rw [up_s] | rw [up_n (by omega)])) <;> first | rfl | assumption), ⟨ls, (by (try dsimp only); (repeat (first | rw [up_s] | rw [up_n (by omega)])) <;> first | rfl | assumption), l3, l4⟩, l5⟩)
      | (have e : dawnOk B T = false := by unfold dawnOk; rw [c_12, Bool.not_true, Bool.and_false]
         refine ⟨_, rfl, by rw [e]; rfl, rfl, (by intro q hq; first | rfl | ((try dsimp only); (repeat (first | rw [up_n (by omega)])))), ?_⟩
         unfold dawnT; rw [if_neg (by rw [e]; decide)]
         exact ⟨(by (try dsimp only); (repeat (first | rw [up_s] | rw [up_n (by omega)])) <;> first | rfl | assumption), ⟨os, (by (try dsimp only); (repeat (first | rw [up_s] | rw [up_n (by omega)])) <;> first | rfl | assumption), l1, l2⟩, (by (try dsimp only); (repeat (first | rw [up_s] | rw [up_n (by omega)])) <;> first | rfl | assumption), ⟨ls, (by (try dsimp only); (repeat (first | rw [up_s] | rw [up_n (by omega)])) <;> first | rfl | assumption), l3, l4⟩, l5⟩)
theorem c_beginTale (p : pTel h a T) (w : wT T) {t : Nat} (ht : t < 6) (hn : (tB T).testBit t = false) (hl6 : (tO T).length < 6) (hF : 0 < gN (tF T) t) (hH : 0 < tH T) : Ct X 1 mt_X8_beginTale [.ref a, .int (nI t)] (h, z) 0 0 (Qv (fun S' => S'.2 = z ∧ hfr h S'.1 a 4 ∧ pTel S'.1 a (tBeg T t))) := by
  obtain ⟨ha, ⟨os, ho, l1, l2⟩, hf, ⟨ls, hl, l3, l4⟩, l5⟩ := id p
  obtain ⟨w1, w2, w3, w4, w5, w6, w7, w8, w9, w10⟩ := id w
  have h64 := mk_lt (l := tO T) (fun x hx => (w2 x hx).1)
  have hnm : t ∉ tO T := fun q => by rw [(w2 t q).2.1] at hn; cases hn
  have em : mk (tO T ++ [t]) = mk (tO T) ||| (1 <<< t) := by rw [mk_app, mk_one]
  have el : (tO T ++ [t]).length = (tO T).length + 1 := by simp
  have wm : ∀ x ∈ tO T ++ [t], x < 6 := fun x hx => by
    rcases List.mem_append.mp hx with q | q
    · exact (w2 x q).1
    · rw [List.mem_singleton.mp q]; exact ht
  have wn : (tO T ++ [t]).Nodup := by
    rw [List.nodup_append]
    exact ⟨w1, by simp, fun x hx y hy q => hnm (by rw [← List.mem_singleton.mp hy, ← q]; exact hx)⟩
  have hls : ∀ x : Nat, x < 6 → x ≠ t → (tB T ||| (1 <<< t)).testBit x = true → gN ls x = gN (tA T) x := fun x hx hxt hb => by
    rw [Nat.testBit_or, Nat.one_shiftLeft, Nat.testBit_two_pow, decide_eq_false (fun q => hxt q.symm), Bool.or_false] at hb
    exact l4 x hx hb
  refine mk_X8_beginTale (Nat.le_of_ble_eq_true rfl) (L := [.ref a, .int (nI t)]) rfl ?_
  refine ev_iload_n (pc := 0) dX8_beginTale_0 rfl ?_
  refine ev_if_lt (pc := 1) 76 dX8_beginTale_1 (by decide) (fun c_1 => ?_) (fun c_1 => ?_)
  · exfalso; (try simp (disch := omega) only [i32_lti, i32_lei, i32_eqi, nI_toInt, i32z] at c_1); omega
  · (try simp (disch := omega) only [i32_lti, i32_lei, i32_eqi, nI_toInt, i32z] at c_1)
    refine ev_iload_n (pc := 4) dX8_beginTale_4 rfl ?_
    refine ev_bipush (pc := 5) (v := nI 6) dX8_beginTale_5 kb_6 ?_
    refine ev_icmp_ge (pc := 7) 76 dX8_beginTale_7 (by decide) (fun c_7 => ?_) (fun c_7 => ?_)
    · exfalso; (try simp (disch := omega) only [i32_lti, i32_lei, i32_eqi, nI_toInt, i32z] at c_7); omega
    · (try simp (disch := omega) only [i32_lti, i32_lei, i32_eqi, nI_toInt, i32z] at c_7)
      refine ev_aload_n (pc := 10) dX8_beginTale_10 rfl ?_
      refine gf_X8_47 (pc := 11) rfl dX8_beginTale_11 (by (try dsimp only); (repeat (first | rw [up_s] | rw [up_n (by omega)])) <;> first | rfl | assumption) ?_
      refine ev_if_lt (pc := 14) 76 dX8_beginTale_14 (by decide) (fun c_14 => ?_) (fun c_14 => ?_)
      · exfalso; (try simp (disch := omega) only [i32_lti, i32_lei, i32_eqi, nI_toInt, i32z] at c_14); omega
      · (try simp (disch := omega) only [i32_lti, i32_lei, i32_eqi, nI_toInt, i32z] at c_14)
        refine ev_aload_n (pc := 17) dX8_beginTale_17 rfl ?_
        refine gf_X8_47 (pc := 18) rfl dX8_beginTale_18 (by (try dsimp only); (repeat (first | rw [up_s] | rw [up_n (by omega)])) <;> first | rfl | assumption) ?_
        refine ev_bipush (pc := 21) (v := nI 6) dX8_beginTale_21 kb_6 ?_
        refine ev_icmp_ge (pc := 23) 76 dX8_beginTale_23 (by decide) (fun c_23 => ?_) (fun c_23 => ?_)
        · exfalso; (try simp (disch := omega) only [i32_lti, i32_lei, i32_eqi, nI_toInt, i32z] at c_23); omega
        · (try simp (disch := omega) only [i32_lti, i32_lei, i32_eqi, nI_toInt, i32z] at c_23)
          refine ev_aload_n (pc := 26) dX8_beginTale_26 rfl ?_
          refine ev_dup (pc := 27) dX8_beginTale_27 rfl ?_
          refine gf_X8_41 (pc := 28) rfl dX8_beginTale_28 (by (try dsimp only); (repeat (first | rw [up_s] | rw [up_n (by omega)])) <;> first | rfl | assumption) ?_
          refine ev_iconst (pc := 31) (v := nI 1) dX8_beginTale_31 kc_1 ?_
          refine ev_iload_n (pc := 32) dX8_beginTale_32 rfl ?_
          refine ev_ishl (pc := 33) dX8_beginTale_33 ?_
          rw [bt_shl t ht]
          refine ev_ior (pc := 34) dX8_beginTale_34 ?_
          rw [bt_or _ w3 _ (bt_shl64 t ht)]
          refine pf_X8_41 (pc := 35) rfl dX8_beginTale_35 (by (try dsimp only); (repeat (first | rw [up_s] | rw [up_n (by omega)])) <;> first | rfl | assumption) ?_
          refine ev_aload_n (pc := 38) dX8_beginTale_38 rfl ?_
          refine ev_dup (pc := 39) dX8_beginTale_39 rfl ?_
          refine gf_X8_44 (pc := 40) rfl dX8_beginTale_40 (by (try dsimp only); (repeat (first | rw [up_s] | rw [up_n (by omega)])) <;> first | rfl | assumption) ?_
          refine ev_iconst (pc := 43) (v := nI 1) dX8_beginTale_43 kc_1 ?_
          refine ev_iload_n (pc := 44) dX8_beginTale_44 rfl ?_
          refine ev_ishl (pc := 45) dX8_beginTale_45 ?_
          rw [bt_shl t ht]
          refine ev_ior (pc := 46) dX8_beginTale_46 ?_
          rw [bt_or _ h64 _ (bt_shl64 t ht), ← em]
          refine pf_X8_44 (pc := 47) rfl dX8_beginTale_47 (by (try dsimp only); (repeat (first | rw [up_s] | rw [up_n (by omega)])) <;> first | rfl | assumption) ?_
          refine ev_aload_n (pc := 50) dX8_beginTale_50 rfl ?_
          refine gf_X8_9 (pc := 51) rfl dX8_beginTale_51 (by (try dsimp only); (repeat (first | rw [up_s] | rw [up_n (by omega)])) <;> first | rfl | assumption) ?_
          refine ev_aload_n (pc := 54) dX8_beginTale_54 rfl ?_
          refine gf_X8_47 (pc := 55) rfl dX8_beginTale_55 (by (try dsimp only); (repeat (first | rw [up_s] | rw [up_n (by omega)])) <;> first | rfl | assumption) ?_
          refine ev_iload_n (pc := 58) dX8_beginTale_58 rfl ?_
          refine ev_iast (pc := 59) dX8_beginTale_59 (by (try dsimp only); (repeat (first | rw [up_s] | rw [up_n (by omega)])) <;> first | rfl | assumption) (nI_toInt (by omega)) (by simp only [List.length_map, List.length_set, List.length_replicate, List.length_cons, List.length_nil]; omega) ?_
          (try rw [gs])
          refine ev_aload_n (pc := 60) dX8_beginTale_60 rfl ?_
          refine ev_dup (pc := 61) dX8_beginTale_61 rfl ?_
          refine gf_X8_47 (pc := 62) rfl dX8_beginTale_62 (by (try dsimp only); (repeat (first | rw [up_s] | rw [up_n (by omega)])) <;> first | rfl | assumption) ?_
          refine ev_iconst (pc := 65) (v := nI 1) dX8_beginTale_65 kc_1 ?_
          refine ev_iadd (pc := 66) dX8_beginTale_66 ?_
          rw [nI_add, ← el]
          refine pf_X8_47 (pc := 67) rfl dX8_beginTale_67 (by (try dsimp only); (repeat (first | rw [up_s] | rw [up_n (by omega)])) <;> first | rfl | assumption) ?_
          refine ev_aload_n (pc := 70) dX8_beginTale_70 rfl ?_
          refine ev_iload_n (pc := 71) dX8_beginTale_71 rfl ?_
          refine ev_iconst (pc := 72) (v := nI 1) dX8_beginTale_72 kc_1 ?_
          refine iv_X8_90 (pc := 73) rfl dX8_beginTale_73 (by (try dsimp only); (repeat (first | rw [up_s] | rw [up_n (by omega)])) <;> first | rfl | assumption) (Nat.le_of_ble_eq_true rfl) (Nat.le_of_ble_eq_true rfl) (Nat.le_of_ble_eq_true rfl) (Nat.le_of_ble_eq_true rfl) (c_tellParts0 (T := (tN T, tH T, tS T, tV T, tB T ||| (1 <<< t), tO T ++ [t], tF T, tA T)) (os := os.set (tO T).length t) (ls := ls) (by (try dsimp only); (repeat (first | rw [up_s] | rw [up_n (by omega)])) <;> first | rfl | assumption) (by (try dsimp only); (repeat (first | rw [up_s] | rw [up_n (by omega)])) <;> first | rfl | assumption) ((List.length_set ..).trans l1) (take_push l2 (by omega) t) (by (try dsimp only); (repeat (first | rw [up_s] | rw [up_n (by omega)])) <;> first | rfl | assumption) (by (try dsimp only); (repeat (first | rw [up_s] | rw [up_n (by omega)])) <;> first | rfl | assumption) l3 hls l5 wn wm w5 w6 (by show (tO T ++ [t]).length ≤ 6; omega) w8 (by show (tO T ++ [t]).getLast? = some t; simp) (by omega) hF hH) (kv (fun S' hS => ?_))
          obtain ⟨h', z'⟩ := S'
          obtain ⟨rfl, f1, p1⟩ := hS
          refine ev_ret (pc := 76) dX8_beginTale_76 rfl (Nat.le_of_ble_eq_true rfl) (Nat.le_of_ble_eq_true rfl) ?_
          exact ⟨rfl, rfl, (by intro q hq; refine (f1 q hq).trans ?_; (try dsimp only); (repeat (first | rw [up_n (by omega)]))), p1⟩
end TELL2
