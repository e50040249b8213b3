/-! ===== Text: reading it ===== -/
theorem wA_what {cs : List Nat} {t : Tk} {A : Ab} (w : wA A) : wA (pWhat cs t A).2.1 := by
  obtain ⟨w1, w2, w3, w4⟩ := id w
  unfold pWhat
  split
  · unfold pTale
    split
    · exact w
    · split
      · exact w
      · split
        · refine ⟨?_, w2, w3, w4⟩
          show (aP A ++ [_]).length ≤ 6
          rw [List.length_append, List.length_singleton]; omega
        · exact w
  · split
    · have key : ∀ (n : Nat) (t : Tk) (A : Ab), wA A → (aH A).length + n ≤ 8 → wA (pNl cs n t A).2 := by
        intro n
        induction n with
        | zero => intro t A w _; exact w
        | succ n ih =>
          intro t A w h
          unfold pNl
          split
          · obtain ⟨w1, w2, w3, w4⟩ := w
            have e : (aH A ++ [t.2.1]).length = (aH A).length + 1 := by simp
            exact ih _ _ ⟨w1, by show (aH A ++ [t.2.1]).length ≤ 8; omega, w3, w4⟩ (by show (aH A ++ [t.2.1]).length + n ≤ 8; omega)
          · exact w
      unfold pNights
      split
      · exact w
      · exact key 8 _ A w (by omega)
    · split
      · unfold pMem
        split
        · exact w
        · split
          · rename_i hn
            have := num_v hn
            exact ⟨w1, w2, by show (nxt cs t.2.2.2).2.1 < 10; omega, w4⟩
          · exact w
      · split
        · unfold pDep
          split
          · exact w
          · split
            · rename_i hn
              have := num_v hn
              exact ⟨w1, w2, w3, by show (nxt cs t.2.2.2).2.1 < 10; omega⟩
            · exact w
        · exact w
theorem wA_item {cs : List Nat} {t : Tk} {A : Ab} (w : wA A) : wA (pItem cs t A).2.1 := by
  unfold pItem
  split
  · exact w
  · exact wA_what w
theorem sw_item (k : Int) : Op.lookupswitch.offset (#[(100, 71), (109, 62), (110, 53), (116, 44)] : Array (Int × Int)).toList 80 k = if 100 = k then 71 else if 109 = k then 62 else if 110 = k then 53 else if 116 = k then 44 else 80 := rfl
def aSet (A : Ab) : Ab := (aP A, aW A, (if (aH A).length = 0 then [5] else aH A), (if aM A = 0 then 3 else aM A), (if aD A = 0 then 6 else aD A))
theorem bIs_set {B : Bk} {A : Ab} (hh : (bH B).length = 8) (q : bIs B A) : bIs (bSet B) (aSet A) := by
  obtain ⟨b1, b2, b3, b4, b5, b6, b7, b8⟩ := q
  refine ⟨b1, ?_, ?_, ?_, b5, b6, b7, ?_⟩
  · show (if bK B = 0 then 1 else bK B) = (if (aH A).length = 0 then [5] else aH A).length
    rw [b2]; split <;> rfl
  · show (if bM B = 0 then 3 else bM B) = (if aM A = 0 then 3 else aM A)
    rw [b3]
  · show (if bD B = 0 then 6 else bD B) = (if aD A = 0 then 6 else aD A)
    rw [b4]
  · show ∀ k : Nat, k < (if (aH A).length = 0 then [5] else aH A).length → gN (if bK B = 0 then (bH B).set 0 5 else bH B) k = gN (if (aH A).length = 0 then [5] else aH A) k
    intro k
    by_cases h0 : (aH A).length = 0
    · rw [if_pos h0, if_pos (b2.trans h0)]
      intro hk
      have : k = 0 := by simpa using hk
      subst this
      rw [gN_set (by omega), if_pos rfl]; rfl
    · rw [if_neg h0, if_neg (by omega)]
      exact b8 k
section READ
variable {X : Cx} {h : Hp} {z x b : Nat} {cs : List Nat} {t : Tk} {A : Ab}
theorem c_readItem (p : pTok h x cs t) (q : pBookA h b A) (w : wA A) (d : x + 2 ≤ b ∨ b + 4 ≤ x) : Ct X 4 mt_X9_readItem [.ref x, .ref b] (h, z) 0 0 (Qi (fun r S' => r = b2i (pItem cs t A).2.2 ∧ S'.2 = z ∧ hf2 h S'.1 x b ∧ pTok S'.1 x cs (if (pItem cs t A).2.2 = true then nxt cs (pItem cs t A).1.2.2.2 else (pItem cs t A).1) ∧ pBookA S'.1 b (pItem cs t A).2.1)) := by
  refine mk_X9_readItem (Nat.le_of_ble_eq_true rfl) (L := [.ref x, .ref b, .retAddr 0]) rfl ?_
  obtain ⟨va, g1, g2, g3, g4, g5, g6⟩ := id p
  have hx := g2.1
  have fin : t.1 = 1 → ∀ (h1 : Hp) (r : Tk × Ab × Bool), pWhat cs t A = r → hf2 h h1 x b → pTok h1 x cs r.1 → pBookA h1 b r.2.1 → Ev X (mi_X9_readItem 4 0 0) (Qi (fun r S' => r = b2i (pItem cs t A).2.2 ∧ S'.2 = z ∧ hf2 h S'.1 x b ∧ pTok S'.1 x cs (if (pItem cs t A).2.2 = true then nxt cs (pItem cs t A).1.2.2.2 else (pItem cs t A).1) ∧ pBookA S'.1 b (pItem cs t A).2.1)) 0 0 (h1, z) 96 [.ref x, .ref b, .int (b2i r.2.2)] [] := by
    intro e1 h1 r er ff p1 r1
    have ei : pItem cs t A = (r.1, r.2.1, r.2.2 && decide (r.1.1 = 3)) := by unfold pItem; rw [if_neg (by omega), er]
    obtain ⟨va1, y1, y2, y3, y4, y5, y6⟩ := id p1
    have hx1 := y2.1
    refine ev_iload_n (pc := 96) dX9_readItem_96 rfl ?_
    refine ev_if_eq (pc := 97) 108 dX9_readItem_97 (by decide) (fun c_97 => ?_) (fun c_97 => ?_)
    · simp only [b2i_e0, Bool.not_eq_false] at c_97
      refine ev_iconst (pc := 108) (v := nI 0) dX9_readItem_108 kc_0 ?_
      refine ev_iret (pc := 109) dX9_readItem_109 rfl rfl (Nat.le_of_ble_eq_true rfl) (Nat.le_of_ble_eq_true rfl) ?_
      refine ⟨_, rfl, ?_⟩
      have e9 : (r.2.2 && decide (r.1.1 = 3)) = false := by
        first
          | (rw [c_97]; rfl)
          | (rw [decide_eq_false (show ¬ r.1.1 = 3 by omega), Bool.and_false])
      rw [ei, e9]
      exact ⟨rfl, rfl, ff, p1, r1⟩
    · simp only [b2i_e0, Bool.not_eq_false] at c_97
      refine ev_aload_n (pc := 100) dX9_readItem_100 rfl ?_
      refine gf_X9_30 (pc := 101) rfl dX9_readItem_101 (by (try dsimp only); (repeat (first | rw [up_s] | rw [up_n (by omega)])) <;> first | rfl | assumption) ?_
      refine ev_iconst (pc := 104) (v := nI 3) dX9_readItem_104 kc_3 ?_
      refine ev_icmp_eq (pc := 105) 110 dX9_readItem_105 (by decide) (fun c_105 => ?_) (fun c_105 => ?_)
      · (try simp (disch := omega) only [i32_lti, i32_lei, i32_eqi, nI_toInt, i32z] at c_105)
        refine ev_aload_n (pc := 110) dX9_readItem_110 rfl ?_
        refine iv_X9_27 (pc := 111) rfl dX9_readItem_111 (by (try dsimp only); (repeat (first | rw [up_s] | rw [up_n (by omega)])) <;> first | rfl | assumption) (Nat.le_of_ble_eq_true rfl) (Nat.le_of_ble_eq_true rfl) (Nat.le_of_ble_eq_true rfl) (Nat.le_of_ble_eq_true rfl) (c_next p1) (kv (fun S' hS => ?_))
        obtain ⟨h2, z2⟩ := S'
        obtain ⟨rfl, f2, p2⟩ := hS
        refine ev_iconst (pc := 114) (v := nI 1) dX9_readItem_114 kc_1 ?_
        refine ev_iret (pc := 115) dX9_readItem_115 rfl rfl (Nat.le_of_ble_eq_true rfl) (Nat.le_of_ble_eq_true rfl) ?_
        refine ⟨_, rfl, ?_⟩
        have e9 : (r.2.2 && decide (r.1.1 = 3)) = true := by rw [c_97, decide_eq_true (show r.1.1 = 3 by omega)]; rfl
        rw [ei, e9]
        exact ⟨rfl, rfl, fun q ha hb => (f2 q ha).trans (ff q ha hb), p2, r1.fr (fun q ha hb => f2 q (by omega))⟩
      · (try simp (disch := omega) only [i32_lti, i32_lei, i32_eqi, nI_toInt, i32z] at c_105)
        refine ev_iconst (pc := 108) (v := nI 0) dX9_readItem_108 kc_0 ?_
        refine ev_iret (pc := 109) dX9_readItem_109 rfl rfl (Nat.le_of_ble_eq_true rfl) (Nat.le_of_ble_eq_true rfl) ?_
        refine ⟨_, rfl, ?_⟩
        have e9 : (r.2.2 && decide (r.1.1 = 3)) = false := by
          first
            | (rw [c_97]; rfl)
            | (rw [decide_eq_false (show ¬ r.1.1 = 3 by omega), Bool.and_false])
        rw [ei, e9]
        exact ⟨rfl, rfl, ff, p1, r1⟩
  have sw : t.1 = 1 → Ev X (mi_X9_readItem 4 0 0) (Qi (fun r S' => r = b2i (pItem cs t A).2.2 ∧ S'.2 = z ∧ hf2 h S'.1 x b ∧ pTok S'.1 x cs (if (pItem cs t A).2.2 = true then nxt cs (pItem cs t A).1.2.2.2 else (pItem cs t A).1) ∧ pBookA S'.1 b (pItem cs t A).2.1)) 0 0 (h, z) 16 [.ref x, .ref b, .int (nI 0)] [.int (nI va)] := by
    intro e1
    have ev := g3 (Or.inl e1)
    by_cases c1 : va = 116
    · refine ev_lookup (pc := 16) 60 dX9_readItem_16 (by decide) (by rw [sw_item, nI_toInt (by omega), if_neg (by omega), if_neg (by omega), if_neg (by omega), if_pos (by omega)]) (by decide) ?_
      refine ev_aload_n (pc := 60) dX9_readItem_60 rfl ?_
      refine ev_aload_n (pc := 61) dX9_readItem_61 rfl ?_
      refine iv_X9_43 (pc := 62) rfl dX9_readItem_62 (by (try dsimp only); (repeat (first | rw [up_s] | rw [up_n (by omega)])) <;> first | rfl | assumption) (Nat.le_of_ble_eq_true rfl) (Nat.le_of_ble_eq_true rfl) (Nat.le_of_ble_eq_true rfl) (Nat.le_of_ble_eq_true rfl) (c_readTale p q w d) (ki (fun r S' hS => ?_))
      obtain ⟨h1, z1⟩ := S'
      obtain ⟨rfl, rfl, ff, p1, r1⟩ := hS
      refine ev_istore_n (pc := 65) (L' := [_, _, _]) dX9_readItem_65 (Nat.le_of_ble_eq_true rfl) rfl ?_
      refine ev_goto (pc := 66) 96 dX9_readItem_66 (by decide) ?_
      exact fin e1 h1 (pTale cs t A) (by unfold pWhat; rw [if_pos (by omega)]) ff p1 r1
    by_cases c2 : va = 110
    · refine ev_lookup (pc := 16) 69 dX9_readItem_16 (by decide) (by rw [sw_item, nI_toInt (by omega), if_neg (by omega), if_neg (by omega), if_pos (by omega)]) (by decide) ?_
      refine ev_aload_n (pc := 69) dX9_readItem_69 rfl ?_
      refine ev_aload_n (pc := 70) dX9_readItem_70 rfl ?_
      refine iv_X9_46 (pc := 71) rfl dX9_readItem_71 (by (try dsimp only); (repeat (first | rw [up_s] | rw [up_n (by omega)])) <;> first | rfl | assumption) (Nat.le_of_ble_eq_true rfl) (Nat.le_of_ble_eq_true rfl) (Nat.le_of_ble_eq_true rfl) (Nat.le_of_ble_eq_true rfl) (c_readNights p q w d) (ki (fun r S' hS => ?_))
      obtain ⟨h1, z1⟩ := S'
      obtain ⟨rfl, rfl, ff, p1, r1⟩ := hS
      refine ev_istore_n (pc := 74) (L' := [_, _, _]) dX9_readItem_74 (Nat.le_of_ble_eq_true rfl) rfl ?_
      refine ev_goto (pc := 75) 96 dX9_readItem_75 (by decide) ?_
      exact fin e1 h1 (pNights cs t A) (by unfold pWhat; rw [if_neg (by omega), if_pos (by omega)]) ff p1 r1
    by_cases c3 : va = 109
    · refine ev_lookup (pc := 16) 78 dX9_readItem_16 (by decide) (by rw [sw_item, nI_toInt (by omega), if_neg (by omega), if_pos (by omega)]) (by decide) ?_
      refine ev_aload_n (pc := 78) dX9_readItem_78 rfl ?_
      refine ev_aload_n (pc := 79) dX9_readItem_79 rfl ?_
      refine iv_X9_49 (pc := 80) rfl dX9_readItem_80 (by (try dsimp only); (repeat (first | rw [up_s] | rw [up_n (by omega)])) <;> first | rfl | assumption) (Nat.le_of_ble_eq_true rfl) (Nat.le_of_ble_eq_true rfl) (Nat.le_of_ble_eq_true rfl) (Nat.le_of_ble_eq_true rfl) (c_readMemory p q w d) (ki (fun r S' hS => ?_))
      obtain ⟨h1, z1⟩ := S'
      obtain ⟨rfl, rfl, ff, p1, r1⟩ := hS
      refine ev_istore_n (pc := 83) (L' := [_, _, _]) dX9_readItem_83 (Nat.le_of_ble_eq_true rfl) rfl ?_
      refine ev_goto (pc := 84) 96 dX9_readItem_84 (by decide) ?_
      exact fin e1 h1 (pMem cs t A) (by unfold pWhat; rw [if_neg (by omega), if_neg (by omega), if_pos (by omega)]) ff p1 r1
    by_cases c4 : va = 100
    · refine ev_lookup (pc := 16) 87 dX9_readItem_16 (by decide) (by rw [sw_item, nI_toInt (by omega), if_pos (by omega)]) (by decide) ?_
      refine ev_aload_n (pc := 87) dX9_readItem_87 rfl ?_
      refine ev_aload_n (pc := 88) dX9_readItem_88 rfl ?_
      refine iv_X9_52 (pc := 89) rfl dX9_readItem_89 (by (try dsimp only); (repeat (first | rw [up_s] | rw [up_n (by omega)])) <;> first | rfl | assumption) (Nat.le_of_ble_eq_true rfl) (Nat.le_of_ble_eq_true rfl) (Nat.le_of_ble_eq_true rfl) (Nat.le_of_ble_eq_true rfl) (c_readDepth p q w d) (ki (fun r S' hS => ?_))
      obtain ⟨h1, z1⟩ := S'
      obtain ⟨rfl, rfl, ff, p1, r1⟩ := hS
      refine ev_istore_n (pc := 92) (L' := [_, _, _]) dX9_readItem_92 (Nat.le_of_ble_eq_true rfl) rfl ?_
      refine ev_goto (pc := 93) 96 dX9_readItem_93 (by decide) ?_
      exact fin e1 h1 (pDep cs t A) (by unfold pWhat; rw [if_neg (by omega), if_neg (by omega), if_neg (by omega), if_pos (by omega)]) ff p1 r1
    · refine ev_lookup (pc := 16) 96 dX9_readItem_16 (by decide) (by rw [sw_item, nI_toInt (by omega), if_neg (by omega), if_neg (by omega), if_neg (by omega), if_neg (by omega)]) (by decide) ?_
      exact fin e1 h (t, A, false) (by unfold pWhat; rw [if_neg (by omega), if_neg (by omega), if_neg (by omega), if_neg (by omega)]) (fun _ _ _ => rfl) p q
  refine ev_aload_n (pc := 0) dX9_readItem_0 rfl ?_
  refine gf_X9_30 (pc := 1) rfl dX9_readItem_1 (by (try dsimp only); (repeat (first | rw [up_s] | rw [up_n (by omega)])) <;> first | rfl | assumption) ?_
  refine ev_iconst (pc := 4) (v := nI 1) dX9_readItem_4 kc_1 ?_
  refine ev_icmp_eq (pc := 5) 10 dX9_readItem_5 (by decide) (fun c_5 => ?_) (fun c_5 => ?_)
  · (try simp (disch := omega) only [i32_lti, i32_lei, i32_eqi, nI_toInt, i32z] at c_5)
    refine ev_iconst (pc := 10) (v := nI 0) dX9_readItem_10 kc_0 ?_
    refine ev_istore_n (pc := 11) (L' := [_, _, _]) dX9_readItem_11 (Nat.le_of_ble_eq_true rfl) rfl ?_
    refine ev_aload_n (pc := 12) dX9_readItem_12 rfl ?_
    refine gf_X9_40 (pc := 13) rfl dX9_readItem_13 (by (try dsimp only); (repeat (first | rw [up_s] | rw [up_n (by omega)])) <;> first | rfl | assumption) ?_
    exact sw (by omega)
  · (try simp (disch := omega) only [i32_lti, i32_lei, i32_eqi, nI_toInt, i32z] at c_5)
    refine ev_iconst (pc := 8) (v := nI 0) dX9_readItem_8 kc_0 ?_
    refine ev_iret (pc := 9) dX9_readItem_9 rfl rfl (Nat.le_of_ble_eq_true rfl) (Nat.le_of_ble_eq_true rfl) ?_
    refine ⟨_, rfl, ?_⟩
    have e : pItem cs t A = (t, A, false) := by unfold pItem; rw [if_pos (by omega)]
    rw [e]; exact ⟨rfl, rfl, fun _ _ _ => rfl, p, q⟩
def rI (o : Option Nat) : Int32 := match o with
  | some k => nI k
  | none => -1
theorem pAll_le (cs : List Nat) : ∀ (n k : Nat) (t : Tk) (A : Ab) (m : Nat), (pAll cs n k t A).2.2 = some m → m ≤ k + n
  | 0, k, t, A, m, h => by
    have : k = m := Option.some.inj h
    omega
  | n + 1, k, t, A, m, h => by
    unfold pAll at h
    split at h
    · have : k = m := Option.some.inj h
      omega
    · split at h
      · have := pAll_le cs n (k + 1) _ _ m h; omega
      · cases h
theorem c_readInto {i0 af tk va : Nat} {B : Bk} (p : pText h x cs i0 af tk va) (hva : va < 1000) (htk : tk < 5) (q : pBook h b B) (d : x + 2 ≤ b ∨ b + 4 ≤ x) : Ct X 5 mt_X9_readInto [.ref x, .ref b] (h, z) 0 0 (Qi (fun r S' => r = rI (pAll cs 150 0 (nxt cs 0) ([], [], [], 0, 0)).2.2 ∧ S'.2 = z ∧ hf2 h S'.1 x b ∧ pTok S'.1 x cs (pAll cs 150 0 (nxt cs 0) ([], [], [], 0, 0)).1 ∧ (∃ B2 : Bk, pBook S'.1 b B2) ∧ ∀ k : Nat, (pAll cs 150 0 (nxt cs 0) ([], [], [], 0, 0)).2.2 = some k → pBookA S'.1 b (aSet (pAll cs 150 0 (nxt cs 0) ([], [], [], 0, 0)).2.1))) := by
  refine mk_X9_readInto (Nat.le_of_ble_eq_true rfl) (L := [.ref x, .ref b, .retAddr 0, .retAddr 0]) rfl ?_
  have fin : ∀ (u : Value) (h1 : Hp) (t1 : Tk) (A1 : Ab) (k : Nat), hf2 h h1 x b → pTok h1 x cs t1 → pBookA h1 b A1 → wA A1 → pAll cs 150 0 (nxt cs 0) ([], [], [], 0, 0) = (t1, A1, some k) → Ev X (mi_X9_readInto 5 0 0) (Qi (fun r S' => r = rI (pAll cs 150 0 (nxt cs 0) ([], [], [], 0, 0)).2.2 ∧ S'.2 = z ∧ hf2 h S'.1 x b ∧ pTok S'.1 x cs (pAll cs 150 0 (nxt cs 0) ([], [], [], 0, 0)).1 ∧ (∃ B2 : Bk, pBook S'.1 b B2) ∧ ∀ k : Nat, (pAll cs 150 0 (nxt cs 0) ([], [], [], 0, 0)).2.2 = some k → pBookA S'.1 b (aSet (pAll cs 150 0 (nxt cs 0) ([], [], [], 0, 0)).2.1))) 0 0 (h1, z) 50 [.ref x, .ref b, .int (nI k), u] [] := by
    intro u h1 t1 A1 k ff p1 r1 w1 e
    obtain ⟨B1, q1, s1⟩ := id r1
    have hb1 := q1.1
    rw [e]
    refine ev_aload_n (pc := 50) dX9_readInto_50 rfl ?_
    refine iv_X9_37 (pc := 51) rfl dX9_readInto_51 (by (try dsimp only); (repeat (first | rw [up_s] | rw [up_n (by omega)])) <;> first | rfl | assumption) (Nat.le_of_ble_eq_true rfl) (Nat.le_of_ble_eq_true rfl) (Nat.le_of_ble_eq_true rfl) (Nat.le_of_ble_eq_true rfl) (c_settle q1 (by have := s1.2.1; have := w1.2.1; omega) (by have := s1.2.2.1; have := w1.2.2.1; omega) (by have := s1.2.2.2.1; have := w1.2.2.2; omega)) (kv (fun S' hS => ?_))
    obtain ⟨h2, z2⟩ := S'
    obtain ⟨rfl, f2, q2⟩ := hS
    refine ev_iload_n (pc := 54) dX9_readInto_54 rfl ?_
    refine ev_iret (pc := 55) dX9_readInto_55 rfl rfl (Nat.le_of_ble_eq_true rfl) (Nat.le_of_ble_eq_true rfl) ?_
    refine ⟨_, rfl, rfl, rfl, fun q ha hb => (f2 q hb).trans (ff q ha hb), p1.fr (fun q ha hb => f2 q (by omega)), ⟨_, q2⟩, fun k2 _ => ⟨_, q2, bIs_set q1.2.2.2.2.2.2 s1⟩⟩
  have loop : ∀ (n i : Nat), 150 - i = n → i ≤ 150 → ∀ (h1 : Hp) (t1 : Tk) (A1 : Ab), hf2 h h1 x b → pTok h1 x cs t1 → pBookA h1 b A1 → wA A1 → pAll cs 150 0 (nxt cs 0) ([], [], [], 0, 0) = pAll cs n i t1 A1 → Ev X (mi_X9_readInto 5 0 0) (Qi (fun r S' => r = rI (pAll cs 150 0 (nxt cs 0) ([], [], [], 0, 0)).2.2 ∧ S'.2 = z ∧ hf2 h S'.1 x b ∧ pTok S'.1 x cs (pAll cs 150 0 (nxt cs 0) ([], [], [], 0, 0)).1 ∧ (∃ B2 : Bk, pBook S'.1 b B2) ∧ ∀ k : Nat, (pAll cs 150 0 (nxt cs 0) ([], [], [], 0, 0)).2.2 = some k → pBookA S'.1 b (aSet (pAll cs 150 0 (nxt cs 0) ([], [], [], 0, 0)).2.1))) 0 0 (h1, z) 17 [.ref x, .ref b, .int (nI i), .int (nI i)] [] := by
    intro n
    induction n with
    | zero =>
      intro i hn hi h1 t1 A1 ff p1 r1 w1 e
      have hi2 : i = 150 := by omega
      subst hi2
      refine ev_iload_n (pc := 17) dX9_readInto_17 rfl ?_
      refine ev_sipush (pc := 18) (v := nI 150) dX9_readInto_18 ks_150 ?_
      refine ev_icmp_ge (pc := 21) 50 dX9_readInto_21 (by decide) (fun c_21 => ?_) (fun c_21 => ?_)
      · (try simp (disch := omega) only [i32_lti, i32_lei, i32_eqi, nI_toInt, i32z] at c_21)
        exact fin _ h1 t1 A1 150 ff p1 r1 w1 e
      · exfalso; (try simp (disch := omega) only [i32_lti, i32_lei, i32_eqi, nI_toInt, i32z] at c_21); omega
    | succ n ih =>
      intro i hn hi h1 t1 A1 ff p1 r1 w1 e
      obtain ⟨va1, y1, y2, y3, y4, y5, y6⟩ := id p1
      have hx1 := y2.1
      refine ev_iload_n (pc := 17) dX9_readInto_17 rfl ?_
      refine ev_sipush (pc := 18) (v := nI 150) dX9_readInto_18 ks_150 ?_
      refine ev_icmp_ge (pc := 21) 50 dX9_readInto_21 (by decide) (fun c_21 => ?_) (fun c_21 => ?_)
      · exfalso; (try simp (disch := omega) only [i32_lti, i32_lei, i32_eqi, nI_toInt, i32z] at c_21); omega
      · (try simp (disch := omega) only [i32_lti, i32_lei, i32_eqi, nI_toInt, i32z] at c_21)
        refine ev_aload_n (pc := 24) dX9_readInto_24 rfl ?_
        refine gf_X9_30 (pc := 25) rfl dX9_readInto_25 (by (try dsimp only); (repeat (first | rw [up_s] | rw [up_n (by omega)])) <;> first | rfl | assumption) ?_
        refine ev_if_eq (pc := 28) 50 dX9_readInto_28 (by decide) (fun c_28 => ?_) (fun c_28 => ?_)
        · (try simp (disch := omega) only [i32_lti, i32_lei, i32_eqi, nI_toInt, i32z] at c_28)
          have e2 : pAll cs (n + 1) i t1 A1 = (t1, A1, some i) := by
            show (if t1.1 = 0 then _ else _) = _
            rw [if_pos (by omega)]
          exact fin _ h1 t1 A1 i ff p1 r1 w1 (e.trans e2)
        · (try simp (disch := omega) only [i32_lti, i32_lei, i32_eqi, nI_toInt, i32z] at c_28)
          have e2 : pAll cs (n + 1) i t1 A1 = if (pItem cs t1 A1).2.2 = true then pAll cs n (i + 1) (nxt cs (pItem cs t1 A1).1.2.2.2) (pItem cs t1 A1).2.1 else ((pItem cs t1 A1).1, (pItem cs t1 A1).2.1, none) := by
            show (if t1.1 = 0 then _ else _) = _
            rw [if_neg (by omega)]
          refine ev_aload_n (pc := 31) dX9_readInto_31 rfl ?_
          refine ev_aload_n (pc := 32) dX9_readInto_32 rfl ?_
          refine iv_X9_33 (pc := 33) rfl dX9_readInto_33 (by (try dsimp only); (repeat (first | rw [up_s] | rw [up_n (by omega)])) <;> first | rfl | assumption) (Nat.le_of_ble_eq_true rfl) (Nat.le_of_ble_eq_true rfl) (Nat.le_of_ble_eq_true rfl) (Nat.le_of_ble_eq_true rfl) (c_readItem p1 r1 w1 d) (ki (fun r S' hS => ?_))
          obtain ⟨h2, z2⟩ := S'
          obtain ⟨rfl, rfl, f2, p2, r2⟩ := hS
          refine ev_if_ne (pc := 36) 41 dX9_readInto_36 (by decide) (fun c_36 => ?_) (fun c_36 => ?_)
          · simp only [b2i_e0, Bool.not_eq_false] at c_36
            rw [if_pos c_36] at e2
            rw [if_pos c_36] at p2
            refine ev_iinc (pc := 41) (L' := [_, _, _, _]) dX9_readInto_41 rfl (nI_1 _) rfl ?_
            refine ev_iinc (pc := 44) (L' := [_, _, _, _]) dX9_readInto_44 rfl (nI_1 _) rfl ?_
            refine ev_goto (pc := 47) 17 dX9_readInto_47 (by decide) ?_
            exact ih (i + 1) (by omega) (by omega) h2 _ _ (fun q ha hb => (f2 q ha hb).trans (ff q ha hb)) p2 r2 (wA_item w1) (e.trans e2)
          · simp only [b2i_e0, Bool.not_eq_false] at c_36
            rw [if_neg (by rw [c_36]; decide)] at e2
            rw [if_neg (by rw [c_36]; decide)] at p2
            refine ev_iconst (pc := 39) (v := (-1)) dX9_readInto_39 kc_m1 ?_
            refine ev_iret (pc := 40) dX9_readInto_40 rfl rfl (Nat.le_of_ble_eq_true rfl) (Nat.le_of_ble_eq_true rfl) ?_
            refine ⟨_, rfl, ?_⟩
            obtain ⟨B2, q2, -⟩ := id r2
            rw [e, e2]
            exact ⟨rfl, rfl, fun q ha hb => (f2 q ha hb).trans (ff q ha hb), p2, ⟨_, q2⟩, fun k hk => by cases hk⟩
  have hb0 := q.1
  have hl := p.2.2
  refine ev_aload_n (pc := 0) dX9_readInto_0 rfl ?_
  refine iv_X9_19 (pc := 1) rfl dX9_readInto_1 (by (try dsimp only); (repeat (first | rw [up_s] | rw [up_n (by omega)])) <;> first | rfl | assumption) (Nat.le_of_ble_eq_true rfl) (Nat.le_of_ble_eq_true rfl) (Nat.le_of_ble_eq_true rfl) (Nat.le_of_ble_eq_true rfl) (c_wipe q) (kv (fun S' hS => ?_))
  obtain ⟨h1, z1⟩ := S'
  obtain ⟨rfl, f1, q1⟩ := hS
  have p1 := p.fr (fun q ha hb => f1 q (by omega))
  have hx1 := p1.1
  refine ev_aload_n (pc := 4) dX9_readInto_4 rfl ?_
  refine ev_iconst (pc := 5) (v := nI 0) dX9_readInto_5 kc_0 ?_
  refine pf_X9_24 (pc := 6) rfl dX9_readInto_6 (by (try dsimp only); (repeat (first | rw [up_s] | rw [up_n (by omega)])) <;> first | rfl | assumption) ?_
  refine ev_aload_n (pc := 9) dX9_readInto_9 rfl ?_
  refine iv_X9_27 (pc := 10) rfl dX9_readInto_10 (by (try dsimp only); (repeat (first | rw [up_s] | rw [up_n (by omega)])) <;> first | rfl | assumption) (Nat.le_of_ble_eq_true rfl) (Nat.le_of_ble_eq_true rfl) (Nat.le_of_ble_eq_true rfl) (Nat.le_of_ble_eq_true rfl) (c_nextToken (p1.put i0 0 tk va) (by omega) hva) (kv (fun S' hS => ?_))
  obtain ⟨h2, z2⟩ := S'
  obtain ⟨rfl, f2, va2, g1, g2, g3⟩ := hS
  obtain ⟨e1, e2⟩ := nxt_af (cs := cs) (i := 0) (by omega)
  have q2 : pBook h2 b _ := q1.fr (fun q ha hb => (f2 q (by omega)).trans (up_n (by omega)))
  refine ev_iconst (pc := 13) (v := nI 0) dX9_readInto_13 kc_0 ?_
  refine ev_istore_n (pc := 14) (L' := [_, _, _, _]) dX9_readInto_14 (Nat.le_of_ble_eq_true rfl) rfl ?_
  refine ev_iconst (pc := 15) (v := nI 0) dX9_readInto_15 kc_0 ?_
  refine ev_istore_n (pc := 16) (L' := [_, _, _, _]) dX9_readInto_16 (Nat.le_of_ble_eq_true rfl) rfl ?_
  refine loop 150 0 rfl (by omega) h2 _ _ (fun q ha hb => ?_) ⟨va2, g1, g2, g3, e1, e2, nxt_v hl.2 _⟩ ⟨_, q2, rfl, rfl, rfl, rfl, rfl, fun t ht => absurd ht (Nat.not_lt_zero _), fun t ht => absurd ht (Nat.not_lt_zero _), fun t ht => absurd ht (Nat.not_lt_zero _)⟩ ⟨Nat.zero_le _, Nat.zero_le _, by decide, by decide⟩ rfl
  exact (f2 q (by omega)).trans ((up_n (by omega)).trans (f1 q (by omega)))
end READ
