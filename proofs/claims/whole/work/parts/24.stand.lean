/-! ===== Stand: NOW and the ten before it ===== -/
/-- which tellings stand in the row: each once -/
def okIx (ix : List Nat) : Prop := ix.length = 10 ∧ ix.Nodup ∧ ∀ j ∈ ix, j < 10
def adL (s : Nat) (ix : List Nat) : List (Option Nat) := ix.map (fun j => some ((s + 6 + 4 * j)))
theorem adL_len (s : Nat) (ix : List Nat) : (adL s ix).length = ix.length := by simp [adL]
theorem adL_get {s i : Nat} {ix : List Nat} (h : i < ix.length) : (adL s ix)[i]? = some (some ((s + 6 + 4 * (gN ix i)))) := by
  simp [adL, List.getElem?_map, List.getElem?_eq_getElem h, gN, List.getD_eq_getElem?_getD]
theorem adL_set {s i j : Nat} {ix : List Nat} : (adL s ix).set i (some ((s + 6 + 4 * j))) = adL s (ix.set i j) := by simp [adL, List.map_set]
abbrev Sd : Type := Tl × List Tl
/-- the object at s (cells s .. s+45) holds the stand (now, past) -/
def pStand (h : Hp) (s : Nat) (N : Tl) (P : List Tl) : Prop := ∃ ix : List Nat, okIx ix ∧ P.length ≤ 10 ∧ h s = some (.inl (6, [.ref (s + 1), .ref (s + 5), .int (nI P.length)])) ∧ h (s + 5) = some (.inr (4, .inr (.inr (adL s ix)))) ∧ pTel h (s + 1) N ∧ (∀ j : Nat, j < 10 → rTel h ((s + 6 + 4 * j))) ∧ ∀ (i : Nat) (T : Tl), P[i]? = some T → pTel h ((s + 6 + 4 * (gN ix i))) T
/-- a stand's cells, whatever they hold -/
def rStand (h : Hp) (s : Nat) : Prop := ∃ (ix : List Nat) (k : Int32), okIx ix ∧ h s = some (.inl (6, [.ref (s + 1), .ref (s + 5), .int k])) ∧ h (s + 5) = some (.inr (4, .inr (.inr (adL s ix)))) ∧ rTel h (s + 1) ∧ ∀ j : Nat, j < 10 → rTel h ((s + 6 + 4 * j))
theorem pStand.raw {h : Hp} {s : Nat} {N : Tl} {P : List Tl} (p : pStand h s N P) : rStand h s := by
  obtain ⟨ix, h1, -, h3, h4, h5, h6, -⟩ := p
  exact ⟨ix, _, h1, h3, h4, h5.raw, h6⟩
theorem pStand.now {h : Hp} {s : Nat} {N : Tl} {P : List Tl} (p : pStand h s N P) : pTel h (s + 1) N := by
  obtain ⟨ix, -, -, -, -, h5, -⟩ := p
  exact h5
theorem pStand.obj {h : Hp} {s : Nat} {N : Tl} {P : List Tl} (p : pStand h s N P) : h s = some (.inl (6, [.ref (s + 1), .ref (s + 5), .int (nI P.length)])) := by
  obtain ⟨ix, -, -, h3, -⟩ := p
  exact h3
theorem okIx.lt {ix : List Nat} (o : okIx ix) {i : Nat} (h : i < 10) : gN ix i < 10 := o.2.2 _ (gN_mem (by rw [o.1]; exact h))
theorem okIx.inj {ix : List Nat} (o : okIx ix) {i j : Nat} (hi : i < 10) (hj : j < 10) (e : gN ix i = gN ix j) : i = j := by
  have h1 : i < ix.length := by rw [o.1]; exact hi
  have h2 : j < ix.length := by rw [o.1]; exact hj
  rw [gN_eq h1, gN_eq h2] at e
  rcases Nat.lt_trichotomy i j with q | q | q
  · exact absurd e (List.pairwise_iff_getElem.mp o.2.1 i j h1 h2 q)
  · exact q
  · exact absurd e.symm (List.pairwise_iff_getElem.mp o.2.1 j i h2 h1 q)
theorem pStand.fr {h h' : Hp} {s : Nat} {N : Tl} {P : List Tl} (p : pStand h s N P) (e : ∀ q : Nat, s ≤ q → q < s + 46 → h' q = h q) : pStand h' s N P := by
  obtain ⟨ix, h1, h2, h3, h4, h5, h6, h7⟩ := p
  refine ⟨ix, h1, h2, by rw [e s (by omega) (by omega)]; exact h3, by rw [e (s + 5) (by omega) (by omega)]; exact h4, h5.fr (fun q a b => e q (by omega) (by omega)), fun j hj => (h6 j hj).fr (fun q a b => e q (by omega) (by omega)), fun i T hT => (h7 i T hT).fr (fun q a b => ?_)⟩
  have := h1.lt (i := i) (by have := (List.getElem?_eq_some_iff.mp hT).1; omega)
  exact e q (by omega) (by omega)
theorem pStand.frA {h h' : Hp} {s a n : Nat} {N : Tl} {P : List Tl} (p : pStand h s N P) (e : hfr h h' a n) (d : s + 46 ≤ a ∨ a + n ≤ s) : pStand h' s N P := p.fr fun q h1 h2 => e q (by omega)
/-- NOW was changed, nothing else -/
theorem pStand.setNow {h h' : Hp} {s : Nat} {N N' : Tl} {P : List Tl} (p : pStand h s N P) (e : hfr h h' (s + 1) 4) (pn : pTel h' (s + 1) N') : pStand h' s N' P := by
  obtain ⟨ix, h1, h2, h3, h4, h5, h6, h7⟩ := p
  refine ⟨ix, h1, h2, by rw [e s (by omega)]; exact h3, by rw [e (s + 5) (by omega)]; exact h4, pn, fun j hj => (h6 j hj).fr (fun q a b => e q (by omega)), fun i T hT => (h7 i T hT).fr (fun q a b => ?_)⟩
  have := h1.lt (i := i) (by have := (List.getElem?_eq_some_iff.mp hT).1; omega)
  exact e q (by omega)
/-- what is known behind one more step -/
def remP (P : List Tl) (N : Tl) : List Tl := (if P.length < 10 then P else P.tail) ++ [N]
section STAND
variable {X : Cx} {h : Hp} {z s : Nat} {N : Tl} {P : List Tl} {B : Bk}
theorem c_Stand_start {b : Nat} (p : rStand h s) (q : pBook h b B) (h6 : bT B ≤ 6) (k1 : 1 ≤ bK B) (k8 : bK B ≤ 8) (d : b + 4 ≤ s ∨ s + 46 ≤ b) : Ct X 3 mt_X6_start [.ref s, .ref b] (h, z) 0 0 (Qv (fun S' => S'.2 = z ∧ hfr h S'.1 s 46 ∧ pStand S'.1 s (startT B) [])) := by
  obtain ⟨ix, k, h1, h3, h4, h5, hh6⟩ := p
  refine mk_X6_start (Nat.le_of_ble_eq_true rfl) (L := [.ref s, .ref b]) rfl ?_
  refine ev_aload_n (pc := 0) dX6_start_0 rfl ?_
  refine gf_X6_12 (pc := 1) rfl dX6_start_1 (by (try dsimp only); (repeat (first | rw [up_s] | rw [up_n (by omega)])) <;> first | rfl | assumption) ?_
  refine ev_aload_n (pc := 4) dX6_start_4 rfl ?_
  obtain ⟨fs0, e0⟩ := h5.obj
  refine iv_X6_22 (pc := 5) rfl dX6_start_5 e0 (Nat.le_of_ble_eq_true rfl) (Nat.le_of_ble_eq_true rfl) (Nat.le_of_ble_eq_true rfl) (Nat.le_of_ble_eq_true rfl) (c_Tel_start h5 q h6 k1 k8 (by omega)) (kv (fun S' hS => ?_))
  obtain ⟨h', z'⟩ := S'
  obtain ⟨rfl, f1, p1⟩ := hS
  have g3 := (f1 s (by omega)).trans h3
  have g4 := (f1 (s + 5) (by omega)).trans h4
  refine ev_aload_n (pc := 8) dX6_start_8 rfl ?_
  refine ev_iconst (pc := 9) (v := nI 0) dX6_start_9 kc_0 ?_
  refine pf_X6_26 (pc := 10) rfl dX6_start_10 (by (try dsimp only); (repeat (first | rw [up_s] | rw [up_n (by omega)])) <;> first | rfl | assumption) ?_
  refine ev_ret (pc := 13) dX6_start_13 rfl (Nat.le_of_ble_eq_true rfl) (Nat.le_of_ble_eq_true rfl) ?_
  refine ⟨rfl, rfl, (by intro q hq; show hup h' s _ q = h q; rw [up_n (by omega)]; exact f1 q (by omega)), ix, h1, by simp, (by (try dsimp only); (repeat (first | rw [up_s] | rw [up_n (by omega)])) <;> first | rfl | assumption), (by (try dsimp only); (repeat (first | rw [up_s] | rw [up_n (by omega)])) <;> first | rfl | assumption), p1.fr (fun q a b => up_n (by omega)), fun j hj => (hh6 j hj).fr (fun q a b => ?_), fun i T hT => by simp at hT⟩
  show hup h' s _ q = h q
  rw [up_n (by omega)]; exact f1 q (by omega)
theorem c_takeBack (p : pStand h s N P) : Ct X 2 mt_X6_takeBack [.ref s] (h, z) 0 0 (Qi (fun v S' => v = b2i (decide (0 < P.length)) ∧ S'.2 = z ∧ hfr h S'.1 s 46 ∧ pStand S'.1 s (P.getLast?.getD N) P.dropLast)) := by
  obtain ⟨ix, h1, h2, h3, h4, h5, hh6, h7⟩ := id p
  refine mk_X6_takeBack (Nat.le_of_ble_eq_true rfl) (L := [.ref s]) rfl ?_
  rcases hg : P.getLast? with _ | T
  · have hP := List.getLast?_eq_none_iff.mp hg
    subst hP
    refine ev_aload_n (pc := 0) dX6_takeBack_0 rfl ?_
    refine gf_X6_26 (pc := 1) rfl dX6_takeBack_1 (by (try dsimp only); (repeat (first | rw [up_s] | rw [up_n (by omega)])) <;> first | rfl | assumption) ?_
    refine ev_if_le (pc := 4) 16 dX6_takeBack_4 (by decide) (fun c_4 => ?_) (fun c_4 => ?_)
    · (try simp (disch := omega) only [i32_lti, i32_lei, i32_eqi, nI_toInt, i32z] at c_4)
      refine ev_iconst (pc := 16) (v := nI 0) dX6_takeBack_16 kc_0 ?_
      refine ev_iret (pc := 17) dX6_takeBack_17 rfl rfl (Nat.le_of_ble_eq_true rfl) (Nat.le_of_ble_eq_true rfl) ?_
      exact ⟨_, rfl, rfl, rfl, hfr.rf _ _ _, p⟩
    · exfalso; (try simp (disch := omega) only [i32_lti, i32_lei, i32_eqi, nI_toInt, i32z] at c_4); simp at c_4
  · have hm := List.mem_of_getLast? hg
    have e0 := List.length_pos_of_mem hm
    have hT : P[P.length - 1]? = some T := by rw [← List.getLast?_eq_getElem?]; exact hg
    have pT := h7 _ _ hT
    have hix := h1.lt (i := P.length - 1) (by omega)
    have edl : P.dropLast.length = P.length - 1 := List.length_dropLast
    refine ev_aload_n (pc := 0) dX6_takeBack_0 rfl ?_
    refine gf_X6_26 (pc := 1) rfl dX6_takeBack_1 (by (try dsimp only); (repeat (first | rw [up_s] | rw [up_n (by omega)])) <;> first | rfl | assumption) ?_
    refine ev_if_le (pc := 4) 16 dX6_takeBack_4 (by decide) (fun c_4 => ?_) (fun c_4 => ?_)
    · exfalso; (try simp (disch := omega) only [i32_lti, i32_lei, i32_eqi, nI_toInt, i32z] at c_4); omega
    · (try simp (disch := omega) only [i32_lti, i32_lei, i32_eqi, nI_toInt, i32z] at c_4)
      refine ev_aload_n (pc := 7) dX6_takeBack_7 rfl ?_
      refine gf_X6_26 (pc := 8) rfl dX6_takeBack_8 (by (try dsimp only); (repeat (first | rw [up_s] | rw [up_n (by omega)])) <;> first | rfl | assumption) ?_
      refine ev_bipush (pc := 11) (v := nI 10) dX6_takeBack_11 kb_10 ?_
      refine ev_icmp_le (pc := 13) 18 dX6_takeBack_13 (by decide) (fun c_13 => ?_) (fun c_13 => ?_)
      · (try simp (disch := omega) only [i32_lti, i32_lei, i32_eqi, nI_toInt, i32z] at c_13)
        refine ev_aload_n (pc := 18) dX6_takeBack_18 rfl ?_
        refine ev_dup (pc := 19) dX6_takeBack_19 rfl ?_
        refine gf_X6_26 (pc := 20) rfl dX6_takeBack_20 (by (try dsimp only); (repeat (first | rw [up_s] | rw [up_n (by omega)])) <;> first | rfl | assumption) ?_
        refine ev_iconst (pc := 23) (v := nI 1) dX6_takeBack_23 kc_1 ?_
        refine ev_isub (pc := 24) dX6_takeBack_24 ?_
        rw [nI_sub1 e0, ← edl]
        refine pf_X6_26 (pc := 25) rfl dX6_takeBack_25 (by (try dsimp only); (repeat (first | rw [up_s] | rw [up_n (by omega)])) <;> first | rfl | assumption) ?_
        refine ev_aload_n (pc := 28) dX6_takeBack_28 rfl ?_
        refine gf_X6_12 (pc := 29) rfl dX6_takeBack_29 (by (try dsimp only); (repeat (first | rw [up_s] | rw [up_n (by omega)])) <;> first | rfl | assumption) ?_
        refine ev_aload_n (pc := 32) dX6_takeBack_32 rfl ?_
        refine gf_X6_18 (pc := 33) rfl dX6_takeBack_33 (by (try dsimp only); (repeat (first | rw [up_s] | rw [up_n (by omega)])) <;> first | rfl | assumption) ?_
        refine ev_aload_n (pc := 36) dX6_takeBack_36 rfl ?_
        refine gf_X6_26 (pc := 37) rfl dX6_takeBack_37 (by (try dsimp only); (repeat (first | rw [up_s] | rw [up_n (by omega)])) <;> first | rfl | assumption) ?_
        refine ev_aald (pc := 40) (t := 4) dX6_takeBack_40 rfl (by (try dsimp only); (repeat (first | rw [up_s] | rw [up_n (by omega)])) <;> first | rfl | assumption) (nI_toInt (by omega)) (by rw [edl]; exact adL_get (by rw [h1.1]; omega)) ?_
        refine iv_X6_30 (pc := 41) rfl dX6_takeBack_41 ((up_n (by omega)).trans h5.1) (Nat.le_of_ble_eq_true rfl) (Nat.le_of_ble_eq_true rfl) (Nat.le_of_ble_eq_true rfl) (Nat.le_of_ble_eq_true rfl) (c_Tel_copy (h5.raw.fr (fun q a b => up_n (by omega))) (pT.raw.fr (fun q a b => up_n (by omega))) (by omega)) (kv (fun S' hS => ?_))
        obtain ⟨h', z'⟩ := S'
        obtain ⟨rfl, f1, -, p1⟩ := hS
        have p2 := p1 T (pT.fr (fun q a b => up_n (by omega)))
        have f2 : ∀ q : Nat, (q < s + 1 ∨ s + 5 ≤ q) → q ≠ s → h' q = h q := fun q h1 h2 => (f1 q (by omega)).trans (up_n h2)
        refine ev_iconst (pc := 44) (v := nI 1) dX6_takeBack_44 kc_1 ?_
        refine ev_iret (pc := 45) dX6_takeBack_45 rfl rfl (Nat.le_of_ble_eq_true rfl) (Nat.le_of_ble_eq_true rfl) ?_
        refine ⟨_, rfl, by rw [decide_eq_true e0]; rfl, rfl, fun q hq => f2 q (by omega) (by omega), ix, h1, by omega, ?_, ?_, p2, ?_, ?_⟩
        · exact (f1 s (by omega)).trans (up_s _ _ _)
        · exact (f2 (s + 5) (by omega) (by omega)).trans h4
        · exact fun j hj => (hh6 j hj).fr (fun q a b => f2 q (by omega) (by omega))
        · intro i T2 hT2
          have hil : i < P.length - 1 := by have := (List.getElem?_eq_some_iff.mp hT2).1; omega
          have hT3 : P[i]? = some T2 := by rw [← hT2, List.getElem?_dropLast, if_pos (by omega)]
          have := h1.lt (i := i) (by omega)
          exact (h7 i T2 hT3).fr (fun q a b => f2 q (by omega) (by omega))
      · exfalso; (try simp (disch := omega) only [i32_lti, i32_lei, i32_eqi, nI_toInt, i32z] at c_13); omega
theorem okIx_of {l : List Nat} (l1 : l.length = 10) (hlt : ∀ j : Nat, j < 10 → gN l j < 10) (hinj : ∀ i j : Nat, i < j → j < 10 → gN l i ≠ gN l j) : okIx l := by
  refine ⟨l1, ?_, ?_⟩
  · show List.Pairwise (· ≠ ·) l
    rw [List.pairwise_iff_getElem]
    intro i j hi hj hij
    have := hinj i j hij (by omega)
    rw [gN_eq hi, gN_eq hj] at this
    exact this
  · intro x hx
    obtain ⟨j, hj1, hj2⟩ := List.getElem_of_mem hx
    rw [← hj2, ← gN_eq hj1]
    exact hlt j (by omega)
theorem c_loseOldest (p : pStand h s N P) (h10 : P.length = 10) : Ct X 0 mt_X6_loseOldest [.ref s] (h, z) 0 0 (Qv (fun S' => S'.2 = z ∧ hfr h S'.1 s 46 ∧ pStand S'.1 s N P.tail)) := by
  obtain ⟨ix, o1, o2, h3, h4, h5, hh6, h7⟩ := id p
  refine mk_X6_loseOldest (Nat.le_of_ble_eq_true rfl) (L := [.ref s, .retAddr 0, .retAddr 0]) rfl ?_
  have loop : ∀ (n i : Nat), 9 - i = n → i ≤ 9 → ∀ (h1 : Hp) (iy : List Nat), (∀ q : Nat, q ≠ s + 5 → h1 q = h q) → iy.length = 10 → (∀ j : Nat, j < 10 → gN iy j = if j < i then gN ix (j + 1) else gN ix j) → h1 (s + 5) = some (.inr (4, .inr (.inr (adL s iy)))) → Ev X (mi_X6_loseOldest 0 0 0) (Qv (fun S' => S'.2 = z ∧ hfr h S'.1 s 46 ∧ pStand S'.1 s N P.tail)) 0 0 (h1, z) 9 [.ref s, .ref ((s + 6 + 4 * (gN ix 0))), .int (nI (i + 1))] [] := by
    intro n
    induction n with
    | zero =>
      intro i hn hi h1 iy f1 l1 hj ha
      have hi2 : i = 9 := by omega
      subst hi2
      have g3 := (f1 s (by omega)).trans h3
      have hg : ∀ j : Nat, j < 10 → gN (iy.set 9 (gN ix 0)) j = if j = 9 then gN ix 0 else gN ix (j + 1) := by
        intro j hj2
        rw [gN_set (by omega)]
        by_cases hq : j = 9
        · rw [if_pos hq, if_pos hq]
        · rw [if_neg hq, if_neg hq, hj j hj2, if_pos (by omega)]
      have oy : okIx (iy.set 9 (gN ix 0)) := by
        refine okIx_of ((List.length_set ..).trans l1) (fun j hj2 => ?_) (fun j k hjk hk => ?_)
        · rw [hg j hj2]; split <;> exact o1.lt (by omega)
        · rw [hg j (by omega), hg k hk, if_neg (by omega)]
          split
          · intro e; have := o1.inj (by omega) (by omega) e; omega
          · intro e; have := o1.inj (by omega) (by omega) e; omega
      obtain ⟨fs0, e0⟩ := (hh6 (gN ix 0) (o1.lt (by omega))).obj
      have e1 := (f1 ((s + 6 + 4 * (gN ix 0))) (by omega)).trans e0
      have etl : P.tail.length = 9 := by rw [List.length_tail]; omega
      refine ev_iload_n (pc := 9) dX6_loseOldest_9 rfl ?_
      refine ev_bipush (pc := 10) (v := nI 10) dX6_loseOldest_10 kb_10 ?_
      refine ev_icmp_ge (pc := 12) 35 dX6_loseOldest_12 (by decide) (fun c_12 => ?_) (fun c_12 => ?_)
      · (try simp (disch := omega) only [i32_lti, i32_lei, i32_eqi, nI_toInt, i32z] at c_12)
        refine ev_aload_n (pc := 35) dX6_loseOldest_35 rfl ?_
        refine gf_X6_18 (pc := 36) rfl dX6_loseOldest_36 (by (try dsimp only); (repeat (first | rw [up_s] | rw [up_n (by omega)])) <;> first | rfl | assumption) ?_
        refine ev_bipush (pc := 39) (v := nI 9) dX6_loseOldest_39 kb_9 ?_
        refine ev_aload_n (pc := 41) dX6_loseOldest_41 rfl ?_
        refine ev_aast (pc := 42) (t := 4) (ci := 8) dX6_loseOldest_42 (Nat.le_of_ble_eq_true rfl) rfl (by (try dsimp only); (repeat (first | rw [up_s] | rw [up_n (by omega)])) <;> first | rfl | assumption) e1 rfl (Or.inl rfl) (nI_toInt (by omega)) (by rw [adL_len, l1]; omega) ?_
        rw [adL_set]
        refine ev_aload_n (pc := 43) dX6_loseOldest_43 rfl ?_
        refine ev_bipush (pc := 44) (v := nI 9) dX6_loseOldest_44 kb_9 ?_
        refine pf_X6_26 (pc := 46) rfl dX6_loseOldest_46 (by (try dsimp only); (repeat (first | rw [up_s] | rw [up_n (by omega)])) <;> first | rfl | assumption) ?_
        refine ev_ret (pc := 49) dX6_loseOldest_49 rfl (Nat.le_of_ble_eq_true rfl) (Nat.le_of_ble_eq_true rfl) ?_
        refine ⟨rfl, rfl, ?_, iy.set 9 (gN ix 0), oy, by omega, by rw [etl]; exact up_s _ _ _, (by (try dsimp only); (repeat (first | rw [up_s] | rw [up_n (by omega)])) <;> first | rfl | assumption), ?_, ?_, ?_⟩
        · intro q hq
          show hup (hup h1 (s + 5) _) s _ q = h q
          rw [up_n (by omega), up_n (by omega)]; exact f1 q (by omega)
        · exact h5.fr (fun q a b => by show hup (hup h1 (s + 5) _) s _ q = h q; rw [up_n (by omega), up_n (by omega)]; exact f1 q (by omega))
        · exact fun j hj => (hh6 j hj).fr (fun q a b => by show hup (hup h1 (s + 5) _) s _ q = h q; rw [up_n (by omega), up_n (by omega)]; exact f1 q (by omega))
        · intro i T hT
          have hil : i < 9 := by have := (List.getElem?_eq_some_iff.mp hT).1; omega
          have hT3 : P[i + 1]? = some T := by rw [← hT, List.getElem?_tail]
          have := o1.lt (i := i + 1) (by omega)
          rw [hg i (by omega), if_neg (by omega)]
          exact (h7 (i + 1) T hT3).fr (fun q a b => by show hup (hup h1 (s + 5) _) s _ q = h q; rw [up_n (by omega), up_n (by omega)]; exact f1 q (by omega))
      · exfalso; (try simp (disch := omega) only [i32_lti, i32_lei, i32_eqi, nI_toInt, i32z] at c_12); omega
    | succ n ih =>
      intro i hn hi h1 iy f1 l1 hj ha
      have g3 := (f1 s (by omega)).trans h3
      have ei : gN iy (i + 1) = gN ix (i + 1) := by rw [hj (i + 1) (by omega), if_neg (by omega)]
      have hx := o1.lt (i := i + 1) (by omega)
      obtain ⟨fs0, e0⟩ := (hh6 (gN ix (i + 1)) hx).obj
      have e1 := (f1 ((s + 6 + 4 * (gN ix (i + 1)))) (by omega)).trans e0
      refine ev_iload_n (pc := 9) dX6_loseOldest_9 rfl ?_
      refine ev_bipush (pc := 10) (v := nI 10) dX6_loseOldest_10 kb_10 ?_
      refine ev_icmp_ge (pc := 12) 35 dX6_loseOldest_12 (by decide) (fun c_12 => ?_) (fun c_12 => ?_)
      · exfalso; (try simp (disch := omega) only [i32_lti, i32_lei, i32_eqi, nI_toInt, i32z] at c_12); omega
      · (try simp (disch := omega) only [i32_lti, i32_lei, i32_eqi, nI_toInt, i32z] at c_12)
        refine ev_aload_n (pc := 15) dX6_loseOldest_15 rfl ?_
        refine gf_X6_18 (pc := 16) rfl dX6_loseOldest_16 (by (try dsimp only); (repeat (first | rw [up_s] | rw [up_n (by omega)])) <;> first | rfl | assumption) ?_
        refine ev_iload_n (pc := 19) dX6_loseOldest_19 rfl ?_
        refine ev_iconst (pc := 20) (v := nI 1) dX6_loseOldest_20 kc_1 ?_
        refine ev_isub (pc := 21) dX6_loseOldest_21 ?_
        rw [nI_sub (by omega), Nat.add_sub_cancel]
        refine ev_aload_n (pc := 22) dX6_loseOldest_22 rfl ?_
        refine gf_X6_18 (pc := 23) rfl dX6_loseOldest_23 (by (try dsimp only); (repeat (first | rw [up_s] | rw [up_n (by omega)])) <;> first | rfl | assumption) ?_
        refine ev_iload_n (pc := 26) dX6_loseOldest_26 rfl ?_
        refine ev_aald (pc := 27) (t := 4) dX6_loseOldest_27 rfl (by (try dsimp only); (repeat (first | rw [up_s] | rw [up_n (by omega)])) <;> first | rfl | assumption) (nI_toInt (by omega)) (adL_get (by omega)) ?_
        rw [ei]
        refine ev_aast (pc := 28) (t := 4) (ci := 8) dX6_loseOldest_28 (Nat.le_of_ble_eq_true rfl) rfl (by (try dsimp only); (repeat (first | rw [up_s] | rw [up_n (by omega)])) <;> first | rfl | assumption) e1 rfl (Or.inl rfl) (nI_toInt (by omega)) (by rw [adL_len, l1]; omega) ?_
        rw [adL_set]
        refine ev_iinc (pc := 29) (L' := [_, _, _]) dX6_loseOldest_29 rfl (nI_1 _) rfl ?_
        refine ev_goto (pc := 32) 9 dX6_loseOldest_32 (by decide) ?_
        refine ih (i + 1) (by omega) (by omega) _ (iy.set i (gN ix (i + 1))) (fun q hq => (up_n hq).trans (f1 q hq)) ((List.length_set ..).trans l1) (fun j hj2 => ?_) (by (try dsimp only); (repeat (first | rw [up_s] | rw [up_n (by omega)])) <;> first | rfl | assumption)
        rw [gN_set (by omega)]
        by_cases hq : j = i
        · rw [if_pos hq, if_pos (by omega), hq]
        · rw [if_neg hq, hj j hj2]
          by_cases hq2 : j < i
          · rw [if_pos hq2, if_pos (by omega)]
          · rw [if_neg hq2, if_neg (by omega)]
  refine ev_aload_n (pc := 0) dX6_loseOldest_0 rfl ?_
  refine gf_X6_18 (pc := 1) rfl dX6_loseOldest_1 (by (try dsimp only); (repeat (first | rw [up_s] | rw [up_n (by omega)])) <;> first | rfl | assumption) ?_
  refine ev_iconst (pc := 4) (v := nI 0) dX6_loseOldest_4 kc_0 ?_
  refine ev_aald (pc := 5) (t := 4) dX6_loseOldest_5 rfl (by (try dsimp only); (repeat (first | rw [up_s] | rw [up_n (by omega)])) <;> first | rfl | assumption) (nI_toInt (by omega)) (adL_get (by rw [o1.1]; omega)) ?_
  refine ev_astore_n (pc := 6) (L' := [_, _, _]) dX6_loseOldest_6 (Nat.le_of_ble_eq_true rfl) rfl ?_
  refine ev_iconst (pc := 7) (v := nI 1) dX6_loseOldest_7 kc_1 ?_
  refine ev_istore_n (pc := 8) (L' := [_, _, _]) dX6_loseOldest_8 (Nat.le_of_ble_eq_true rfl) rfl ?_
  exact loop _ 0 rfl (by omega) h ix (fun _ _ => rfl) o1.1 (fun j hj => by rw [if_neg (by omega)]) h4
theorem c_remember (p : pStand h s N P) : Ct X 2 mt_X6_remember [.ref s] (h, z) 0 0 (Qv (fun S' => S'.2 = z ∧ hfr h S'.1 s 46 ∧ pStand S'.1 s N (remP P N))) := by
  refine mk_X6_remember (Nat.le_of_ble_eq_true rfl) (L := [.ref s]) rfl ?_
  have fin : ∀ (h1 : Hp) (P1 : List Tl), hfr h h1 s 46 → pStand h1 s N P1 → P1.length < 10 → P1 ++ [N] = remP P N → Ev X (mi_X6_remember 2 0 0) (Qv (fun S' => S'.2 = z ∧ hfr h S'.1 s 46 ∧ pStand S'.1 s N (remP P N))) 0 0 (h1, z) 13 [.ref s] [] := by
    intro h1 P1 f1 p1 hl er
    obtain ⟨ix, o1, o2, h3, h4, h5, hh6, h7⟩ := id p1
    have hx := o1.lt (i := P1.length) hl
    obtain ⟨fs0, e0⟩ := (hh6 _ hx).obj
    have el : (P1 ++ [N]).length = P1.length + 1 := by simp
    refine ev_aload_n (pc := 13) dX6_remember_13 rfl ?_
    refine gf_X6_26 (pc := 14) rfl dX6_remember_14 (by (try dsimp only); (repeat (first | rw [up_s] | rw [up_n (by omega)])) <;> first | rfl | assumption) ?_
    refine ev_if_lt (pc := 17) 55 dX6_remember_17 (by decide) (fun c_17 => ?_) (fun c_17 => ?_)
    · exfalso; (try simp (disch := omega) only [i32_lti, i32_lei, i32_eqi, nI_toInt, i32z] at c_17); omega
    · (try simp (disch := omega) only [i32_lti, i32_lei, i32_eqi, nI_toInt, i32z] at c_17)
      refine ev_aload_n (pc := 20) dX6_remember_20 rfl ?_
      refine gf_X6_26 (pc := 21) rfl dX6_remember_21 (by (try dsimp only); (repeat (first | rw [up_s] | rw [up_n (by omega)])) <;> first | rfl | assumption) ?_
      refine ev_bipush (pc := 24) (v := nI 10) dX6_remember_24 kb_10 ?_
      refine ev_icmp_ge (pc := 26) 55 dX6_remember_26 (by decide) (fun c_26 => ?_) (fun c_26 => ?_)
      · exfalso; (try simp (disch := omega) only [i32_lti, i32_lei, i32_eqi, nI_toInt, i32z] at c_26); omega
      · (try simp (disch := omega) only [i32_lti, i32_lei, i32_eqi, nI_toInt, i32z] at c_26)
        refine ev_aload_n (pc := 29) dX6_remember_29 rfl ?_
        refine gf_X6_18 (pc := 30) rfl dX6_remember_30 (by (try dsimp only); (repeat (first | rw [up_s] | rw [up_n (by omega)])) <;> first | rfl | assumption) ?_
        refine ev_aload_n (pc := 33) dX6_remember_33 rfl ?_
        refine gf_X6_26 (pc := 34) rfl dX6_remember_34 (by (try dsimp only); (repeat (first | rw [up_s] | rw [up_n (by omega)])) <;> first | rfl | assumption) ?_
        refine ev_aald (pc := 37) (t := 4) dX6_remember_37 rfl (by (try dsimp only); (repeat (first | rw [up_s] | rw [up_n (by omega)])) <;> first | rfl | assumption) (nI_toInt (by omega)) (adL_get (by rw [o1.1]; omega)) ?_
        refine ev_aload_n (pc := 38) dX6_remember_38 rfl ?_
        refine gf_X6_12 (pc := 39) rfl dX6_remember_39 (by (try dsimp only); (repeat (first | rw [up_s] | rw [up_n (by omega)])) <;> first | rfl | assumption) ?_
        refine iv_X6_30 (pc := 42) rfl dX6_remember_42 e0 (Nat.le_of_ble_eq_true rfl) (Nat.le_of_ble_eq_true rfl) (Nat.le_of_ble_eq_true rfl) (Nat.le_of_ble_eq_true rfl) (c_Tel_copy (hh6 _ hx) h5.raw (by omega)) (kv (fun S' hS => ?_))
        obtain ⟨h', z'⟩ := S'
        obtain ⟨rfl, f2, r2, p2⟩ := hS
        have g3 := (f2 s (by omega)).trans h3
        have g4 := (f2 (s + 5) (by omega)).trans h4
        have pN := p2 N h5
        refine ev_aload_n (pc := 45) dX6_remember_45 rfl ?_
        refine ev_dup (pc := 46) dX6_remember_46 rfl ?_
        refine gf_X6_26 (pc := 47) rfl dX6_remember_47 (by (try dsimp only); (repeat (first | rw [up_s] | rw [up_n (by omega)])) <;> first | rfl | assumption) ?_
        refine ev_iconst (pc := 50) (v := nI 1) dX6_remember_50 kc_1 ?_
        refine ev_iadd (pc := 51) dX6_remember_51 ?_
        rw [nI_add, ← el]
        refine pf_X6_26 (pc := 52) rfl dX6_remember_52 (by (try dsimp only); (repeat (first | rw [up_s] | rw [up_n (by omega)])) <;> first | rfl | assumption) ?_
        refine ev_ret (pc := 55) dX6_remember_55 rfl (Nat.le_of_ble_eq_true rfl) (Nat.le_of_ble_eq_true rfl) ?_
        refine ⟨rfl, rfl, ?_, ?_⟩
        · intro q hq
          show hup h' s _ q = h q
          rw [up_n (by omega)]; exact (f2 q (by omega)).trans (f1 q hq)
        · rw [← er]
          refine ⟨ix, o1, by omega, up_s _ _ _, (by (try dsimp only); (repeat (first | rw [up_s] | rw [up_n (by omega)])) <;> first | rfl | assumption), ?_, ?_, ?_⟩
          · exact h5.fr (fun q a b => by show hup h' s _ q = h1 q; rw [up_n (by omega)]; exact f2 q (by omega))
          · intro j hj
            by_cases hq : j = gN ix P1.length
            · subst hq; exact r2.fr (fun q a b => up_n (by omega))
            · exact (hh6 j hj).fr (fun q a b => by show hup h' s _ q = h1 q; rw [up_n (by omega)]; exact f2 q (by omega))
          · intro i T hT
            have hil := (List.getElem?_eq_some_iff.mp hT).1
            rw [el] at hil
            by_cases hq : i = P1.length
            · subst hq
              rw [List.getElem?_append_right (Nat.le_refl _), Nat.sub_self] at hT
              cases hT
              exact pN.fr (fun q a b => up_n (by omega))
            · rw [List.getElem?_append_left (by omega)] at hT
              have h9 := o1.lt (i := i) (by omega)
              have h8 : gN ix i ≠ gN ix P1.length := fun e => hq (o1.inj (by omega) hl e)
              exact (h7 i T hT).fr (fun q a b => by show hup h' s _ q = h1 q; rw [up_n (by omega)]; exact f2 q (by omega))
  have h3 := p.obj
  obtain ⟨-, -, o2, -⟩ := id p
  refine ev_aload_n (pc := 0) dX6_remember_0 rfl ?_
  refine gf_X6_26 (pc := 1) rfl dX6_remember_1 (by (try dsimp only); (repeat (first | rw [up_s] | rw [up_n (by omega)])) <;> first | rfl | assumption) ?_
  refine ev_bipush (pc := 4) (v := nI 10) dX6_remember_4 kb_10 ?_
  refine ev_icmp_lt (pc := 6) 13 dX6_remember_6 (by decide) (fun c_6 => ?_) (fun c_6 => ?_)
  · (try simp (disch := omega) only [i32_lti, i32_lei, i32_eqi, nI_toInt, i32z] at c_6)
    first
    | exact fin _ _ f2 p2 (by rw [List.length_tail]; omega) (by unfold remP; rw [if_neg (by omega)])
    | exact fin _ _ (hfr.rf _ _ _) p (by omega) (by unfold remP; rw [if_pos (by omega)])
  · (try simp (disch := omega) only [i32_lti, i32_lei, i32_eqi, nI_toInt, i32z] at c_6)
    refine ev_aload_n (pc := 9) dX6_remember_9 rfl ?_
    refine iv_X6_34 (pc := 10) rfl dX6_remember_10 (by (try dsimp only); (repeat (first | rw [up_s] | rw [up_n (by omega)])) <;> first | rfl | assumption) (Nat.le_of_ble_eq_true rfl) (Nat.le_of_ble_eq_true rfl) (Nat.le_of_ble_eq_true rfl) (Nat.le_of_ble_eq_true rfl) (c_loseOldest p (by omega)) (kv (fun S' hS => ?_))
    obtain ⟨h', z'⟩ := S'
    obtain ⟨rfl, f2, p2⟩ := hS
    first
    | exact fin _ _ f2 p2 (by rw [List.length_tail]; omega) (by unfold remP; rw [if_neg (by omega)])
    | exact fin _ _ (hfr.rf _ _ _) p (by omega) (by unfold remP; rw [if_pos (by omega)])
theorem c_Stand_copy {o : Nat} {N2 : Tl} {P2 : List Tl} (p : rStand h s) (q : pStand h o N2 P2) (d : o + 46 ≤ s ∨ s + 46 ≤ o) : Ct X 2 mt_X6_copyFrom [.ref s, .ref o] (h, z) 0 0 (Qv (fun S' => S'.2 = z ∧ hfr h S'.1 s 46 ∧ pStand S'.1 s N2 P2)) := by
  obtain ⟨ix, k, o1, h3, h4, h5, hh6⟩ := p
  obtain ⟨iy, o2, m2, g3, g4, g5, gg6, g7⟩ := id q
  refine mk_X6_copyFrom (Nat.le_of_ble_eq_true rfl) (L := [.ref s, .ref o, .retAddr 0]) rfl ?_
  have loop : ∀ (n i : Nat), 10 - i = n → i ≤ 10 → ∀ h1 : Hp, hfr h h1 s 46 → h1 s = some (.inl (6, [.ref (s + 1), .ref (s + 5), .int k])) → h1 (s + 5) = some (.inr (4, .inr (.inr (adL s ix)))) → pTel h1 (s + 1) N2 → (∀ j : Nat, j < 10 → rTel h1 ((s + 6 + 4 * j))) → (∀ (j : Nat) (T : Tl), j < i → P2[j]? = some T → pTel h1 ((s + 6 + 4 * (gN ix j))) T) → Ev X (mi_X6_copyFrom 2 0 0) (Qv (fun S' => S'.2 = z ∧ hfr h S'.1 s 46 ∧ pStand S'.1 s N2 P2)) 0 0 (h1, z) 13 [.ref s, .ref o, .int (nI i)] [] := by
    intro n
    induction n with
    | zero =>
      intro i hn hi h1 f1 a3 a4 a5 a6 a7
      have hi2 : i = 10 := by omega
      subst hi2
      have b3 := (f1 o (by omega)).trans g3
      refine ev_iload_n (pc := 13) dX6_copyFrom_13 rfl ?_
      refine ev_bipush (pc := 14) (v := nI 10) dX6_copyFrom_14 kb_10 ?_
      refine ev_icmp_ge (pc := 16) 40 dX6_copyFrom_16 (by decide) (fun c_16 => ?_) (fun c_16 => ?_)
      · (try simp (disch := omega) only [i32_lti, i32_lei, i32_eqi, nI_toInt, i32z] at c_16)
        refine ev_aload_n (pc := 40) dX6_copyFrom_40 rfl ?_
        refine ev_aload_n (pc := 41) dX6_copyFrom_41 rfl ?_
        refine gf_X6_26 (pc := 42) rfl dX6_copyFrom_42 (by (try dsimp only); (repeat (first | rw [up_s] | rw [up_n (by omega)])) <;> first | rfl | assumption) ?_
        refine pf_X6_26 (pc := 45) rfl dX6_copyFrom_45 (by (try dsimp only); (repeat (first | rw [up_s] | rw [up_n (by omega)])) <;> first | rfl | assumption) ?_
        refine ev_ret (pc := 48) dX6_copyFrom_48 rfl (Nat.le_of_ble_eq_true rfl) (Nat.le_of_ble_eq_true rfl) ?_
        refine ⟨rfl, rfl, (by intro q hq; (try dsimp only); (repeat (first | rw [up_n (by omega)])) <;> first | rfl | exact f1 q hq), ix, o1, m2, up_s _ _ _, (by (try dsimp only); (repeat (first | rw [up_s] | rw [up_n (by omega)])) <;> first | rfl | assumption), a5.fr (fun q a b => up_n (by omega)), fun j hj => (a6 j hj).fr (fun q a b => up_n (by omega)), fun i T hT => (a7 i T (by have := (List.getElem?_eq_some_iff.mp hT).1; omega) hT).fr (fun q a b => up_n (by omega))⟩
      · exfalso; (try simp (disch := omega) only [i32_lti, i32_lei, i32_eqi, nI_toInt, i32z] at c_16); omega
    | succ n ih =>
      intro i hn hi h1 f1 a3 a4 a5 a6 a7
      have b3 := (f1 o (by omega)).trans g3
      have b4 := (f1 (o + 5) (by omega)).trans g4
      have hx := o1.lt (i := i) (by omega)
      have hy := o2.lt (i := i) (by omega)
      obtain ⟨fs0, e0⟩ := (a6 _ hx).obj
      refine ev_iload_n (pc := 13) dX6_copyFrom_13 rfl ?_
      refine ev_bipush (pc := 14) (v := nI 10) dX6_copyFrom_14 kb_10 ?_
      refine ev_icmp_ge (pc := 16) 40 dX6_copyFrom_16 (by decide) (fun c_16 => ?_) (fun c_16 => ?_)
      · exfalso; (try simp (disch := omega) only [i32_lti, i32_lei, i32_eqi, nI_toInt, i32z] at c_16); omega
      · (try simp (disch := omega) only [i32_lti, i32_lei, i32_eqi, nI_toInt, i32z] at c_16)
        refine ev_aload_n (pc := 19) dX6_copyFrom_19 rfl ?_
        refine gf_X6_18 (pc := 20) rfl dX6_copyFrom_20 (by (try dsimp only); (repeat (first | rw [up_s] | rw [up_n (by omega)])) <;> first | rfl | assumption) ?_
        refine ev_iload_n (pc := 23) dX6_copyFrom_23 rfl ?_
        refine ev_aald (pc := 24) (t := 4) dX6_copyFrom_24 rfl (by (try dsimp only); (repeat (first | rw [up_s] | rw [up_n (by omega)])) <;> first | rfl | assumption) (nI_toInt (by omega)) (adL_get (by rw [o1.1]; omega)) ?_
        refine ev_aload_n (pc := 25) dX6_copyFrom_25 rfl ?_
        refine gf_X6_18 (pc := 26) rfl dX6_copyFrom_26 (by (try dsimp only); (repeat (first | rw [up_s] | rw [up_n (by omega)])) <;> first | rfl | assumption) ?_
        refine ev_iload_n (pc := 29) dX6_copyFrom_29 rfl ?_
        refine ev_aald (pc := 30) (t := 4) dX6_copyFrom_30 rfl (by (try dsimp only); (repeat (first | rw [up_s] | rw [up_n (by omega)])) <;> first | rfl | assumption) (nI_toInt (by omega)) (adL_get (by rw [o2.1]; omega)) ?_
        refine iv_X6_30 (pc := 31) rfl dX6_copyFrom_31 e0 (Nat.le_of_ble_eq_true rfl) (Nat.le_of_ble_eq_true rfl) (Nat.le_of_ble_eq_true rfl) (Nat.le_of_ble_eq_true rfl) (c_Tel_copy (a6 _ hx) ((gg6 _ hy).fr (fun q a b => f1 q (by omega))) (by omega)) (kv (fun S' hS => ?_))
        obtain ⟨h', z'⟩ := S'
        obtain ⟨rfl, f2, r2, p2⟩ := hS
        refine ev_iinc (pc := 34) (L' := [_, _, _]) dX6_copyFrom_34 rfl (nI_1 _) rfl ?_
        refine ev_goto (pc := 37) 13 dX6_copyFrom_37 (by decide) ?_
        refine ih (i + 1) (by omega) (by omega) h' (fun q hq => (f2 q (by omega)).trans (f1 q hq)) ((f2 s (by omega)).trans a3) ((f2 (s + 5) (by omega)).trans a4) (a5.fr (fun q a b => f2 q (by omega))) (fun j hj => ?_) (fun j T hj hT => ?_)
        · by_cases hq : j = gN ix i
          · subst hq; exact r2
          · exact (a6 j hj).fr (fun q a b => f2 q (by omega))
        · by_cases hq : j = i
          · subst hq
            exact p2 T ((g7 j T hT).fr (fun q a b => f1 q (by omega)))
          · have h9 := o1.lt (i := j) (by omega)
            have h8 : gN ix j ≠ gN ix i := fun e => hq (o1.inj (by omega) (by omega) e)
            exact (a7 j T (by omega) hT).fr (fun q a b => f2 q (by omega))
  obtain ⟨fs1, e1⟩ := h5.obj
  refine ev_aload_n (pc := 0) dX6_copyFrom_0 rfl ?_
  refine gf_X6_12 (pc := 1) rfl dX6_copyFrom_1 (by (try dsimp only); (repeat (first | rw [up_s] | rw [up_n (by omega)])) <;> first | rfl | assumption) ?_
  refine ev_aload_n (pc := 4) dX6_copyFrom_4 rfl ?_
  refine gf_X6_12 (pc := 5) rfl dX6_copyFrom_5 (by (try dsimp only); (repeat (first | rw [up_s] | rw [up_n (by omega)])) <;> first | rfl | assumption) ?_
  refine iv_X6_30 (pc := 8) rfl dX6_copyFrom_8 e1 (Nat.le_of_ble_eq_true rfl) (Nat.le_of_ble_eq_true rfl) (Nat.le_of_ble_eq_true rfl) (Nat.le_of_ble_eq_true rfl) (c_Tel_copy h5 g5.raw (by omega)) (kv (fun S' hS => ?_))
  obtain ⟨h', z'⟩ := S'
  obtain ⟨rfl, f2, r2, p2⟩ := hS
  refine ev_iconst (pc := 11) (v := nI 0) dX6_copyFrom_11 kc_0 ?_
  refine ev_istore_n (pc := 12) (L' := [_, _, _]) dX6_copyFrom_12 (Nat.le_of_ble_eq_true rfl) rfl ?_
  exact loop _ 0 rfl (by omega) h' (fun q hq => f2 q (by omega)) ((f2 s (by omega)).trans h3) ((f2 (s + 5) (by omega)).trans h4) (p2 N2 g5) (fun j hj => (hh6 j hj).fr (fun q a b => f2 q (by omega))) (fun j T hj => by omega)
theorem adL_part {s i : Nat} (hi : i < 10) (rs : List (Option Nat)) (hl : rs.length = 10) (hr : ∀ j : Nat, j < i → rs[j]? = some (some ((s + 6 + 4 * j)))) : ∀ j : Nat, j < i + 1 → (rs.set i (some ((s + 6 + 4 * i))))[j]? = some (some ((s + 6 + 4 * j))) := by
  intro j hj
  rw [List.getElem?_set]
  by_cases hq : i = j
  · subst hq; rw [if_pos rfl, if_pos (by omega)]
  · rw [if_neg hq]; exact hr j (by omega)
theorem c_Stand_init (ha : h s = some (.inl (6, [.null, .null, .int 0]))) (hz : z = s + 1) : Ct X 2 mt_X6_init [.ref s] (h, z) 45 318 (Qv (fun S' => S'.2 = s + 46 ∧ hfr h S'.1 s 46 ∧ rStand S'.1 s)) := by
  subst hz
  refine mk_X6_init (Nat.le_of_ble_eq_true rfl) (L := [.ref s, .retAddr 0]) rfl ?_
  have loop : ∀ (n i : Nat), 10 - i = n → i ≤ 10 → ∀ (h1 : Hp) (rs : List (Option Nat)), hfr h h1 s 46 → h1 s = some (.inl (6, [.ref (s + 1), .ref (s + 5), .int 0])) → h1 (s + 5) = some (.inr (4, .inr (.inr rs))) → rs.length = 10 → (∀ j : Nat, j < i → rs[j]? = some (some ((s + 6 + 4 * j)))) → rTel h1 (s + 1) → (∀ j : Nat, j < i → rTel h1 ((s + 6 + 4 * j))) → Ev X (mi_X6_init 2 45 318) (Qv (fun S' => S'.2 = s + 46 ∧ hfr h S'.1 s 46 ∧ rStand S'.1 s)) (5 + 4 * i) (38 + 28 * i) (h1, s + 6 + 4 * i) 26 [.ref s, .int (nI i)] [] := by
    intro n
    induction n with
    | zero =>
      intro i hn hi h1 rs f1 a3 a4 al ar a5 a6
      have hi2 : i = 10 := by omega
      subst hi2
      have ers : rs = adL s (List.range 10) := by
        apply List.ext_getElem?
        intro j
        by_cases hj : j < 10
        · rw [ar j hj, adL, List.getElem?_map, List.getElem?_range hj]; rfl
        · rw [List.getElem?_eq_none (by omega), List.getElem?_eq_none (by simp [adL]; omega)]
      subst ers
      refine ev_iload_n (pc := 26) dX6_init_26 rfl ?_
      refine ev_bipush (pc := 27) (v := nI 10) dX6_init_27 kb_10 ?_
      refine ev_icmp_ge (pc := 29) 51 dX6_init_29 (by decide) (fun c_29 => ?_) (fun c_29 => ?_)
      · (try simp (disch := omega) only [i32_lti, i32_lei, i32_eqi, nI_toInt, i32z] at c_29)
        refine ev_ret (pc := 51) dX6_init_51 rfl (Nat.le_of_ble_eq_true rfl) (Nat.le_of_ble_eq_true rfl) ?_
        exact ⟨rfl, rfl, f1, List.range 10, 0, ⟨by simp, List.nodup_range, fun j hj => List.mem_range.mp hj⟩, a3, a4, a5, a6⟩
      · exfalso; (try simp (disch := omega) only [i32_lti, i32_lei, i32_eqi, nI_toInt, i32z] at c_29); omega
    | succ n ih =>
      intro i hn hi h1 rs f1 a3 a4 al ar a5 a6
      refine ev_iload_n (pc := 26) dX6_init_26 rfl ?_
      refine ev_bipush (pc := 27) (v := nI 10) dX6_init_27 kb_10 ?_
      refine ev_icmp_ge (pc := 29) 51 dX6_init_29 (by decide) (fun c_29 => ?_) (fun c_29 => ?_)
      · exfalso; (try simp (disch := omega) only [i32_lti, i32_lei, i32_eqi, nI_toInt, i32z] at c_29); omega
      · (try simp (disch := omega) only [i32_lti, i32_lei, i32_eqi, nI_toInt, i32z] at c_29)
        refine ev_aload_n (pc := 32) dX6_init_32 rfl ?_
        refine gf_X6_18 (pc := 33) rfl dX6_init_33 (by (try dsimp only); (repeat (first | rw [up_s] | rw [up_n (by omega)])) <;> first | rfl | assumption) ?_
        refine ev_iload_n (pc := 36) dX6_init_36 rfl ?_
        refine ev_new (pc := 37) (ci := 8) (fs := [.int 0, .int 0, .int 0, .int 0, .int 0, .int 0, .int 0, .null, .null, .null]) dX6_init_37 rfl inT8 tyX8_ok tw_113 tw_114 tw_5 nd8 (by dsimp only [mC, mS]; omega) (by dsimp only [mC, mS]; omega) ?_
        refine ev_dup (pc := 40) dX6_init_40 rfl ?_
        refine iv_X6_11 (pc := 41) rfl dX6_init_41 (Nat.le_of_ble_eq_true rfl) (Nat.le_of_ble_eq_true rfl) (by dsimp only [mC, mS]; omega) (by dsimp only [mC, mS]; omega) (c_Tel_init (by (try dsimp only); (repeat (first | rw [up_s] | rw [up_n (by omega)])) <;> first | rfl | assumption) (by omega)) (kv (fun S' hS => ?_))
        obtain ⟨h', z'⟩ := S'
        obtain ⟨rfl, f2, r2⟩ := hS
        have g4 := (f2 (s + 5) (by omega)).trans ((up_n (by omega)).trans a4)
        obtain ⟨fs0, e0⟩ := r2.obj
        have g2 : ∀ q : Nat, q < s + 6 + 4 * i → h' q = h1 q := fun q hq => (f2 q (by omega)).trans (up_n (by omega))
        refine ev_aast (pc := 44) (t := 4) (ci := 8) dX6_init_44 (Nat.le_of_ble_eq_true rfl) rfl g4 e0 rfl (Or.inl rfl) (nI_toInt (by omega)) (by omega) ?_
        refine ev_iinc (pc := 45) (L' := [_, _]) dX6_init_45 rfl (nI_1 _) rfl ?_
        refine ev_goto (pc := 48) 26 dX6_init_48 (by decide) ?_
        refine ih (i + 1) (by omega) (by omega) _ (rs.set i (some (s + 6 + 4 * i))) ?_ ?_ (up_s _ _ _) ((List.length_set ..).trans al) (adL_part (by omega) rs al ar) ?_ ?_
        · intro q hq
          show hup h' (s + 5) _ q = h q
          rw [up_n (by omega)]
          refine (f2 q (by omega)).trans ((up_n (by omega)).trans (f1 q hq))
        · exact (up_n (by omega)).trans ((g2 s (by omega)).trans a3)
        · exact a5.fr (fun q a b => (up_n (by omega)).trans (g2 q (by omega)))
        · intro j hj
          by_cases hq : j = i
          · subst hq; exact r2.fr (fun q a b => up_n (by omega))
          · exact (a6 j (by omega)).fr (fun q a b => (up_n (by omega)).trans (g2 q (by omega)))
  refine ev_aload_n (pc := 0) dX6_init_0 rfl ?_
  refine ev_objInit (pc := 1) dX6_init_1 tw_112 tw_24 tw_25 (Nat.le_of_ble_eq_true rfl) (Nat.le_of_ble_eq_true rfl) ?_
  refine ev_aload_n (pc := 4) dX6_init_4 rfl ?_
  refine ev_new (pc := 5) (ci := 8) (fs := [.int 0, .int 0, .int 0, .int 0, .int 0, .int 0, .int 0, .null, .null, .null]) dX6_init_5 rfl inT8 tyX8_ok tw_113 tw_114 tw_5 nd8 (Nat.le_of_ble_eq_true rfl) (Nat.le_of_ble_eq_true rfl) ?_
  refine ev_dup (pc := 8) dX6_init_8 rfl ?_
  refine iv_X6_11 (pc := 9) rfl dX6_init_9 (Nat.le_of_ble_eq_true rfl) (Nat.le_of_ble_eq_true rfl) (Nat.le_of_ble_eq_true rfl) (Nat.le_of_ble_eq_true rfl) (c_Tel_init (by (try dsimp only); (repeat (first | rw [up_s] | rw [up_n (by omega)])) <;> first | rfl | assumption) rfl) (kv (fun S' hS => ?_))
  obtain ⟨h', z'⟩ := S'
  obtain ⟨rfl, f2, r2⟩ := hS
  have g3 := (f2 s (by omega)).trans ((up_n (by omega)).trans ha)
  refine pf_X6_12 (pc := 12) rfl rfl dX6_init_12 (by (try dsimp only); (repeat (first | rw [up_s] | rw [up_n (by omega)])) <;> first | rfl | assumption) ?_
  refine ev_aload_n (pc := 15) dX6_init_15 rfl ?_
  refine ev_bipush (pc := 16) (v := nI 10) dX6_init_16 kb_10 ?_
  refine ev_newq (pc := 18) (t := 4) (N := 10) dX6_init_18 (Nat.le_of_ble_eq_true rfl) rfl tw_113 (List.mem_of_getElem? (i := 0) rfl) rfl (Nat.le_of_ble_eq_true rfl) (Nat.le_of_ble_eq_true rfl) (Nat.le_of_ble_eq_true rfl) ?_
  refine pf_X6_18 (pc := 21) rfl rfl dX6_init_21 (by (try dsimp only); (repeat (first | rw [up_s] | rw [up_n (by omega)])) <;> first | rfl | assumption) ?_
  refine ev_iconst (pc := 24) (v := nI 0) dX6_init_24 kc_0 ?_
  refine ev_istore_n (pc := 25) (L' := [_, _]) dX6_init_25 (Nat.le_of_ble_eq_true rfl) rfl ?_
  refine loop _ 0 rfl (by omega) _ (List.replicate 10 none) ?_ (by (try dsimp only); (repeat (first | rw [up_s] | rw [up_n (by omega)])) <;> first | rfl | assumption) (by (try dsimp only); (repeat (first | rw [up_s] | rw [up_n (by omega)])) <;> first | rfl | assumption) rfl (fun j hj => by omega) ?_ (fun j hj => by omega)
  · intro q hq
    (try dsimp only)
    rw [up_n (by omega), up_n (by omega), up_n (by omega)]
    exact (f2 q (by omega)).trans (up_n (by omega))
  · exact r2.fr (fun q a b => by (try dsimp only); rw [up_n (by omega), up_n (by omega), up_n (by omega)])
end STAND
