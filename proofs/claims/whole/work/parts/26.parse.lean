/-! ===== Text: the items ===== -/
theorem Ct.mono {X : Cx} {D k n : Nat} {M : Mt} {av : List Value} {S : Hs} {Q Q' : Option Value → Hs → Prop} (c : Ct X D M av S k n Q) (hQ : ∀ (r : Option Value) (S' : Hs), Q r S' → Q' r S') : Ct X D M av S k n Q' := by
  unfold Ct Met at c ⊢
  refine MetFree.mono c (fun _ _ h => h) (fun _ _ _ _ _ h => h) (fun a s o s' _ h => ?_)
  obtain ⟨⟨r, S', e, q, rest⟩, h2⟩ := h
  exact ⟨⟨r, S', e, hQ _ _ q, rest⟩, h2⟩
/-- what a text tells: parts, within, hours, memory, depth (0: not told) -/
abbrev Ab : Type := List Nat × List Nat × List Nat × Nat × Nat
abbrev aP (A : Ab) : List Nat := A.1
abbrev aW (A : Ab) : List Nat := A.2.1
abbrev aH (A : Ab) : List Nat := A.2.2.1
abbrev aM (A : Ab) : Nat := A.2.2.2.1
abbrev aD (A : Ab) : Nat := A.2.2.2.2
def bIs (B : Bk) (A : Ab) : Prop := bT B = (aP A).length ∧ bK B = (aH A).length ∧ bM B = aM A ∧ bD B = aD A ∧ (aW A).length = (aP A).length ∧ (∀ t : Nat, t < (aP A).length → gN (bP B) t = gN (aP A) t) ∧ (∀ t : Nat, t < (aP A).length → gN (bW B) t = gN (aW A) t) ∧ ∀ k : Nat, k < (aH A).length → gN (bH B) k = gN (aH A) k
/-- what always holds of it while it is read -/
def wA (A : Ab) : Prop := (aP A).length ≤ 6 ∧ (aH A).length ≤ 8 ∧ aM A < 10 ∧ aD A < 10
def pBookA (h : Hp) (b : Nat) (A : Ab) : Prop := ∃ B : Bk, pBook h b B ∧ bIs B A
theorem pBookA.fr {h h' : Hp} {b : Nat} {A : Ab} (p : pBookA h b A) (e : ∀ q : Nat, b ≤ q → q < b + 4 → h' q = h q) : pBookA h' b A := by
  obtain ⟨B, p1, p2⟩ := p
  exact ⟨B, p1.fr e, p2⟩
def num (t : Tk) (lo hi : Nat) : Bool := decide (t.1 = 2 ∧ lo ≤ t.2.1 ∧ t.2.1 ≤ hi)
def pTale (cs : List Nat) (t : Tk) (A : Ab) : Tk × Ab × Bool :=
  if 6 ≤ (aP A).length then (t, A, false)
  else if num (nxt cs t.2.2.2) 1 9 = false then (nxt cs t.2.2.2, A, false)
  else if (nxt cs (nxt cs t.2.2.2).2.2.2).1 = 2 ∧ ((nxt cs (nxt cs t.2.2.2).2.2.2).2.1 < (aP A).length ∨ (nxt cs (nxt cs t.2.2.2).2.2.2).2.1 = 9) then
    (nxt cs (nxt cs (nxt cs t.2.2.2).2.2.2).2.2.2, (aP A ++ [(nxt cs t.2.2.2).2.1], aW A ++ [(nxt cs (nxt cs t.2.2.2).2.2.2).2.1], aH A, aM A, aD A), true)
  else (nxt cs (nxt cs t.2.2.2).2.2.2, A, false)
def pNl (cs : List Nat) : Nat → Tk → Ab → Tk × Ab
  | 0, t, A => (t, A)
  | n + 1, t, A => if num t 1 9 = true then pNl cs n (nxt cs t.2.2.2) (aP A, aW A, aH A ++ [t.2.1], aM A, aD A) else (t, A)
def pNights (cs : List Nat) (t : Tk) (A : Ab) : Tk × Ab × Bool :=
  if 0 < (aH A).length then (t, A, false)
  else ((pNl cs 8 (nxt cs t.2.2.2) A).1, (pNl cs 8 (nxt cs t.2.2.2) A).2, decide (0 < (aH (pNl cs 8 (nxt cs t.2.2.2) A).2).length))
def pMem (cs : List Nat) (t : Tk) (A : Ab) : Tk × Ab × Bool :=
  if 0 < aM A then (t, A, false)
  else if num (nxt cs t.2.2.2) 1 9 = true then (nxt cs (nxt cs t.2.2.2).2.2.2, (aP A, aW A, aH A, (nxt cs t.2.2.2).2.1, aD A), true)
  else (nxt cs t.2.2.2, A, false)
def pDep (cs : List Nat) (t : Tk) (A : Ab) : Tk × Ab × Bool :=
  if 0 < aD A then (t, A, false)
  else if num (nxt cs t.2.2.2) 1 6 = true then (nxt cs (nxt cs t.2.2.2).2.2.2, (aP A, aW A, aH A, aM A, (nxt cs t.2.2.2).2.1), true)
  else (nxt cs t.2.2.2, A, false)
def pWhat (cs : List Nat) (t : Tk) (A : Ab) : Tk × Ab × Bool :=
  if t.2.1 = 116 then pTale cs t A else if t.2.1 = 110 then pNights cs t A else if t.2.1 = 109 then pMem cs t A else if t.2.1 = 100 then pDep cs t A else (t, A, false)
/-- one item, up to its semicolon: the token at which it stops, and whether it is told rightly -/
def pItem (cs : List Nat) (t : Tk) (A : Ab) : Tk × Ab × Bool :=
  if t.1 ≠ 1 then (t, A, false)
  else ((pWhat cs t A).1, (pWhat cs t A).2.1, (pWhat cs t A).2.2 && decide ((pWhat cs t A).1.1 = 3))
def pAll (cs : List Nat) : Nat → Nat → Tk → Ab → Tk × Ab × Option Nat
  | 0, k, t, A => (t, A, some k)
  | n + 1, k, t, A => if t.1 = 0 then (t, A, some k) else if (pItem cs t A).2.2 = true then pAll cs n (k + 1) (nxt cs (pItem cs t A).1.2.2.2) (pItem cs t A).2.1 else ((pItem cs t A).1, (pItem cs t A).2.1, none)
theorem nxt_af {cs : List Nat} {i : Nat} (h : i ≤ cs.length) : (nxt cs i).2.2.2 ≤ cs.length ∧ (nxt cs i).1 < 5 := by
  have h1 := rend_le (p := isB) h
  have h2 := rend_le (p := isL) h1
  have h3 := rend_le (p := isD) h1
  unfold nxt
  dsimp only
  split
  · exact ⟨h1, by dsimp only; omega⟩
  · split
    · exact ⟨h2, by dsimp only; omega⟩
    · split
      · exact ⟨h3, by dsimp only; split <;> omega⟩
      · split
        · exact ⟨by dsimp only; omega, by dsimp only; omega⟩
        · exact ⟨by dsimp only; omega, by dsimp only; omega⟩
theorem nxt_v {cs : List Nat} (hb : ∀ j : Nat, j < cs.length → gN cs j < 256) (i : Nat) : (nxt cs i).2.1 < 1000 := by
  unfold nxt
  dsimp only
  split
  · dsimp only; omega
  · rename_i hq
    split
    · dsimp only
      split
      · have := hb _ (show rend isB cs i < cs.length by omega); omega
      · omega
    · split
      · dsimp only; have := numV_le (sub cs (rend isB cs i) (rend isD cs (rend isB cs i))); omega
      · split <;> (dsimp only; omega)
/-- the object at x holds the text cs, read as far as the token t -/
def pTok (h : Hp) (x : Nat) (cs : List Nat) (t : Tk) : Prop := ∃ va : Nat, va < 1000 ∧ pText h x cs t.2.2.1 t.2.2.2 t.1 va ∧ (t.1 = 1 ∨ t.1 = 2 → va = t.2.1) ∧ t.2.2.2 ≤ cs.length ∧ t.1 < 5 ∧ t.2.1 < 1000
theorem pTok.fr {h h' : Hp} {x : Nat} {cs : List Nat} {t : Tk} (p : pTok h x cs t) (e : ∀ q : Nat, x ≤ q → q < x + 2 → h' q = h q) : pTok h' x cs t := by
  obtain ⟨va, h1, h2, h3⟩ := p
  exact ⟨va, h1, h2.fr e, h3⟩
theorem pTok.obj {h : Hp} {x : Nat} {cs : List Nat} {t : Tk} (p : pTok h x cs t) : ∃ fs : List Value, h x = some (.inl (9, fs)) := by
  obtain ⟨va, h1, ⟨h2, -⟩, h3⟩ := p
  exact ⟨_, h2⟩
theorem pTok.len {h : Hp} {x : Nat} {cs : List Nat} {t : Tk} (p : pTok h x cs t) : cs.length ≤ 150 ∧ ∀ j : Nat, j < cs.length → gN cs j < 256 := by
  obtain ⟨va, h1, ⟨-, -, h2⟩, h3⟩ := p
  exact h2
def hf2 (h h' : Hp) (x b : Nat) : Prop := ∀ q : Nat, (q < x ∨ x + 2 ≤ q) → (q < b ∨ b + 4 ≤ q) → h' q = h q
section PARSE
variable {X : Cx} {h : Hp} {z x b : Nat} {cs : List Nat} {t : Tk} {A : Ab}
theorem c_next (p : pTok h x cs t) : Ct X 2 mt_X9_nextToken [.ref x] (h, z) 0 0 (Qv (fun S' => S'.2 = z ∧ hfr h S'.1 x 2 ∧ pTok S'.1 x cs (nxt cs t.2.2.2))) := by
  obtain ⟨va, h1, h2, h3, h4, h5, h6⟩ := p
  obtain ⟨e1, e2⟩ := nxt_af h4
  refine (c_nextToken h2 h4 h1).mono ?_
  rintro r ⟨h', z'⟩ ⟨rfl, rfl, f, va2, g1, g2, g3⟩
  exact ⟨rfl, rfl, f, va2, g1, g2, g3, e1, e2, nxt_v h2.2.2.2 _⟩
theorem c_num (p : pTok h x cs t) {lo hi : Nat} (h1 : lo < 2 ^ 31) (h2 : hi < 2 ^ 31) : Ct X 0 mt_X9_isNumber [.ref x, .int (nI lo), .int (nI hi)] (h, z) 0 0 (QP (.int (b2i (num t lo hi))) (h, z)) := by
  obtain ⟨va, g1, g2, g3, g4, g5, g6⟩ := p
  have e : decide (t.1 = 2 ∧ (nI lo).toInt ≤ va ∧ (va : Int) ≤ (nI hi).toInt) = num t lo hi := by
    unfold num
    rw [nI_toInt h1, nI_toInt h2]
    apply decide_eq_decide.mpr
    constructor
    · rintro ⟨q1, q2, q3⟩
      have := g3 (Or.inr q1)
      exact ⟨q1, by omega, by omega⟩
    · rintro ⟨q1, q2, q3⟩
      have := g3 (Or.inr q1)
      exact ⟨q1, by omega, by omega⟩
  rw [← e]
  exact c_isNumber g2 (by omega) g1 _ _
theorem num_v {t : Tk} {lo hi : Nat} (h : num t lo hi = true) : t.1 = 2 ∧ lo ≤ t.2.1 ∧ t.2.1 ≤ hi := by simpa [num] using h
theorem c_numT (p : pTok h x cs t) {n : Nat} (h1 : n < 2 ^ 30) : Ct X 0 mt_X9_isNumber [.ref x, .int (nI 0), .int (nI n - nI 1)] (h, z) 0 0 (QP (.int (b2i (decide (t.1 = 2 ∧ t.2.1 < n)))) (h, z)) := by
  obtain ⟨va, g1, g2, g3, g4, g5, g6⟩ := p
  have e : decide (t.1 = 2 ∧ (nI 0).toInt ≤ va ∧ (va : Int) ≤ (nI n - nI 1).toInt) = decide (t.1 = 2 ∧ t.2.1 < n) := by
    rw [pk_sub_toInt h1 (by omega), nI_toInt (by omega)]
    apply decide_eq_decide.mpr
    constructor
    · rintro ⟨q1, q2, q3⟩
      have := g3 (Or.inr q1)
      exact ⟨q1, by omega⟩
    · rintro ⟨q1, q2⟩
      have := g3 (Or.inr q1)
      exact ⟨q1, by omega, by omega⟩
  rw [← e]
  exact c_isNumber g2 (by omega) g1 _ _
theorem gN_app {l : List Nat} {v t : Nat} (h : t < l.length + 1) : gN (l ++ [v]) t = if t = l.length then v else gN l t := by
  by_cases hq : t = l.length
  · rw [if_pos hq]; subst hq; simp [gN, List.getD_eq_getElem?_getD]
  · rw [if_neg hq]
    simp [gN, List.getD_eq_getElem?_getD, List.getElem?_append_left (show t < l.length by omega)]
theorem bIs_tale {B : Bk} {A : Ab} (hp : (bP B).length = 6) (hw : (bW B).length = 6) (q : bIs B A) (h6 : (aP A).length < 6) (v w : Nat) : bIs (bT B + 1, (bP B).set (bT B) v, (bW B).set (bT B) w, bK B, bH B, bM B, bD B) (aP A ++ [v], aW A ++ [w], aH A, aM A, aD A) := by
  obtain ⟨b1, b2, b3, b4, b5, b6, b7, b8⟩ := q
  refine ⟨?_, b2, b3, b4, ?_, ?_, ?_, b8⟩
  · show bT B + 1 = (aP A ++ [v]).length
    rw [List.length_append, b1]; rfl
  · show (aW A ++ [w]).length = (aP A ++ [v]).length
    rw [List.length_append, List.length_append, b5]; rfl
  · show ∀ t : Nat, t < (aP A ++ [v]).length → gN ((bP B).set (bT B) v) t = gN (aP A ++ [v]) t
    intro t ht
    rw [List.length_append, List.length_singleton] at ht
    rw [gN_set (by omega), gN_app ht, b1]
    split
    · rfl
    · exact b6 t (by omega)
  · show ∀ t : Nat, t < (aP A ++ [v]).length → gN ((bW B).set (bT B) w) t = gN (aW A ++ [w]) t
    intro t ht
    rw [List.length_append, List.length_singleton] at ht
    rw [gN_set (by omega), gN_app (by omega), b1, b5]
    split
    · rfl
    · exact b7 t (by omega)
theorem bIs_night {B : Bk} {A : Ab} (hh : (bH B).length = 8) (q : bIs B A) (h8 : (aH A).length < 8) (v : Nat) : bIs (bT B, bP B, bW B, bK B + 1, (bH B).set (bK B) v, bM B, bD B) (aP A, aW A, aH A ++ [v], aM A, aD A) := by
  obtain ⟨b1, b2, b3, b4, b5, b6, b7, b8⟩ := q
  refine ⟨b1, ?_, b3, b4, b5, b6, b7, ?_⟩
  · show bK B + 1 = (aH A ++ [v]).length
    rw [List.length_append, b2]; rfl
  · show ∀ t : Nat, t < (aH A ++ [v]).length → gN ((bH B).set (bK B) v) t = gN (aH A ++ [v]) t
    intro t ht
    rw [List.length_append, List.length_singleton] at ht
    rw [gN_set (by omega), gN_app ht, b2]
    split
    · rfl
    · exact b8 t (by omega)
theorem c_readTale (p : pTok h x cs t) (q : pBookA h b A) (w : wA A) (d : x + 2 ≤ b ∨ b + 4 ≤ x) : Ct X 3 mt_X9_readTale [.ref x, .ref b] (h, z) 0 0 (Qi (fun r S' => r = b2i (pTale cs t A).2.2 ∧ S'.2 = z ∧ hf2 h S'.1 x b ∧ pTok S'.1 x cs (pTale cs t A).1 ∧ pBookA S'.1 b (pTale cs t A).2.1)) := by
  obtain ⟨B, q1, q2⟩ := id q
  obtain ⟨b1, b2, b3, b4, b5, b6, b7, b8⟩ := id q2
  obtain ⟨w1, w2, w3, w4⟩ := w
  obtain ⟨hb, -, -, -, l1, l2, -⟩ := id q1
  obtain ⟨fx, hx⟩ := p.obj
  refine mk_X9_readTale (Nat.le_of_ble_eq_true rfl) (L := [.ref x, .ref b, .retAddr 0]) rfl ?_
  refine ev_aload_n (pc := 0) dX9_readTale_0 rfl ?_
  refine gf_X9_55 (pc := 1) rfl dX9_readTale_1 (by (try dsimp only); (repeat (first | rw [up_s] | rw [up_n (by omega)])) <;> first | rfl | assumption) ?_
  refine ev_bipush (pc := 4) (v := nI 6) dX9_readTale_4 kb_6 ?_
  refine ev_icmp_lt (pc := 6) 11 dX9_readTale_6 (by decide) (fun c_6 => ?_) (fun c_6 => ?_)
  · (try simp (disch := omega) only [i32_lti, i32_lei, i32_eqi, nI_toInt, i32z] at c_6)
    refine ev_aload_n (pc := 11) dX9_readTale_11 rfl ?_
    refine iv_X9_27 (pc := 12) rfl dX9_readTale_12 (by (try dsimp only); (repeat (first | rw [up_s] | rw [up_n (by omega)])) <;> first | rfl | assumption) (Nat.le_of_ble_eq_true rfl) (Nat.le_of_ble_eq_true rfl) (Nat.le_of_ble_eq_true rfl) (Nat.le_of_ble_eq_true rfl) (c_next p) (kv (fun S' hS => ?_))
    obtain ⟨h1, z1⟩ := S'
    obtain ⟨rfl, f1, p1⟩ := hS
    have r1 := q1.frA f1 (by omega)
    obtain ⟨va1, g1, g2, g3, g4, g5, g6⟩ := id p1
    have hx1 := g2.1
    have hb1 := r1.1
    refine ev_aload_n (pc := 15) dX9_readTale_15 rfl ?_
    refine ev_iconst (pc := 16) (v := nI 1) dX9_readTale_16 kc_1 ?_
    refine ev_bipush (pc := 17) (v := nI 9) dX9_readTale_17 kb_9 ?_
    refine iv_X9_58 (pc := 19) rfl dX9_readTale_19 (by (try dsimp only); (repeat (first | rw [up_s] | rw [up_n (by omega)])) <;> first | rfl | assumption) (Nat.le_of_ble_eq_true rfl) (Nat.le_of_ble_eq_true rfl) (Nat.le_of_ble_eq_true rfl) (Nat.le_of_ble_eq_true rfl) (c_num p1 (by omega) (by omega)) (kp ?_)
    refine ev_if_ne (pc := 22) 27 dX9_readTale_22 (by decide) (fun c_22 => ?_) (fun c_22 => ?_)
    · simp only [b2i_e0, Bool.not_eq_false] at c_22
      have n1 := num_v c_22
      have ev1 := g3 (Or.inr n1.1)
      subst ev1
      refine ev_aload_n (pc := 27) dX9_readTale_27 rfl ?_
      refine gf_X9_40 (pc := 28) rfl dX9_readTale_28 (by (try dsimp only); (repeat (first | rw [up_s] | rw [up_n (by omega)])) <;> first | rfl | assumption) ?_
      refine ev_istore_n (pc := 31) (L' := [_, _, _]) dX9_readTale_31 (Nat.le_of_ble_eq_true rfl) rfl ?_
      refine ev_aload_n (pc := 32) dX9_readTale_32 rfl ?_
      refine iv_X9_27 (pc := 33) rfl dX9_readTale_33 (by (try dsimp only); (repeat (first | rw [up_s] | rw [up_n (by omega)])) <;> first | rfl | assumption) (Nat.le_of_ble_eq_true rfl) (Nat.le_of_ble_eq_true rfl) (Nat.le_of_ble_eq_true rfl) (Nat.le_of_ble_eq_true rfl) (c_next p1) (kv (fun S' hS => ?_))
      obtain ⟨h2, z2⟩ := S'
      obtain ⟨rfl, f2, p2⟩ := hS
      have r2 := r1.frA f2 (by omega)
      obtain ⟨va2, y1, y2, y3, y4, y5, y6⟩ := id p2
      have hx2 := y2.1
      have hb2 := r2.1
      have ff : hf2 h h2 x b := fun q ha _ => (f2 q (by omega)).trans (f1 q (by omega))
      refine ev_aload_n (pc := 36) dX9_readTale_36 rfl ?_
      refine ev_iconst (pc := 37) (v := nI 0) dX9_readTale_37 kc_0 ?_
      refine ev_aload_n (pc := 38) dX9_readTale_38 rfl ?_
      refine gf_X9_55 (pc := 39) rfl dX9_readTale_39 (by (try dsimp only); (repeat (first | rw [up_s] | rw [up_n (by omega)])) <;> first | rfl | assumption) ?_
      refine ev_iconst (pc := 42) (v := nI 1) dX9_readTale_42 kc_1 ?_
      refine ev_isub (pc := 43) dX9_readTale_43 ?_
      refine iv_X9_58 (pc := 44) rfl dX9_readTale_44 (by (try dsimp only); (repeat (first | rw [up_s] | rw [up_n (by omega)])) <;> first | rfl | assumption) (Nat.le_of_ble_eq_true rfl) (Nat.le_of_ble_eq_true rfl) (Nat.le_of_ble_eq_true rfl) (Nat.le_of_ble_eq_true rfl) (c_numT p2 (by omega)) (kp ?_)
      refine ev_if_ne (pc := 47) 63 dX9_readTale_47 (by decide) (fun c_47 => ?_) (fun c_47 => ?_)
      · simp only [b2i_e0, Bool.not_eq_false] at c_47
        have ev2 := y3 (Or.inr (of_decide_eq_true c_47).1)
        have kind := of_decide_eq_true c_47
        have hc : (nxt cs (nxt cs t.2.2.2).2.2.2).1 = 2 ∧ ((nxt cs (nxt cs t.2.2.2).2.2.2).2.1 < (aP A).length ∨ (nxt cs (nxt cs t.2.2.2).2.2.2).2.1 = 9) := ⟨kind.1, Or.inl (by omega)⟩
        subst ev2
        refine ev_aload_n (pc := 63) dX9_readTale_63 rfl ?_
        refine ev_iload_n (pc := 64) dX9_readTale_64 rfl ?_
        refine ev_aload_n (pc := 65) dX9_readTale_65 rfl ?_
        refine gf_X9_40 (pc := 66) rfl dX9_readTale_66 (by (try dsimp only); (repeat (first | rw [up_s] | rw [up_n (by omega)])) <;> first | rfl | assumption) ?_
        refine iv_X9_62 (pc := 69) rfl dX9_readTale_69 (by (try dsimp only); (repeat (first | rw [up_s] | rw [up_n (by omega)])) <;> first | rfl | assumption) (Nat.le_of_ble_eq_true rfl) (Nat.le_of_ble_eq_true rfl) (Nat.le_of_ble_eq_true rfl) (Nat.le_of_ble_eq_true rfl) (c_addTale r2 (by omega) _ _) (kv (fun S' hS => ?_))
        obtain ⟨h3, z3⟩ := S'
        obtain ⟨rfl, f3, r3⟩ := hS
        have p3 := p2.fr (fun q ha hb => f3 q (by omega))
        obtain ⟨fx3, hx3⟩ := p3.obj
        refine ev_aload_n (pc := 72) dX9_readTale_72 rfl ?_
        refine iv_X9_27 (pc := 73) rfl dX9_readTale_73 (by (try dsimp only); (repeat (first | rw [up_s] | rw [up_n (by omega)])) <;> first | rfl | assumption) (Nat.le_of_ble_eq_true rfl) (Nat.le_of_ble_eq_true rfl) (Nat.le_of_ble_eq_true rfl) (Nat.le_of_ble_eq_true rfl) (c_next p3) (kv (fun S' hS => ?_))
        obtain ⟨h4, z4⟩ := S'
        obtain ⟨rfl, f4, p4⟩ := hS
        have r4 := r3.frA f4 (by omega)
        refine ev_iconst (pc := 76) (v := nI 1) dX9_readTale_76 kc_1 ?_
        refine ev_iret (pc := 77) dX9_readTale_77 rfl rfl (Nat.le_of_ble_eq_true rfl) (Nat.le_of_ble_eq_true rfl) ?_
        refine ⟨_, rfl, ?_⟩
        have e : pTale cs t A = (nxt cs (nxt cs (nxt cs t.2.2.2).2.2.2).2.2.2, (aP A ++ [(nxt cs t.2.2.2).2.1], aW A ++ [(nxt cs (nxt cs t.2.2.2).2.2.2).2.1], aH A, aM A, aD A), true) := by unfold pTale; rw [if_neg (by omega), if_neg (by rw [c_22]; decide), if_pos hc]
        rw [e]; exact ⟨rfl, rfl, fun q ha hb => (f4 q (by omega)).trans ((f3 q (by omega)).trans (ff q ha hb)), p4, _, r4, bIs_tale l1 l2 q2 (by omega) _ _⟩
      · simp only [b2i_e0, Bool.not_eq_false] at c_47
        refine ev_aload_n (pc := 50) dX9_readTale_50 rfl ?_
        refine ev_bipush (pc := 51) (v := nI 9) dX9_readTale_51 kb_9 ?_
        refine ev_bipush (pc := 53) (v := nI 9) dX9_readTale_53 kb_9 ?_
        refine iv_X9_58 (pc := 55) rfl dX9_readTale_55 (by (try dsimp only); (repeat (first | rw [up_s] | rw [up_n (by omega)])) <;> first | rfl | assumption) (Nat.le_of_ble_eq_true rfl) (Nat.le_of_ble_eq_true rfl) (Nat.le_of_ble_eq_true rfl) (Nat.le_of_ble_eq_true rfl) (c_num p2 (by omega) (by omega)) (kp ?_)
        refine ev_if_ne (pc := 58) 63 dX9_readTale_58 (by decide) (fun c_58 => ?_) (fun c_58 => ?_)
        · simp only [b2i_e0, Bool.not_eq_false] at c_58
          have n2 := num_v c_58
          have ev2 := y3 (Or.inr n2.1)
          have hc : (nxt cs (nxt cs t.2.2.2).2.2.2).1 = 2 ∧ ((nxt cs (nxt cs t.2.2.2).2.2.2).2.1 < (aP A).length ∨ (nxt cs (nxt cs t.2.2.2).2.2.2).2.1 = 9) := ⟨n2.1, Or.inr (by omega)⟩
          subst ev2
          refine ev_aload_n (pc := 63) dX9_readTale_63 rfl ?_
          refine ev_iload_n (pc := 64) dX9_readTale_64 rfl ?_
          refine ev_aload_n (pc := 65) dX9_readTale_65 rfl ?_
          refine gf_X9_40 (pc := 66) rfl dX9_readTale_66 (by (try dsimp only); (repeat (first | rw [up_s] | rw [up_n (by omega)])) <;> first | rfl | assumption) ?_
          refine iv_X9_62 (pc := 69) rfl dX9_readTale_69 (by (try dsimp only); (repeat (first | rw [up_s] | rw [up_n (by omega)])) <;> first | rfl | assumption) (Nat.le_of_ble_eq_true rfl) (Nat.le_of_ble_eq_true rfl) (Nat.le_of_ble_eq_true rfl) (Nat.le_of_ble_eq_true rfl) (c_addTale r2 (by omega) _ _) (kv (fun S' hS => ?_))
          obtain ⟨h3, z3⟩ := S'
          obtain ⟨rfl, f3, r3⟩ := hS
          have p3 := p2.fr (fun q ha hb => f3 q (by omega))
          obtain ⟨fx3, hx3⟩ := p3.obj
          refine ev_aload_n (pc := 72) dX9_readTale_72 rfl ?_
          refine iv_X9_27 (pc := 73) rfl dX9_readTale_73 (by (try dsimp only); (repeat (first | rw [up_s] | rw [up_n (by omega)])) <;> first | rfl | assumption) (Nat.le_of_ble_eq_true rfl) (Nat.le_of_ble_eq_true rfl) (Nat.le_of_ble_eq_true rfl) (Nat.le_of_ble_eq_true rfl) (c_next p3) (kv (fun S' hS => ?_))
          obtain ⟨h4, z4⟩ := S'
          obtain ⟨rfl, f4, p4⟩ := hS
          have r4 := r3.frA f4 (by omega)
          refine ev_iconst (pc := 76) (v := nI 1) dX9_readTale_76 kc_1 ?_
          refine ev_iret (pc := 77) dX9_readTale_77 rfl rfl (Nat.le_of_ble_eq_true rfl) (Nat.le_of_ble_eq_true rfl) ?_
          refine ⟨_, rfl, ?_⟩
          have e : pTale cs t A = (nxt cs (nxt cs (nxt cs t.2.2.2).2.2.2).2.2.2, (aP A ++ [(nxt cs t.2.2.2).2.1], aW A ++ [(nxt cs (nxt cs t.2.2.2).2.2.2).2.1], aH A, aM A, aD A), true) := by unfold pTale; rw [if_neg (by omega), if_neg (by rw [c_22]; decide), if_pos hc]
          rw [e]; exact ⟨rfl, rfl, fun q ha hb => (f4 q (by omega)).trans ((f3 q (by omega)).trans (ff q ha hb)), p4, _, r4, bIs_tale l1 l2 q2 (by omega) _ _⟩
        · simp only [b2i_e0, Bool.not_eq_false] at c_58
          refine ev_iconst (pc := 61) (v := nI 0) dX9_readTale_61 kc_0 ?_
          refine ev_iret (pc := 62) dX9_readTale_62 rfl rfl (Nat.le_of_ble_eq_true rfl) (Nat.le_of_ble_eq_true rfl) ?_
          refine ⟨_, rfl, ?_⟩
          have hc : ¬ ((nxt cs (nxt cs t.2.2.2).2.2.2).1 = 2 ∧ ((nxt cs (nxt cs t.2.2.2).2.2.2).2.1 < (aP A).length ∨ (nxt cs (nxt cs t.2.2.2).2.2.2).2.1 = 9)) := by
            have k1 := of_decide_eq_false c_47
            have k2 : ¬ ((nxt cs (nxt cs t.2.2.2).2.2.2).1 = 2 ∧ 9 ≤ (nxt cs (nxt cs t.2.2.2).2.2.2).2.1 ∧ (nxt cs (nxt cs t.2.2.2).2.2.2).2.1 ≤ 9) := by simpa [num] using c_58
            omega
          have e : pTale cs t A = (nxt cs (nxt cs t.2.2.2).2.2.2, A, false) := by unfold pTale; rw [if_neg (by omega), if_neg (by rw [c_22]; decide), if_neg hc]
          rw [e]; exact ⟨rfl, rfl, ff, p2, B, r2, q2⟩
    · simp only [b2i_e0, Bool.not_eq_false] at c_22
      refine ev_iconst (pc := 25) (v := nI 0) dX9_readTale_25 kc_0 ?_
      refine ev_iret (pc := 26) dX9_readTale_26 rfl rfl (Nat.le_of_ble_eq_true rfl) (Nat.le_of_ble_eq_true rfl) ?_
      refine ⟨_, rfl, ?_⟩
      have e : pTale cs t A = (nxt cs t.2.2.2, A, false) := by unfold pTale; rw [if_neg (by omega), if_pos c_22]
      rw [e]; exact ⟨rfl, rfl, fun q _ _ => f1 q (by omega), p1, B, r1, q2⟩
  · (try simp (disch := omega) only [i32_lti, i32_lei, i32_eqi, nI_toInt, i32z] at c_6)
    refine ev_iconst (pc := 9) (v := nI 0) dX9_readTale_9 kc_0 ?_
    refine ev_iret (pc := 10) dX9_readTale_10 rfl rfl (Nat.le_of_ble_eq_true rfl) (Nat.le_of_ble_eq_true rfl) ?_
    refine ⟨_, rfl, ?_⟩
    have e : pTale cs t A = (t, A, false) := by unfold pTale; rw [if_pos (by omega)]
    rw [e]; exact ⟨rfl, rfl, fun _ _ _ => rfl, p, q⟩
theorem pNl_len (cs : List Nat) : ∀ (n : Nat) (t : Tk) (A : Ab), (aH (pNl cs n t A).2).length ≤ (aH A).length + n
  | 0, t, A => Nat.le_refl _
  | n + 1, t, A => by
    unfold pNl
    split
    · have h1 : (aH (pNl cs n (nxt cs t.2.2.2) (aP A, aW A, aH A ++ [t.2.1], aM A, aD A)).2).length ≤ (aH A ++ [t.2.1]).length + n := pNl_len cs n (nxt cs t.2.2.2) (aP A, aW A, aH A ++ [t.2.1], aM A, aD A)
      rw [List.length_append, List.length_singleton] at h1
      omega
    · show (aH A).length ≤ _; omega
theorem c_readNights (p : pTok h x cs t) (q : pBookA h b A) (w : wA A) (d : x + 2 ≤ b ∨ b + 4 ≤ x) : Ct X 3 mt_X9_readNights [.ref x, .ref b] (h, z) 0 0 (Qi (fun r S' => r = b2i (pNights cs t A).2.2 ∧ S'.2 = z ∧ hf2 h S'.1 x b ∧ pTok S'.1 x cs (pNights cs t A).1 ∧ pBookA S'.1 b (pNights cs t A).2.1)) := by
  obtain ⟨B, q1, q2⟩ := id q
  obtain ⟨b1, b2, b3, b4, b5, b6, b7, b8⟩ := id q2
  obtain ⟨w1, w2, w3, w4⟩ := w
  obtain ⟨hb, -⟩ := id q1
  obtain ⟨fx, hx⟩ := p.obj
  refine mk_X9_readNights (Nat.le_of_ble_eq_true rfl) (L := [.ref x, .ref b, .retAddr 0]) rfl ?_
  have loop : ∀ (n i : Nat), 8 - i = n → i ≤ 8 → ∀ (h1 : Hp) (t1 : Tk) (A1 : Ab), hf2 h h1 x b → pTok h1 x cs t1 → pBookA h1 b A1 → (aH A1).length ≤ i → Ev X (mi_X9_readNights 3 0 0) (Qi (fun r S' => r = b2i (decide (0 < (aH (pNl cs n t1 A1).2).length)) ∧ S'.2 = z ∧ hf2 h S'.1 x b ∧ pTok S'.1 x cs (pNl cs n t1 A1).1 ∧ pBookA S'.1 b (pNl cs n t1 A1).2)) 0 0 (h1, z) 15 [.ref x, .ref b, .int (nI i)] [] := by
    intro n
    induction n with
    | zero =>
      intro i hn hi h1 t1 A1 ff p1 r1 hl
      have hi2 : i = 8 := by omega
      subst hi2
      obtain ⟨B1, r1, e1⟩ := r1
      have hb1 := r1.1
      have ek := e1.2.1
      have en : pNl cs 0 t1 A1 = (t1, A1) := rfl
      rw [en]
      refine ev_iload_n (pc := 15) dX9_readNights_15 rfl ?_
      refine ev_bipush (pc := 16) (v := nI 8) dX9_readNights_16 kb_8 ?_
      refine ev_icmp_ge (pc := 18) 49 dX9_readNights_18 (by decide) (fun c_18 => ?_) (fun c_18 => ?_)
      · (try simp (disch := omega) only [i32_lti, i32_lei, i32_eqi, nI_toInt, i32z] at c_18)
        refine ev_aload_n (pc := 49) dX9_readNights_49 rfl ?_
        refine gf_X9_66 (pc := 50) rfl dX9_readNights_50 (by (try dsimp only); (repeat (first | rw [up_s] | rw [up_n (by omega)])) <;> first | rfl | assumption) ?_
        refine ev_if_le (pc := 53) 60 dX9_readNights_53 (by decide) (fun c_53 => ?_) (fun c_53 => ?_)
        · (try simp (disch := omega) only [i32_lti, i32_lei, i32_eqi, nI_toInt, i32z] at c_53)
          refine ev_iconst (pc := 60) (v := nI 0) dX9_readNights_60 kc_0 ?_
          refine ev_iret (pc := 61) dX9_readNights_61 rfl rfl (Nat.le_of_ble_eq_true rfl) (Nat.le_of_ble_eq_true rfl) ?_
          refine ⟨_, rfl, ?_, rfl, ff, p1, B1, r1, e1⟩
          show _ = b2i (decide (0 < (aH A1).length))
          first
            | (rw [decide_eq_true (show 0 < (aH A1).length by omega)]; rfl)
            | (rw [decide_eq_false (show ¬ 0 < (aH A1).length by omega)]; rfl)
        · (try simp (disch := omega) only [i32_lti, i32_lei, i32_eqi, nI_toInt, i32z] at c_53)
          refine ev_iconst (pc := 56) (v := nI 1) dX9_readNights_56 kc_1 ?_
          refine ev_goto (pc := 57) 61 dX9_readNights_57 (by decide) ?_
          refine ev_iret (pc := 61) dX9_readNights_61 rfl rfl (Nat.le_of_ble_eq_true rfl) (Nat.le_of_ble_eq_true rfl) ?_
          refine ⟨_, rfl, ?_, rfl, ff, p1, B1, r1, e1⟩
          show _ = b2i (decide (0 < (aH A1).length))
          first
            | (rw [decide_eq_true (show 0 < (aH A1).length by omega)]; rfl)
            | (rw [decide_eq_false (show ¬ 0 < (aH A1).length by omega)]; rfl)
      · exfalso; (try simp (disch := omega) only [i32_lti, i32_lei, i32_eqi, nI_toInt, i32z] at c_18); omega
    | succ n ih =>
      intro i hn hi h1 t1 A1 ff p1 r1 hl
      obtain ⟨B1, r1, e1⟩ := r1
      have hb1 := r1.1
      have ek := e1.2.1
      obtain ⟨va1, g1, g2, g3, g4, g5, g6⟩ := id p1
      have hx1 := g2.1
      refine ev_iload_n (pc := 15) dX9_readNights_15 rfl ?_
      refine ev_bipush (pc := 16) (v := nI 8) dX9_readNights_16 kb_8 ?_
      refine ev_icmp_ge (pc := 18) 49 dX9_readNights_18 (by decide) (fun c_18 => ?_) (fun c_18 => ?_)
      · exfalso; (try simp (disch := omega) only [i32_lti, i32_lei, i32_eqi, nI_toInt, i32z] at c_18); omega
      · (try simp (disch := omega) only [i32_lti, i32_lei, i32_eqi, nI_toInt, i32z] at c_18)
        refine ev_aload_n (pc := 21) dX9_readNights_21 rfl ?_
        refine ev_iconst (pc := 22) (v := nI 1) dX9_readNights_22 kc_1 ?_
        refine ev_bipush (pc := 23) (v := nI 9) dX9_readNights_23 kb_9 ?_
        refine iv_X9_58 (pc := 25) rfl dX9_readNights_25 (by (try dsimp only); (repeat (first | rw [up_s] | rw [up_n (by omega)])) <;> first | rfl | assumption) (Nat.le_of_ble_eq_true rfl) (Nat.le_of_ble_eq_true rfl) (Nat.le_of_ble_eq_true rfl) (Nat.le_of_ble_eq_true rfl) (c_num p1 (by omega) (by omega)) (kp ?_)
        refine ev_if_eq (pc := 28) 49 dX9_readNights_28 (by decide) (fun c_28 => ?_) (fun c_28 => ?_)
        · simp only [b2i_e0, Bool.not_eq_false] at c_28
          have en : pNl cs (n + 1) t1 A1 = (t1, A1) := by
            show (if num t1 1 9 = true then _ else _) = _
            rw [if_neg (by rw [c_28]; decide)]
          rw [en]
          refine ev_aload_n (pc := 49) dX9_readNights_49 rfl ?_
          refine gf_X9_66 (pc := 50) rfl dX9_readNights_50 (by (try dsimp only); (repeat (first | rw [up_s] | rw [up_n (by omega)])) <;> first | rfl | assumption) ?_
          refine ev_if_le (pc := 53) 60 dX9_readNights_53 (by decide) (fun c_53 => ?_) (fun c_53 => ?_)
          · (try simp (disch := omega) only [i32_lti, i32_lei, i32_eqi, nI_toInt, i32z] at c_53)
            refine ev_iconst (pc := 60) (v := nI 0) dX9_readNights_60 kc_0 ?_
            refine ev_iret (pc := 61) dX9_readNights_61 rfl rfl (Nat.le_of_ble_eq_true rfl) (Nat.le_of_ble_eq_true rfl) ?_
            refine ⟨_, rfl, ?_, rfl, ff, p1, B1, r1, e1⟩
            show _ = b2i (decide (0 < (aH A1).length))
            first
              | (rw [decide_eq_true (show 0 < (aH A1).length by omega)]; rfl)
              | (rw [decide_eq_false (show ¬ 0 < (aH A1).length by omega)]; rfl)
          · (try simp (disch := omega) only [i32_lti, i32_lei, i32_eqi, nI_toInt, i32z] at c_53)
            refine ev_iconst (pc := 56) (v := nI 1) dX9_readNights_56 kc_1 ?_
            refine ev_goto (pc := 57) 61 dX9_readNights_57 (by decide) ?_
            refine ev_iret (pc := 61) dX9_readNights_61 rfl rfl (Nat.le_of_ble_eq_true rfl) (Nat.le_of_ble_eq_true rfl) ?_
            refine ⟨_, rfl, ?_, rfl, ff, p1, B1, r1, e1⟩
            show _ = b2i (decide (0 < (aH A1).length))
            first
              | (rw [decide_eq_true (show 0 < (aH A1).length by omega)]; rfl)
              | (rw [decide_eq_false (show ¬ 0 < (aH A1).length by omega)]; rfl)
        · simp only [b2i_e0, Bool.not_eq_false] at c_28
          have en : pNl cs (n + 1) t1 A1 = pNl cs n (nxt cs t1.2.2.2) (aP A1, aW A1, aH A1 ++ [t1.2.1], aM A1, aD A1) := by
            show (if num t1 1 9 = true then _ else _) = _
            rw [if_pos c_28]
          rw [en]
          have ev1 := g3 (Or.inr (num_v c_28).1)
          subst ev1
          refine ev_aload_n (pc := 31) dX9_readNights_31 rfl ?_
          refine ev_aload_n (pc := 32) dX9_readNights_32 rfl ?_
          refine gf_X9_40 (pc := 33) rfl dX9_readNights_33 (by (try dsimp only); (repeat (first | rw [up_s] | rw [up_n (by omega)])) <;> first | rfl | assumption) ?_
          refine iv_X9_69 (pc := 36) rfl dX9_readNights_36 (by (try dsimp only); (repeat (first | rw [up_s] | rw [up_n (by omega)])) <;> first | rfl | assumption) (Nat.le_of_ble_eq_true rfl) (Nat.le_of_ble_eq_true rfl) (Nat.le_of_ble_eq_true rfl) (Nat.le_of_ble_eq_true rfl) (c_addNight r1 (by omega) _) (kv (fun S' hS => ?_))
          obtain ⟨h3, z3⟩ := S'
          obtain ⟨rfl, f3, r3⟩ := hS
          have p3 := p1.fr (fun q ha hb => f3 q (by omega))
          obtain ⟨fx3, hx3⟩ := p3.obj
          refine ev_aload_n (pc := 39) dX9_readNights_39 rfl ?_
          refine iv_X9_27 (pc := 40) rfl dX9_readNights_40 (by (try dsimp only); (repeat (first | rw [up_s] | rw [up_n (by omega)])) <;> first | rfl | assumption) (Nat.le_of_ble_eq_true rfl) (Nat.le_of_ble_eq_true rfl) (Nat.le_of_ble_eq_true rfl) (Nat.le_of_ble_eq_true rfl) (c_next p3) (kv (fun S' hS => ?_))
          obtain ⟨h4, z4⟩ := S'
          obtain ⟨rfl, f4, p4⟩ := hS
          have r4 := r3.frA f4 (by omega)
          refine ev_iinc (pc := 43) (L' := [_, _, _]) dX9_readNights_43 rfl (nI_1 _) rfl ?_
          refine ev_goto (pc := 46) 15 dX9_readNights_46 (by decide) ?_
          exact ih (i + 1) (by omega) (by omega) h4 _ _ (fun q ha hb => (f4 q (by omega)).trans ((f3 q (by omega)).trans (ff q ha hb))) p4 ⟨_, r4, bIs_night r1.2.2.2.2.2.2 e1 (by omega) _⟩ (by show (aH A1 ++ [t1.2.1]).length ≤ i + 1; rw [List.length_append, List.length_singleton]; omega)
  refine ev_aload_n (pc := 0) dX9_readNights_0 rfl ?_
  refine gf_X9_66 (pc := 1) rfl dX9_readNights_1 (by (try dsimp only); (repeat (first | rw [up_s] | rw [up_n (by omega)])) <;> first | rfl | assumption) ?_
  refine ev_if_le (pc := 4) 9 dX9_readNights_4 (by decide) (fun c_4 => ?_) (fun c_4 => ?_)
  · (try simp (disch := omega) only [i32_lti, i32_lei, i32_eqi, nI_toInt, i32z] at c_4)
    refine ev_aload_n (pc := 9) dX9_readNights_9 rfl ?_
    refine iv_X9_27 (pc := 10) rfl dX9_readNights_10 (by (try dsimp only); (repeat (first | rw [up_s] | rw [up_n (by omega)])) <;> first | rfl | assumption) (Nat.le_of_ble_eq_true rfl) (Nat.le_of_ble_eq_true rfl) (Nat.le_of_ble_eq_true rfl) (Nat.le_of_ble_eq_true rfl) (c_next p) (kv (fun S' hS => ?_))
    obtain ⟨h1, z1⟩ := S'
    obtain ⟨rfl, f1, p1⟩ := hS
    have r1 := q1.frA f1 (by omega)
    refine ev_iconst (pc := 13) (v := nI 0) dX9_readNights_13 kc_0 ?_
    refine ev_istore_n (pc := 14) (L' := [_, _, _]) dX9_readNights_14 (Nat.le_of_ble_eq_true rfl) rfl ?_
    have e : pNights cs t A = ((pNl cs 8 (nxt cs t.2.2.2) A).1, (pNl cs 8 (nxt cs t.2.2.2) A).2, decide (0 < (aH (pNl cs 8 (nxt cs t.2.2.2) A).2).length)) := by unfold pNights; rw [if_neg (by omega)]
    rw [e]
    exact loop 8 0 rfl (by omega) h1 _ A (fun q ha _ => f1 q (by omega)) p1 ⟨B, r1, q2⟩ (by omega)
  · (try simp (disch := omega) only [i32_lti, i32_lei, i32_eqi, nI_toInt, i32z] at c_4)
    refine ev_iconst (pc := 7) (v := nI 0) dX9_readNights_7 kc_0 ?_
    refine ev_iret (pc := 8) dX9_readNights_8 rfl rfl (Nat.le_of_ble_eq_true rfl) (Nat.le_of_ble_eq_true rfl) ?_
    refine ⟨_, rfl, ?_⟩
    have e : pNights cs t A = (t, A, false) := by unfold pNights; rw [if_pos (by omega)]
    rw [e]; exact ⟨rfl, rfl, fun _ _ _ => rfl, p, q⟩
theorem c_readMemory (p : pTok h x cs t) (q : pBookA h b A) (w : wA A) (d : x + 2 ≤ b ∨ b + 4 ≤ x) : Ct X 3 mt_X9_readMemory [.ref x, .ref b] (h, z) 0 0 (Qi (fun r S' => r = b2i (pMem cs t A).2.2 ∧ S'.2 = z ∧ hf2 h S'.1 x b ∧ pTok S'.1 x cs (pMem cs t A).1 ∧ pBookA S'.1 b (pMem cs t A).2.1)) := by
  obtain ⟨B, q1, q2⟩ := id q
  obtain ⟨b1, b2, b3, b4, b5, b6, b7, b8⟩ := id q2
  obtain ⟨w1, w2, w3, w4⟩ := w
  obtain ⟨hb, -⟩ := id q1
  obtain ⟨fx, hx⟩ := p.obj
  refine mk_X9_readMemory (Nat.le_of_ble_eq_true rfl) (L := [.ref x, .ref b]) rfl ?_
  refine ev_aload_n (pc := 0) dX9_readMemory_0 rfl ?_
  refine gf_X9_73 (pc := 1) rfl dX9_readMemory_1 (by (try dsimp only); (repeat (first | rw [up_s] | rw [up_n (by omega)])) <;> first | rfl | assumption) ?_
  refine ev_if_le (pc := 4) 9 dX9_readMemory_4 (by decide) (fun c_4 => ?_) (fun c_4 => ?_)
  · (try simp (disch := omega) only [i32_lti, i32_lei, i32_eqi, nI_toInt, i32z] at c_4)
    refine ev_aload_n (pc := 9) dX9_readMemory_9 rfl ?_
    refine iv_X9_27 (pc := 10) rfl dX9_readMemory_10 (by (try dsimp only); (repeat (first | rw [up_s] | rw [up_n (by omega)])) <;> first | rfl | assumption) (Nat.le_of_ble_eq_true rfl) (Nat.le_of_ble_eq_true rfl) (Nat.le_of_ble_eq_true rfl) (Nat.le_of_ble_eq_true rfl) (c_next p) (kv (fun S' hS => ?_))
    obtain ⟨h1, z1⟩ := S'
    obtain ⟨rfl, f1, p1⟩ := hS
    have r1 := q1.frA f1 (by omega)
    obtain ⟨va1, g1, g2, g3, g4, g5, g6⟩ := id p1
    have hx1 := g2.1
    obtain ⟨hb1, k2, k3, k4, k5⟩ := id r1
    refine ev_aload_n (pc := 13) dX9_readMemory_13 rfl ?_
    refine ev_iconst (pc := 14) (v := nI 1) dX9_readMemory_14 kc_1 ?_
    refine ev_bipush (pc := 15) (v := nI 9) dX9_readMemory_15 kb_9 ?_
    refine iv_X9_58 (pc := 17) rfl dX9_readMemory_17 (by (try dsimp only); (repeat (first | rw [up_s] | rw [up_n (by omega)])) <;> first | rfl | assumption) (Nat.le_of_ble_eq_true rfl) (Nat.le_of_ble_eq_true rfl) (Nat.le_of_ble_eq_true rfl) (Nat.le_of_ble_eq_true rfl) (c_num p1 (by omega) (by omega)) (kp ?_)
    refine ev_if_ne (pc := 20) 25 dX9_readMemory_20 (by decide) (fun c_20 => ?_) (fun c_20 => ?_)
    · simp only [b2i_e0, Bool.not_eq_false] at c_20
      have ev1 := g3 (Or.inr (num_v c_20).1)
      subst ev1
      refine ev_aload_n (pc := 25) dX9_readMemory_25 rfl ?_
      refine ev_aload_n (pc := 26) dX9_readMemory_26 rfl ?_
      refine gf_X9_40 (pc := 27) rfl dX9_readMemory_27 (by (try dsimp only); (repeat (first | rw [up_s] | rw [up_n (by omega)])) <;> first | rfl | assumption) ?_
      refine pf_X9_73 (pc := 30) rfl dX9_readMemory_30 (by (try dsimp only); (repeat (first | rw [up_s] | rw [up_n (by omega)])) <;> first | rfl | assumption) ?_
      refine ev_aload_n (pc := 33) dX9_readMemory_33 rfl ?_
      have p3 := p1.fr (h' := hup h1 b (.inl (0, [.int (nI (bT B)), .ref (b + 1), .ref (b + 2), .int (nI (bK B)), .ref (b + 3), .int (nI (nxt cs t.2.2.2).2.1), .int (nI (bD B))]))) (fun q ha hb => up_n (by omega))
      obtain ⟨fx3, hx3⟩ := p3.obj
      refine iv_X9_27 (pc := 34) rfl dX9_readMemory_34 (by (try dsimp only); (repeat (first | rw [up_s] | rw [up_n (by omega)])) <;> first | rfl | assumption) (Nat.le_of_ble_eq_true rfl) (Nat.le_of_ble_eq_true rfl) (Nat.le_of_ble_eq_true rfl) (Nat.le_of_ble_eq_true rfl) (c_next p3) (kv (fun S' hS => ?_))
      obtain ⟨h4, z4⟩ := S'
      obtain ⟨rfl, f4, p4⟩ := hS
      have r4 : pBook h4 b (bT B, bP B, bW B, bK B, bH B, (nxt cs t.2.2.2).2.1, bD B) := ⟨(f4 b (by omega)).trans (up_s _ _ _), (f4 (b + 1) (by omega)).trans ((up_n (by omega)).trans k2), (f4 (b + 2) (by omega)).trans ((up_n (by omega)).trans k3), (f4 (b + 3) (by omega)).trans ((up_n (by omega)).trans k4), k5⟩
      refine ev_iconst (pc := 37) (v := nI 1) dX9_readMemory_37 kc_1 ?_
      refine ev_iret (pc := 38) dX9_readMemory_38 rfl rfl (Nat.le_of_ble_eq_true rfl) (Nat.le_of_ble_eq_true rfl) ?_
      refine ⟨_, rfl, ?_⟩
      have e : pMem cs t A = (nxt cs (nxt cs t.2.2.2).2.2.2, (aP A, aW A, aH A, (nxt cs t.2.2.2).2.1, aD A), true) := by unfold pMem; rw [if_neg (by omega), if_pos c_20]
      rw [e]; exact ⟨rfl, rfl, fun q ha hb => (f4 q (by omega)).trans ((up_n (by omega)).trans (f1 q (by omega))), p4, _, r4, b1, b2, rfl, b4, b5, b6, b7, b8⟩
    · simp only [b2i_e0, Bool.not_eq_false] at c_20
      refine ev_iconst (pc := 23) (v := nI 0) dX9_readMemory_23 kc_0 ?_
      refine ev_iret (pc := 24) dX9_readMemory_24 rfl rfl (Nat.le_of_ble_eq_true rfl) (Nat.le_of_ble_eq_true rfl) ?_
      refine ⟨_, rfl, ?_⟩
      have e : pMem cs t A = (nxt cs t.2.2.2, A, false) := by unfold pMem; rw [if_neg (by omega), if_neg (by rw [c_20]; decide)]
      rw [e]; exact ⟨rfl, rfl, fun q _ _ => f1 q (by omega), p1, B, r1, q2⟩
  · (try simp (disch := omega) only [i32_lti, i32_lei, i32_eqi, nI_toInt, i32z] at c_4)
    refine ev_iconst (pc := 7) (v := nI 0) dX9_readMemory_7 kc_0 ?_
    refine ev_iret (pc := 8) dX9_readMemory_8 rfl rfl (Nat.le_of_ble_eq_true rfl) (Nat.le_of_ble_eq_true rfl) ?_
    refine ⟨_, rfl, ?_⟩
    have e : pMem cs t A = (t, A, false) := by unfold pMem; rw [if_pos (by omega)]
    rw [e]; exact ⟨rfl, rfl, fun _ _ _ => rfl, p, q⟩
theorem c_readDepth (p : pTok h x cs t) (q : pBookA h b A) (w : wA A) (d : x + 2 ≤ b ∨ b + 4 ≤ x) : Ct X 3 mt_X9_readDepth [.ref x, .ref b] (h, z) 0 0 (Qi (fun r S' => r = b2i (pDep cs t A).2.2 ∧ S'.2 = z ∧ hf2 h S'.1 x b ∧ pTok S'.1 x cs (pDep cs t A).1 ∧ pBookA S'.1 b (pDep cs t A).2.1)) := by
  obtain ⟨B, q1, q2⟩ := id q
  obtain ⟨b1, b2, b3, b4, b5, b6, b7, b8⟩ := id q2
  obtain ⟨w1, w2, w3, w4⟩ := w
  obtain ⟨hb, -⟩ := id q1
  obtain ⟨fx, hx⟩ := p.obj
  refine mk_X9_readDepth (Nat.le_of_ble_eq_true rfl) (L := [.ref x, .ref b]) rfl ?_
  refine ev_aload_n (pc := 0) dX9_readDepth_0 rfl ?_
  refine gf_X9_76 (pc := 1) rfl dX9_readDepth_1 (by (try dsimp only); (repeat (first | rw [up_s] | rw [up_n (by omega)])) <;> first | rfl | assumption) ?_
  refine ev_if_le (pc := 4) 9 dX9_readDepth_4 (by decide) (fun c_4 => ?_) (fun c_4 => ?_)
  · (try simp (disch := omega) only [i32_lti, i32_lei, i32_eqi, nI_toInt, i32z] at c_4)
    refine ev_aload_n (pc := 9) dX9_readDepth_9 rfl ?_
    refine iv_X9_27 (pc := 10) rfl dX9_readDepth_10 (by (try dsimp only); (repeat (first | rw [up_s] | rw [up_n (by omega)])) <;> first | rfl | assumption) (Nat.le_of_ble_eq_true rfl) (Nat.le_of_ble_eq_true rfl) (Nat.le_of_ble_eq_true rfl) (Nat.le_of_ble_eq_true rfl) (c_next p) (kv (fun S' hS => ?_))
    obtain ⟨h1, z1⟩ := S'
    obtain ⟨rfl, f1, p1⟩ := hS
    have r1 := q1.frA f1 (by omega)
    obtain ⟨va1, g1, g2, g3, g4, g5, g6⟩ := id p1
    have hx1 := g2.1
    obtain ⟨hb1, k2, k3, k4, k5⟩ := id r1
    refine ev_aload_n (pc := 13) dX9_readDepth_13 rfl ?_
    refine ev_iconst (pc := 14) (v := nI 1) dX9_readDepth_14 kc_1 ?_
    refine ev_bipush (pc := 15) (v := nI 6) dX9_readDepth_15 kb_6 ?_
    refine iv_X9_58 (pc := 17) rfl dX9_readDepth_17 (by (try dsimp only); (repeat (first | rw [up_s] | rw [up_n (by omega)])) <;> first | rfl | assumption) (Nat.le_of_ble_eq_true rfl) (Nat.le_of_ble_eq_true rfl) (Nat.le_of_ble_eq_true rfl) (Nat.le_of_ble_eq_true rfl) (c_num p1 (by omega) (by omega)) (kp ?_)
    refine ev_if_ne (pc := 20) 25 dX9_readDepth_20 (by decide) (fun c_20 => ?_) (fun c_20 => ?_)
    · simp only [b2i_e0, Bool.not_eq_false] at c_20
      have ev1 := g3 (Or.inr (num_v c_20).1)
      subst ev1
      refine ev_aload_n (pc := 25) dX9_readDepth_25 rfl ?_
      refine ev_aload_n (pc := 26) dX9_readDepth_26 rfl ?_
      refine gf_X9_40 (pc := 27) rfl dX9_readDepth_27 (by (try dsimp only); (repeat (first | rw [up_s] | rw [up_n (by omega)])) <;> first | rfl | assumption) ?_
      refine pf_X9_76 (pc := 30) rfl dX9_readDepth_30 (by (try dsimp only); (repeat (first | rw [up_s] | rw [up_n (by omega)])) <;> first | rfl | assumption) ?_
      refine ev_aload_n (pc := 33) dX9_readDepth_33 rfl ?_
      have p3 := p1.fr (h' := hup h1 b (.inl (0, [.int (nI (bT B)), .ref (b + 1), .ref (b + 2), .int (nI (bK B)), .ref (b + 3), .int (nI (bM B)), .int (nI (nxt cs t.2.2.2).2.1)]))) (fun q ha hb => up_n (by omega))
      obtain ⟨fx3, hx3⟩ := p3.obj
      refine iv_X9_27 (pc := 34) rfl dX9_readDepth_34 (by (try dsimp only); (repeat (first | rw [up_s] | rw [up_n (by omega)])) <;> first | rfl | assumption) (Nat.le_of_ble_eq_true rfl) (Nat.le_of_ble_eq_true rfl) (Nat.le_of_ble_eq_true rfl) (Nat.le_of_ble_eq_true rfl) (c_next p3) (kv (fun S' hS => ?_))
      obtain ⟨h4, z4⟩ := S'
      obtain ⟨rfl, f4, p4⟩ := hS
      have r4 : pBook h4 b (bT B, bP B, bW B, bK B, bH B, bM B, (nxt cs t.2.2.2).2.1) := ⟨(f4 b (by omega)).trans (up_s _ _ _), (f4 (b + 1) (by omega)).trans ((up_n (by omega)).trans k2), (f4 (b + 2) (by omega)).trans ((up_n (by omega)).trans k3), (f4 (b + 3) (by omega)).trans ((up_n (by omega)).trans k4), k5⟩
      refine ev_iconst (pc := 37) (v := nI 1) dX9_readDepth_37 kc_1 ?_
      refine ev_iret (pc := 38) dX9_readDepth_38 rfl rfl (Nat.le_of_ble_eq_true rfl) (Nat.le_of_ble_eq_true rfl) ?_
      refine ⟨_, rfl, ?_⟩
      have e : pDep cs t A = (nxt cs (nxt cs t.2.2.2).2.2.2, (aP A, aW A, aH A, aM A, (nxt cs t.2.2.2).2.1), true) := by unfold pDep; rw [if_neg (by omega), if_pos c_20]
      rw [e]; exact ⟨rfl, rfl, fun q ha hb => (f4 q (by omega)).trans ((up_n (by omega)).trans (f1 q (by omega))), p4, _, r4, b1, b2, b3, rfl, b5, b6, b7, b8⟩
    · simp only [b2i_e0, Bool.not_eq_false] at c_20
      refine ev_iconst (pc := 23) (v := nI 0) dX9_readDepth_23 kc_0 ?_
      refine ev_iret (pc := 24) dX9_readDepth_24 rfl rfl (Nat.le_of_ble_eq_true rfl) (Nat.le_of_ble_eq_true rfl) ?_
      refine ⟨_, rfl, ?_⟩
      have e : pDep cs t A = (nxt cs t.2.2.2, A, false) := by unfold pDep; rw [if_neg (by omega), if_neg (by rw [c_20]; decide)]
      rw [e]; exact ⟨rfl, rfl, fun q _ _ => f1 q (by omega), p1, B, r1, q2⟩
  · (try simp (disch := omega) only [i32_lti, i32_lei, i32_eqi, nI_toInt, i32z] at c_4)
    refine ev_iconst (pc := 7) (v := nI 0) dX9_readDepth_7 kc_0 ?_
    refine ev_iret (pc := 8) dX9_readDepth_8 rfl rfl (Nat.le_of_ble_eq_true rfl) (Nat.le_of_ble_eq_true rfl) ?_
    refine ⟨_, rfl, ?_⟩
    have e : pDep cs t A = (t, A, false) := by unfold pDep; rw [if_pos (by omega)]
    rw [e]; exact ⟨rfl, rfl, fun _ _ _ => rfl, p, q⟩
end PARSE
