/-! ===== what stays so as she tells: pure ===== -/
theorem nodup_le : ∀ (n : Nat) (l : List Nat), l.Nodup → (∀ x ∈ l, x < n) → l.length ≤ n
  | 0, l, _, h => by
    cases l with
    | nil => simp
    | cons a l => exact absurd (h a List.mem_cons_self) (by omega)
  | n + 1, l, hd, h => by
    have h1 : (l.erase n).length ≤ n := nodup_le n _ (hd.erase n) (fun x hx => by
      have h2 := (List.Nodup.mem_erase_iff hd).mp hx
      have h3 := h x h2.2
      have h4 := h2.1
      omega)
    have h5 := List.length_erase (a := n) (l := l)
    split at h5 <;> omega
theorem gN_ge {l : List Nat} {x : Nat} (h : l.length ≤ x) : gN l x = 0 := by simp [gN, List.getD_eq_getElem?_getD, List.getElem?_eq_none h]
def wB (m : Nat) (B : Bk) : Prop := bT B ≤ 6 ∧ 1 ≤ bK B ∧ bK B ≤ 8 ∧ bM B < 100 ∧ bD B < 100 ∧ (∀ t : Nat, t < bT B → 1 ≤ gN (bP B) t ∧ gN (bP B) t < 100 ∧ gN (bW B) t < 10) ∧ ∀ k : Nat, k < bK B → gN (bH B) k ≤ m
theorem wB.ho {m : Nat} {B : Bk} (w : wB m B) (i : Nat) : hoN B i ≤ m := by
  obtain ⟨w1, w2, w3, w4, w5, w6, w7⟩ := w
  exact w7 _ (Nat.mod_lt _ (by omega))
/-- what was not begun has parts left -/
def wF (B : Bk) (T : Tl) : Prop := ∀ t : Nat, t < bT B → (tB T).testBit t = false → 0 < gN (tF T) t
theorem wT_part {T : Tl} {l : List Nat} {t k : Nat} (ho : tO T = l ++ [t]) (hnd : (l ++ [t]).Nodup) (hl : ∀ x ∈ l, x < 6 ∧ (tB T).testBit x = true ∧ 0 < gN (tF T) x ∧ gN (tA T) x ≤ tN T) (ht : t < 6) (hb : (tB T).testBit t = true) (h64 : tB T < 64) (hF : ∀ t : Nat, gN (tF T) t < 100) (hH : tH T < 100) (hN : tN T < 1000) (lA : (tA T).length = 6) (lF : (tF T).length = 6) (hp : l.Pairwise (fun x y => gN (tA T) x ≤ gN (tA T) y)) : wT (tPart T t k) := by
  have hmem : ∀ x ∈ l ++ [t], x < 6 := fun x hx => by
    rcases List.mem_append.mp hx with q | q
    · exact (hl x q).1
    · rw [List.mem_singleton.mp q]; exact ht
  have h6 := nodup_le 6 _ hnd hmem
  have hnt : t ∉ l := fun q => by
    rw [List.nodup_append] at hnd
    exact hnd.2.2 t q t (by simp) rfl
  have hA : ∀ x : Nat, gN ((tA T).set t (tN T)) x = if x = t then tN T else gN (tA T) x := fun x => gN_set (by omega)
  have hFs : ∀ x : Nat, gN ((tF T).set t (gN (tF T) t - k)) x = if x = t then gN (tF T) t - k else gN (tF T) x := fun x => gN_set (by omega)
  have hpl : l.Pairwise (fun x y => gN ((tA T).set t (tN T)) x ≤ gN ((tA T).set t (tN T)) y) := by
    refine List.Pairwise.imp_of_mem ?_ hp
    intro x y hx hy hxy
    rw [hA, hA, if_neg (show ¬ x = t from fun q => hnt (q ▸ hx)), if_neg (show ¬ y = t from fun q => hnt (q ▸ hy))]
    exact hxy
  have hll : ∀ x ∈ l, x < 6 ∧ (tB T).testBit x = true ∧ 0 < gN ((tF T).set t (gN (tF T) t - k)) x ∧ gN ((tA T).set t (tN T)) x ≤ tN T := fun x hx => by
    obtain ⟨q1, q2, q3, q4⟩ := hl x hx
    have hne : ¬ x = t := fun q => hnt (q ▸ hx)
    rw [hFs, hA, if_neg hne, if_neg hne]
    exact ⟨q1, q2, q3, q4⟩
  have hF2 : ∀ x : Nat, gN ((tF T).set t (gN (tF T) t - k)) x < 100 := fun x => by
    rw [hFs]
    have h1 := hF x
    have h2 := hF t
    split <;> omega
  unfold wT tPart
  dsimp only [tN, tH, tS, tV, tB, tO, tF, tA]
  dsimp only [tN, tH, tS, tV, tB, tO, tF, tA] at ho hnd hl hb h64 hF hH hN lA lF hp hA hFs hpl hll hF2
  rw [ho]
  by_cases h0 : gN T.2.2.2.2.2.2.1 t - k = 0
  · rw [if_pos h0, List.dropLast_concat]
    rw [List.length_append] at h6
    exact ⟨(List.nodup_append.mp hnd).1, hll, h64, by omega, hF2, by omega, hN, by simp [lA], by simp [lF], hpl⟩
  · rw [if_neg h0]
    refine ⟨hnd, ?_, h64, h6, hF2, by omega, hN, by simp [lA], by simp [lF], ?_⟩
    · intro x hx
      rcases List.mem_append.mp hx with q | q
      · exact hll x q
      · rw [List.mem_singleton.mp q, hFs, hA, if_pos rfl, if_pos rfl]
        exact ⟨ht, hb, by omega, Nat.le_refl _⟩
    · rw [List.pairwise_append]
      refine ⟨hpl, List.pairwise_singleton _ _, ?_⟩
      intro x hx y hy
      rw [List.mem_singleton.mp hy, hA t, if_pos rfl]
      exact (hll x hx).2.2.2
theorem wT.tail {T : Tl} {l : List Nat} {t : Nat} (w : wT T) (ho : tO T = l ++ [t]) (k : Nat) : wT (tPart T t k) := by
  obtain ⟨w1, w2, w3, w4, w5, w6, w7, w8, w9, w10⟩ := w
  rw [ho] at w1 w2 w10
  have ht := w2 t (by simp)
  exact wT_part ho w1 (fun x hx => w2 x (List.mem_append_left _ hx)) ht.1 ht.2.1 w3 w5 w6 w7 w8 w9 (List.pairwise_append.mp w10).1
theorem lastL {l : List Nat} {t : Nat} (h : l.getLast? = some t) : ∃ k, l = k ++ [t] := List.getLast?_eq_some_iff.mp h
theorem wT.go {T : Tl} (w : wT T) : wT (goT T) := by
  unfold goT
  cases e : (tO T).getLast? with
  | none =>
    obtain ⟨w1, w2, w3, w4, w5, w6, w7, w8, w9, w10⟩ := w
    exact ⟨w1, w2, w3, w4, w5, by dsimp only [tH]; omega, w7, w8, w9, w10⟩
  | some t =>
    obtain ⟨l, hl⟩ := lastL e
    exact w.tail hl _
theorem wT.beg {T : Tl} {t : Nat} (w : wT T) (ht : t < 6) (hn : (tB T).testBit t = false) : wT (tBeg T t) := by
  obtain ⟨w1, w2, w3, w4, w5, w6, w7, w8, w9, w10⟩ := w
  have hnm : t ∉ tO T := fun q => by rw [(w2 t q).2.1] at hn; cases hn
  unfold tBeg
  refine wT_part (l := tO T) rfl ?_ ?_ ht ?_ ?_ w5 w6 w7 w8 w9 w10
  · rw [List.nodup_append]
    exact ⟨w1, by simp, fun x hx y hy q => hnm (by rw [← List.mem_singleton.mp hy, ← q]; exact hx)⟩
  · intro x hx
    obtain ⟨q1, q2, q3, q4⟩ := w2 x hx
    refine ⟨q1, ?_, q3, q4⟩
    show (tB T ||| 1 <<< t).testBit x = true
    rw [Nat.testBit_or, q2, Bool.true_or]
  · show (tB T ||| 1 <<< t).testBit t = true
    rw [Nat.testBit_or, Nat.one_shiftLeft, Nat.testBit_two_pow, decide_eq_true rfl, Bool.or_true]
  · exact bt_or64 _ w3 _ (bt_shl64 t ht)
theorem wT.dawn {T : Tl} {B : Bk} {m : Nat} (w : wT T) (b : wB m B) (hm : m < 100) (hN : tN T + 1 < 1000) : wT (dawnT B T) := by
  obtain ⟨w1, w2, w3, w4, w5, w6, w7, w8, w9, w10⟩ := w
  have hh := b.ho (tN T + 1)
  unfold dawnT
  split
  · exact ⟨w1, fun x hx => ⟨(w2 x hx).1, (w2 x hx).2.1, (w2 x hx).2.2.1, Nat.le_succ_of_le (w2 x hx).2.2.2⟩, w3, w4, w5, by show hoN B (tN T + 1) < 100; omega, hN, w8, w9, w10⟩
  · exact ⟨w1, w2, w3, w4, w5, w6, w7, w8, w9, w10⟩
theorem wT.start {B : Bk} {m : Nat} (b : wB m B) (hm : m < 100) : wT (startT B) := by
  have hh := b.ho 0
  obtain ⟨b1, b2, b3, b4, b5, b6, b7⟩ := b
  refine ⟨List.nodup_nil, fun x hx => (nomatch hx), by show 0 < 64; omega, by show 0 ≤ 6; omega, ?_, by show hoN B 0 < 100; omega, by show 0 < 1000; omega, rfl, by simp [startT, tF, lfB], List.Pairwise.nil⟩
  intro t
  show gN (lfB B) t < 100
  unfold lfB
  by_cases ht : t < 6
  · rw [gN_map ht]
    split
    · exact (b6 t (by assumption)).2.1
    · omega
  · rw [gN_ge (by simp; omega)]
    omega
theorem wF.start {B : Bk} {m : Nat} (b : wB m B) : wF B (startT B) := by
  obtain ⟨b1, b2, b3, b4, b5, b6, b7⟩ := b
  intro t ht _
  show 0 < gN (lfB B) t
  unfold lfB
  rw [gN_map (by omega), if_pos ht]
  have := (b6 t ht).1
  omega
theorem wF.part {B : Bk} {T : Tl} {t k : Nat} (f : wF B T) (hb : (tB T).testBit t = true) : wF B (tPart T t k) := by
  intro x hx hn
  have hn2 : (tB T).testBit x = false := hn
  have hxt : x ≠ t := fun q => by rw [q, hb] at hn2; cases hn2
  show 0 < gN ((tF T).set t _) x
  have h1 := f x hx hn2
  have e : gN ((tF T).set t (gN (tF T) t - k)) x = gN (tF T) x := by
    simp [gN, List.getD_eq_getElem?_getD, List.getElem?_set, if_neg (fun q => hxt (Eq.symm q) : ¬ t = x)]
  rw [e]; exact h1
theorem wF.go {B : Bk} {T : Tl} (f : wF B T) (w : wT T) : wF B (goT T) := by
  unfold goT
  cases e : (tO T).getLast? with
  | none => exact f
  | some t =>
    obtain ⟨l, hl⟩ := lastL e
    exact f.part ((w.2.1 t (by rw [hl]; simp)).2.1)
theorem wF.beg {B : Bk} {T : Tl} {t : Nat} (f : wF B T) : wF B (tBeg T t) := by
  unfold tBeg
  refine wF.part ?_ ?_
  · intro x hx hn
    refine f x hx ?_
    have hn2 : (tB T ||| 1 <<< t).testBit x = false := hn
    rw [Nat.testBit_or, Bool.or_eq_false_iff] at hn2
    exact hn2.1
  · show (tB T ||| 1 <<< t).testBit t = true
    rw [Nat.testBit_or, Nat.one_shiftLeft, Nat.testBit_two_pow, decide_eq_true rfl, Bool.or_true]
theorem wF.dawn {B : Bk} {T : Tl} (f : wF B T) : wF B (dawnT B T) := by
  unfold dawnT
  split <;> exact f
theorem mayN_t {B : Bk} {T : Tl} {k : Nat} (h : mayN B T k = true) : tV T = true ∧ 0 < tH T ∧ (tB T).testBit k = false ∧ (tO T).length < bD B ∧ (gN (bW B) k = 9 ∨ (tO T).getLast? = some (gN (bW B) k)) := by
  simpa [mayN, and_assoc] using h
theorem wT.len {T : Tl} {t : Nat} (w : wT T) (ht : t < 6) (hn : (tB T).testBit t = false) : (tO T).length < 6 := by
  obtain ⟨w1, w2, -⟩ := w
  have hnm : t ∉ tO T := fun q => by rw [(w2 t q).2.1] at hn; cases hn
  have := nodup_le 6 (tO T ++ [t]) (by
    rw [List.nodup_append]
    exact ⟨w1, by simp, fun x hx y hy q => hnm (by rw [← List.mem_singleton.mp hy, ← q]; exact hx)⟩) (fun x hx => by
    rcases List.mem_append.mp hx with q | q
    · exact (w2 x q).1
    · rw [List.mem_singleton.mp q]; exact ht)
  rw [List.length_append] at this
  simp at this
  omega
theorem goT_N (T : Tl) : tN (goT T) = tN T := by
  unfold goT; cases (tO T).getLast? <;> rfl
def stepW (B : Bk) (w : List Nat) (S : Tl × Nat) : Tl × Nat := if S.2 < w.length ∧ pauseT S.1 = true ∧ mayN B S.1 (gN w S.2) = true then (tBeg S.1 (gN w S.2), S.2 + 1) else (goT S.1, S.2)
def nightW (B : Bk) (w : List Nat) : Nat → Tl × Nat → Tl × Nat
  | 0, S => S
  | n + 1, S => if tH S.1 = 0 then S else nightW B w n (stepW B w S)
def walkW (B : Bk) (w : List Nat) : Nat → Tl × Nat → List Nat × Nat
  | 0, S => ([], S.2)
  | n + 1, S => if dawnOk B (nightW B w 10 S).1 = true then (mk (tO (nightW B w 10 S).1) :: (walkW B w n (dawnT B (nightW B w 10 S).1, (nightW B w 10 S).2)).1, (walkW B w n (dawnT B (nightW B w 10 S).1, (nightW B w 10 S).2)).2) else ([], (nightW B w 10 S).2)
def outW (B : Bk) (w : List Nat) : List Nat := (walkW B w 30 (startT B, 0)).1
def nxtW (B : Bk) (w : List Nat) : Nat := (walkW B w 30 (startT B, 0)).2
def wS (B : Bk) (w : List Nat) (S : Tl × Nat) : Prop := wT S.1 ∧ wF B S.1 ∧ S.2 ≤ w.length
theorem wS.step {B : Bk} {w : List Nat} {S : Tl × Nat} (s : wS B w S) (h6 : bT B ≤ 6) (hw : ∀ t ∈ w, t < bT B) : wS B w (stepW B w S) := by
  obtain ⟨s1, s2, s3⟩ := s
  unfold stepW
  split
  · next h =>
    obtain ⟨h1, h2, h3⟩ := h
    have ht := hw _ (gN_mem h1)
    exact ⟨s1.beg (by omega) (mayN_t h3).2.2.1, s2.beg, h1⟩
  · exact ⟨s1.go, s2.go s1, s3⟩
theorem stepW_N (B : Bk) (w : List Nat) (S : Tl × Nat) : tN (stepW B w S).1 = tN S.1 := by
  unfold stepW
  split
  · rfl
  · exact goT_N _
theorem wS.night {B : Bk} {w : List Nat} (h6 : bT B ≤ 6) (hw : ∀ t ∈ w, t < bT B) : ∀ (n : Nat) {S : Tl × Nat}, wS B w S → wS B w (nightW B w n S) ∧ tN (nightW B w n S).1 = tN S.1
  | 0, S, s => ⟨s, rfl⟩
  | n + 1, S, s => by
    simp only [nightW]
    split
    · exact ⟨s, rfl⟩
    · have := wS.night h6 hw n (s.step h6 hw)
      rw [stepW_N] at this
      exact this
theorem dawnT_N (B : Bk) (T : Tl) : tN (dawnT B T) ≤ tN T + 1 := by
  unfold dawnT
  split
  · exact Nat.le_refl _
  · exact Nat.le_succ _
theorem wS.dawn {B : Bk} {w : List Nat} {T : Tl} {k m : Nat} (s : wS B w (T, k)) (b : wB m B) (hm : m < 100) (hN : tN T + 1 < 1000) : wS B w (dawnT B T, k) := ⟨s.1.dawn b hm hN, s.2.1.dawn, s.2.2⟩
theorem walkW_ok {B : Bk} {w : List Nat} {m : Nat} (b : wB m B) (hm : m < 100) (hw : ∀ t ∈ w, t < bT B) : ∀ (n : Nat) (S : Tl × Nat), wS B w S → tN S.1 + n < 1000 → (walkW B w n S).1.length ≤ n ∧ (∀ x ∈ (walkW B w n S).1, x < 64) ∧ (walkW B w n S).2 ≤ w.length
  | 0, S, s, _ => ⟨Nat.le_refl _, fun x hx => (nomatch hx), s.2.2⟩
  | n + 1, S, s, hN => by
    obtain ⟨s1, s2⟩ := wS.night b.1 hw 10 s
    simp only [walkW]
    split
    · have hd := dawnT_N B (nightW B w 10 S).1
      have ih := walkW_ok b hm hw n (dawnT B (nightW B w 10 S).1, (nightW B w 10 S).2) (wS.dawn (T := (nightW B w 10 S).1) (k := (nightW B w 10 S).2) s1 b hm (by omega)) (show tN (dawnT B (nightW B w 10 S).1) + n < 1000 by omega)
      refine ⟨by simp only [List.length_cons]; omega, ?_, ih.2.2⟩
      intro x hx
      rcases List.mem_cons.mp hx with q | q
      · rw [q]; exact mk_lt (fun t ht => (s1.1.2.1 t ht).1)
      · exact ih.2.1 x q
    · exact ⟨Nat.zero_le _, fun x hx => (nomatch hx), s1.2.2⟩
