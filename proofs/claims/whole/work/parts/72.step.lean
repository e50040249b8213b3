/-! ===== one part after another, and the class's longer steps: pure ===== -/
theorem cnt_mem : ∀ (n : Nat) (l : List Nat), l.Nodup → (∀ x ∈ l, x < n) → (List.range n).countP (fun i => decide (i ∈ l)) = l.length
  | 0, l, _, h => by
    cases l with
    | nil => rfl
    | cons a l => exact absurd (h a List.mem_cons_self) (by omega)
  | n + 1, l, hd, h => by
    rw [List.range_succ, List.countP_append]
    have h1 := cnt_mem n (l.erase n) (hd.erase n) (fun x hx => by
      have h2 := (List.Nodup.mem_erase_iff hd).mp hx
      have h3 := h x h2.2
      have h4 := h2.1
      omega)
    have h5 : (List.range n).countP (fun i => decide (i ∈ l)) = (List.range n).countP (fun i => decide (i ∈ l.erase n)) := by
      apply List.countP_congr
      intro i hi
      have hin := List.mem_range.mp hi
      simp only [decide_eq_true_eq]
      rw [List.Nodup.mem_erase_iff hd]
      exact ⟨fun q => ⟨by omega, q⟩, fun q => q.2⟩
    rw [h5, h1]
    have h6 := List.length_erase (a := n) (l := l)
    by_cases hn : n ∈ l
    · rw [if_pos hn] at h6
      have hp := List.length_pos_of_mem hn
      simp [hn]
      omega
    · rw [if_neg hn] at h6
      simp [hn]
      omega
theorem popN_mk {l : List Nat} (hd : l.Nodup) (h : ∀ x ∈ l, x < 6) : popN (mk l) = l.length := by
  rw [← cnt_mem 6 l hd h]
  unfold popN
  apply List.countP_congr
  intro i hi
  rw [mk_bit]
theorem tPart2 {T : Tl} {t k : Nat} (h1 : gN (tF T) t - 1 ≠ 0) (lF : t < (tF T).length) (lA : t < (tA T).length) : tPart (tPart T t 1) t k = tPart T t (k + 1) := by
  have e1 : tO (tPart T t 1) = tO T := by rw [tPart_O, if_neg h1]
  have e2 : gN (tF (tPart T t 1)) t = gN (tF T) t - 1 := by
    show gN ((tF T).set t (gN (tF T) t - 1)) t = _
    rw [gN_set lF, if_pos rfl]
  have e3 : gN (tF T) t - 1 - k = gN (tF T) t - (k + 1) := by omega
  have e4 : tH T - 1 - k = tH T - (k + 1) := by omega
  show (tN T, tH T - 1 - k, tS T, tV T, tB T, (if gN (tF (tPart T t 1)) t - k = 0 then (tO (tPart T t 1)).dropLast else tO (tPart T t 1)), ((tF T).set t (gN (tF T) t - 1)).set t (gN (tF (tPart T t 1)) t - k), ((tA T).set t (tN T)).set t (tN T)) = _
  rw [e1, e2, e3, e4, List.set_set, List.set_set]
  rfl
theorem goT_some {T : Tl} {t : Nat} (h : (tO T).getLast? = some t) : goT T = tPart T t (min (max (gN (tF T) t - 1) 1) (tH T)) := by unfold goT; rw [h]
theorem goS_some {T : Tl} {t : Nat} (h : (tO T).getLast? = some t) : goS T = tPart T t 1 := by unfold goS; rw [h]
theorem goT_none {T : Tl} (h : (tO T).getLast? = none) : goT T = (tN T, 0, tS T, tV T, tB T, tO T, tF T, tA T) := by unfold goT; rw [h]
theorem goS_none {T : Tl} (h : (tO T).getLast? = none) : goS T = (tN T, tH T - 1, tS T, tV T, tB T, tO T, tF T, tA T) := by unfold goS; rw [h]
theorem goT_V (T : Tl) : tV (goT T) = tV T := by unfold goT; cases (tO T).getLast? <;> rfl
theorem goS_V (T : Tl) : tV (goS T) = tV T := by unfold goS; cases (tO T).getLast? <;> rfl
theorem goS_H (T : Tl) : tH (goS T) = tH T - 1 := by unfold goS; cases (tO T).getLast? <;> rfl
theorem goS_N (T : Tl) : tN (goS T) = tN T := by unfold goS; cases (tO T).getLast? <;> rfl
theorem goT_H {T : Tl} (h : 0 < tH T) : tH (goT T) ≤ tH T - 1 := by
  cases e : (tO T).getLast? with
  | none => rw [goT_none e]; exact Nat.zero_le _
  | some t =>
    rw [goT_some e]
    show tH T - min (max (gN (tF T) t - 1) 1) (tH T) ≤ tH T - 1
    omega
theorem wT.goS {T : Tl} (w : wT T) : wT (goS T) := by
  cases e : (tO T).getLast? with
  | none =>
    rw [goS_none e]
    obtain ⟨w1, w2, w3, w4, w5, w6, w7, w8, w9, w10⟩ := w
    exact ⟨w1, w2, w3, w4, w5, by show tH T - 1 < 100; omega, w7, w8, w9, w10⟩
  | some t =>
    rw [goS_some e]
    obtain ⟨l, hl⟩ := lastL e
    exact w.tail hl _
theorem wF.goS {B : Bk} {T : Tl} (f : wF B T) (w : wT T) : wF B (goS T) := by
  cases e : (tO T).getLast? with
  | none => rw [goS_none e]; exact f
  | some t =>
    rw [goS_some e]
    exact f.part ((w.2.1 t (w.mem e)).2.1)
/-- what the class's step does that the model's does not: where it is the same, and where one more leads to the same -/
theorem go_two {T : Tl} (w : wT T) (h : 0 < tH T) : goT T = goS T ∨ (pauseT T = false ∧ pauseT (goS T) = false ∧ goT (goS T) = goT T ∧ 0 < tH (goS T)) ∨ ((tO T).getLast? = none ∧ (tO (goS T)).getLast? = none ∧ tB (goS T) = tB T ∧ tO (goS T) = tO T ∧ (0 < tH (goS T) → goT (goS T) = goT T) ∧ (tH (goS T) = 0 → goS T = goT T)) := by
  cases e : (tO T).getLast? with
  | none =>
    right; right
    rw [goS_none e, goT_none e]
    refine ⟨rfl, e, rfl, rfl, ?_, ?_⟩
    · intro _
      have e2 : (tO (tN T, tH T - 1, tS T, tV T, tB T, tO T, tF T, tA T)).getLast? = none := e
      rw [goT_none e2]
    · intro q
      have q2 : tH T - 1 = 0 := q
      rw [q2]
  | some t =>
    obtain ⟨w1, w2, w3, w4, w5, w6, w7, w8, w9, -⟩ := w
    obtain ⟨t6, tb, hf, -⟩ := w2 t (List.mem_of_getLast? e)
    rw [goS_some e, goT_some e]
    by_cases hk : min (max (gN (tF T) t - 1) 1) (tH T) = 1
    · left; rw [hk]
    · right; left
      have h3 : 3 ≤ gN (tF T) t ∧ 2 ≤ tH T := by omega
      have e1 : tO (tPart T t 1) = tO T := by rw [tPart_O, if_neg (by omega)]
      have e2 : gN (tF (tPart T t 1)) t = gN (tF T) t - 1 := by
        show gN ((tF T).set t (gN (tF T) t - 1)) t = _
        rw [gN_set (by omega), if_pos rfl]
      have e3 : (tO (tPart T t 1)).getLast? = some t := by rw [e1]; exact e
      refine ⟨?_, ?_, ?_, by show 0 < tH T - 1; omega⟩
      · unfold pauseT; rw [e]; exact decide_eq_false (by omega)
      · unfold pauseT; rw [e3]; dsimp only; rw [e2]; exact decide_eq_false (by omega)
      · rw [goT_some e3, e2, show tH (tPart T t 1) = tH T - 1 from rfl, tPart2 (by omega) (by omega) (by omega)]
        congr 1
        omega
/-- with as much as its hours, the quiet night ends the same -/
theorem quietT_s : ∀ (n : Nat) (T : Tl), tH T ≤ n → quietT (n + 1) T = quietT n T
  | 0, T, h => by
    have h0 : tH T = 0 := by omega
    simp only [quietT]
    rw [if_neg (by rw [decide_eq_false (by omega), Bool.and_false]; decide)]
  | n + 1, T, h => by
    show (if (tV T && decide (0 < tH T)) = true then quietT (n + 1) (goT T) else T) = (if (tV T && decide (0 < tH T)) = true then quietT n (goT T) else T)
    by_cases hc : (tV T && decide (0 < tH T)) = true
    · rw [if_pos hc, if_pos hc]
      have h0 : 0 < tH T := by
        rw [Bool.and_eq_true, decide_eq_true_eq] at hc; exact hc.2
      have := goT_H h0
      exact quietT_s n (goT T) (by omega)
    · rw [if_neg hc, if_neg hc]
theorem quiet_0 {T : Tl} (h : tH T = 0) (n : Nat) : quietT n T = T := by
  cases n with
  | zero => rfl
  | succ n => simp only [quietT]; rw [if_neg (by rw [decide_eq_false (by omega), Bool.and_false]; decide)]
theorem quiet_1 {T : Tl} (hv : tV T = true) (h : 0 < tH T) (n : Nat) : quietT (n + 1) T = quietT n (goT T) := by
  show (if (tV T && decide (0 < tH T)) = true then quietT n (goT T) else T) = _
  rw [if_pos (by rw [hv, decide_eq_true h]; rfl)]
theorem quiet_S {T : Tl} (w : wT T) (hv : tV T = true) (h : 0 < tH T) (h10 : tH T ≤ 10) : quietT 10 T = quietT 10 (goS T) := by
  have hS := goS_H T
  have hT := goT_H h
  rcases go_two w h with q | q | q
  · rw [quiet_1 hv h 9, q, ← quietT_s 9 (goS T) (by omega)]
  · obtain ⟨-, -, q3, q4⟩ := q
    rw [quiet_1 hv h 9, ← q3, quiet_1 (by rw [goS_V]; exact hv) q4 9]
  · obtain ⟨-, -, -, -, q5, q6⟩ := q
    by_cases h0 : tH (goS T) = 0
    · rw [quiet_1 hv h 9, ← q6 h0, quiet_0 h0, quiet_0 h0]
    · rw [quiet_1 hv h 9, ← q5 (by omega), quiet_1 (by rw [goS_V]; exact hv) (by omega) 9]
def begC (B : Bk) (w : List Nat) (S : Tl × Nat) : Prop := S.2 < w.length ∧ pauseT S.1 = true ∧ mayN B S.1 (gN w S.2) = true
theorem stepW_t {B : Bk} {w : List Nat} {S : Tl × Nat} (h : begC B w S) : stepW B w S = (tBeg S.1 (gN w S.2), S.2 + 1) := if_pos h
theorem stepW_f {B : Bk} {w : List Nat} {S : Tl × Nat} (h : ¬ begC B w S) : stepW B w S = (goT S.1, S.2) := if_neg h
theorem stepW_H {B : Bk} {w : List Nat} {S : Tl × Nat} (h : 0 < tH S.1) : tH (stepW B w S).1 ≤ tH S.1 - 1 := by
  by_cases hc : begC B w S
  · rw [stepW_t hc]; exact Nat.le_refl _
  · rw [stepW_f hc]; exact goT_H h
theorem night_s (B : Bk) (w : List Nat) : ∀ (n : Nat) (S : Tl × Nat), tH S.1 ≤ n → nightW B w (n + 1) S = nightW B w n S
  | 0, S, h => by
    simp only [nightW]
    rw [if_pos (by omega)]
  | n + 1, S, h => by
    show (if tH S.1 = 0 then S else nightW B w (n + 1) (stepW B w S)) = (if tH S.1 = 0 then S else nightW B w n (stepW B w S))
    by_cases h0 : tH S.1 = 0
    · rw [if_pos h0, if_pos h0]
    · rw [if_neg h0, if_neg h0]
      have := stepW_H (B := B) (w := w) (S := S) (by omega)
      exact night_s B w n _ (by omega)
theorem night_0 {B : Bk} {w : List Nat} {S : Tl × Nat} (h : tH S.1 = 0) (n : Nat) : nightW B w n S = S := by
  cases n with
  | zero => rfl
  | succ n => simp only [nightW]; rw [if_pos h]
theorem night_1 {B : Bk} {w : List Nat} {S : Tl × Nat} (h : 0 < tH S.1) (n : Nat) : nightW B w (n + 1) S = nightW B w n (stepW B w S) := by
  show (if tH S.1 = 0 then S else nightW B w n (stepW B w S)) = _
  rw [if_neg (by omega)]
theorem night_beg {B : Bk} {w : List Nat} {S : Tl × Nat} (h : 0 < tH S.1) (h10 : tH S.1 ≤ 10) (hc : begC B w S) : nightW B w 10 S = nightW B w 10 (tBeg S.1 (gN w S.2), S.2 + 1) := by
  rw [night_1 h 9, stepW_t hc]
  have h2 : tH (tBeg S.1 (gN w S.2)) = tH S.1 - 1 := rfl
  exact (night_s B w 9 _ (by show tH (tBeg S.1 (gN w S.2)) ≤ 9; omega)).symm
theorem mayN_none {B : Bk} {T T' : Tl} {k : Nat} (hv : tV T' = tV T) (hb : tB T' = tB T) (ho : tO T' = tO T) (h : 0 < tH T) (h' : 0 < tH T') : mayN B T' k = mayN B T k := by
  unfold mayN
  rw [hv, hb, ho, decide_eq_true h, decide_eq_true h']
theorem night_go {B : Bk} {w : List Nat} {T : Tl} {i : Nat} (wt : wT T) (h : 0 < tH T) (h10 : tH T ≤ 10) (hc : ¬ begC B w (T, i)) : nightW B w 10 (T, i) = nightW B w 10 (goS T, i) := by
  have hS := goS_H T
  rcases go_two wt h with q | q | q
  · rw [night_1 (S := (T, i)) h 9, stepW_f hc]
    show nightW B w 9 (goT T, i) = _
    rw [q]
    exact (night_s B w 9 (goS T, i) (by show tH (goS T) ≤ 9; omega)).symm
  · obtain ⟨q1, q2, q3, q4⟩ := q
    have hc2 : ¬ begC B w (goS T, i) := fun z => by have := z.2.1; rw [q2] at this; cases this
    rw [night_1 (S := (T, i)) h 9, stepW_f hc, night_1 (S := (goS T, i)) q4 9, stepW_f hc2]
    show nightW B w 9 (goT T, i) = nightW B w 9 (goT (goS T), i)
    rw [q3]
  · obtain ⟨q1, q2, q3, q4, q5, q6⟩ := q
    by_cases h0 : tH (goS T) = 0
    · rw [night_1 (S := (T, i)) h 9, stepW_f hc]
      show nightW B w 9 (goT T, i) = _
      rw [← q6 h0, night_0 (S := (goS T, i)) h0, night_0 (S := (goS T, i)) h0]
    · have hc2 : ¬ begC B w (goS T, i) := fun z => hc ⟨z.1, by unfold pauseT; rw [q1], by
        have := z.2.2
        rw [mayN_none (T := T) (goS_V T) q3 q4 h (by omega)] at this
        exact this⟩
      rw [night_1 (S := (T, i)) h 9, stepW_f hc, night_1 (S := (goS T, i)) (by show 0 < tH (goS T); omega) 9, stepW_f hc2]
      show nightW B w 9 (goT T, i) = nightW B w 9 (goT (goS T), i)
      rw [q5 (by omega)]
theorem night_V {B : Bk} {w : List Nat} : ∀ (n : Nat) (S : Tl × Nat), tV (nightW B w n S).1 = tV S.1
  | 0, S => rfl
  | n + 1, S => by
    show tV (if tH S.1 = 0 then S else nightW B w n (stepW B w S)).1 = tV S.1
    split
    · rfl
    · rw [night_V n]
      by_cases hc : begC B w S
      · rw [stepW_t hc]; rfl
      · rw [stepW_f hc]; exact goT_V _
theorem night_H {B : Bk} {w : List Nat} : ∀ (n : Nat) (S : Tl × Nat), tH S.1 ≤ n → tH (nightW B w n S).1 = 0
  | 0, S, h => by show tH S.1 = 0; omega
  | n + 1, S, h => by
    show tH (if tH S.1 = 0 then S else nightW B w n (stepW B w S)).1 = 0
    by_cases h0 : tH S.1 = 0
    · rw [if_pos h0]; exact h0
    · rw [if_neg h0]
      have := stepW_H (B := B) (w := w) (S := S) (by omega)
      exact night_H n _ (by omega)
theorem quiet_V : ∀ (n : Nat) (T : Tl), tV (quietT n T) = tV T
  | 0, T => rfl
  | n + 1, T => by
    simp only [quietT]
    split
    · rw [quiet_V n, goT_V]
    · rfl
theorem quiet_H : ∀ (n : Nat) (T : Tl), tV T = true → tH T ≤ n → tH (quietT n T) = 0
  | 0, T, _, h => by show tH T = 0; omega
  | n + 1, T, hv, h => by
    by_cases h0 : tH T = 0
    · rw [quiet_0 h0]; exact h0
    · rw [quiet_1 hv (by omega)]
      have := goT_H (T := T) (by omega)
      exact quiet_H n _ (by rw [goT_V]; exact hv) (by omega)
