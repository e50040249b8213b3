/-! ===== the orders, one after another: pure ===== -/
/-- the first place from t on, of f places, at which p holds; else t + f -/
def fst1 (p : Nat → Bool) : Nat → Nat → Nat
  | 0, t => t
  | f + 1, t => if p t = true then t else fst1 p f (t + 1)
def fl (p : Nat → Bool) : Nat → Nat → List Nat
  | 0, _ => []
  | f + 1, t => if p t = true then t :: fl p f (t + 1) else fl p f (t + 1)
def nin (w : List Nat) (x : Nat) : Bool := !decide (x ∈ w)
/-- the first tale from t on, of n, that is not in w; n, where there is none -/
def Fr (w : List Nat) (n t : Nat) : Nat := fst1 (nin w) (n - t) t
theorem nin_t {w : List Nat} {x : Nat} (h : x ∉ w) : nin w x = true := by unfold nin; rw [decide_eq_false h]; rfl
theorem nin_f {w : List Nat} {x : Nat} (h : x ∈ w) : nin w x = false := by unfold nin; rw [decide_eq_true h]; rfl
theorem Fr_in {w : List Nat} {n t : Nat} (ht : t < n) (h : t ∈ w) : Fr w n t = Fr w n (t + 1) := by
  unfold Fr
  rw [show n - t = (n - (t + 1)) + 1 by omega]
  simp only [fst1]
  rw [nin_f h, if_neg (by decide)]
theorem Fr_out {w : List Nat} {n t : Nat} (ht : t < n) (h : t ∉ w) : Fr w n t = t := by
  unfold Fr
  rw [show n - t = (n - (t + 1)) + 1 by omega]
  simp only [fst1]
  rw [nin_t h, if_pos rfl]
theorem Fr_n {w : List Nat} {n : Nat} : Fr w n n = n := by
  unfold Fr
  rw [Nat.sub_self]
  rfl
theorem fst1_ge (p : Nat → Bool) : ∀ (f t : Nat), t ≤ fst1 p f t ∧ fst1 p f t ≤ t + f
  | 0, t => ⟨Nat.le_refl _, Nat.le_refl _⟩
  | f + 1, t => by
    have := fst1_ge p f (t + 1)
    simp only [fst1]
    split
    · omega
    · omega
theorem Fr_ge {w : List Nat} {n t : Nat} (h : t ≤ n) : t ≤ Fr w n t ∧ Fr w n t ≤ n := by
  have := fst1_ge (nin w) (n - t) t
  unfold Fr
  omega
theorem fst1_p (p : Nat → Bool) : ∀ (f t : Nat), fst1 p f t < t + f → p (fst1 p f t) = true
  | 0, t, h => by simp only [fst1] at h; omega
  | f + 1, t, h => by
    simp only [fst1] at h ⊢
    split
    · next q => exact q
    · next q =>
      rw [if_neg q] at h
      exact fst1_p p f (t + 1) (by omega)
theorem Fr_not {w : List Nat} {n t : Nat} (h : t ≤ n) (h2 : Fr w n t < n) : Fr w n t ∉ w := by
  have := fst1_p (nin w) (n - t) t (by show Fr w n t < t + (n - t); omega)
  intro q
  have q2 : nin w (Fr w n t) = true := this
  rw [nin_f q] at q2
  cases q2
theorem fst1_all (p : Nat → Bool) : ∀ (f t x : Nat), fst1 p f t = t + f → t ≤ x → x < t + f → p x = false
  | 0, t, x, h, h1, h2 => by omega
  | f + 1, t, x, h, h1, h2 => by
    simp only [fst1] at h
    split at h
    · omega
    · next q =>
      by_cases hx : x = t
      · rw [hx]; simpa using q
      · exact fst1_all p f (t + 1) x (by omega) (by omega) (by omega)
/-- with fewer than n, all told apart, one is free -/
theorem Fr_lt {w : List Nat} {n : Nat} (hd : w.Nodup) (h : w.length < n) : Fr w n 0 < n := by
  have h0 := Fr_ge (w := w) (n := n) (t := 0) (Nat.zero_le _)
  rcases Nat.lt_or_ge (Fr w n 0) n with q | q
  · exact q
  · exfalso
    have e : fst1 (nin w) n 0 = 0 + n := by have : Fr w n 0 = n := by omega
                                            unfold Fr at this; rw [Nat.sub_zero] at this; omega
    have hall : ∀ x : Nat, x < n → x ∈ w := by
      intro x hx
      have := fst1_all (nin w) n 0 x e (Nat.zero_le _) (by omega)
      unfold nin at this
      simpa using this
    have hsub : (List.range n) ⊆ w := fun x hx => hall x (List.mem_range.mp hx)
    have hcnt := cnt_mem n (w.filter (fun x => decide (x < n))) (hd.filter _) (fun x hx => by
      have := (List.mem_filter.mp hx).2
      simpa using this)
    have h2 : (List.range n).countP (fun i => decide (i ∈ w.filter (fun x => decide (x < n)))) = n := by
      rw [List.countP_eq_length.mpr]
      · exact List.length_range
      · intro i hi
        have hin := List.mem_range.mp hi
        exact decide_eq_true (List.mem_filter.mpr ⟨hall i hin, decide_eq_true hin⟩)
    have h3 : (w.filter (fun x => decide (x < n))).length ≤ w.length := List.length_filter_le _ _
    omega
theorem extT_fl (w : List Nat) (n : Nat) : extT w n = (fl (nin w) n 0).map (fun t => w ++ [t]) := by
  have key : ∀ (f t : Nat), extT w (t + f) = extT w t ++ (fl (nin w) f t).map (fun t => w ++ [t]) := by
    intro f
    induction f with
    | zero => intro t; simp [fl]
    | succ f ih =>
      intro t
      rw [show t + (f + 1) = (t + 1) + f by omega, ih (t + 1)]
      simp only [extT, fl]
      by_cases hm : t ∈ w
      · rw [if_pos hm, nin_f hm, if_neg (by decide)]
      · rw [if_neg hm, nin_t hm, if_pos rfl, List.append_assoc]
        rfl
  have := key n 0
  rw [Nat.zero_add] at this
  rw [this]
  rfl
theorem fl_head (p : Nat → Bool) : ∀ (f t : Nat), (fl p f t)[0]? = if fst1 p f t < t + f then some (fst1 p f t) else none
  | 0, t => by simp [fl, fst1]
  | f + 1, t => by
    have e : fst1 p (f + 1) t = if p t = true then t else fst1 p f (t + 1) := rfl
    show (if p t = true then t :: fl p f (t + 1) else fl p f (t + 1))[0]? = _
    by_cases hp : p t = true
    · rw [if_pos hp] at e
      rw [if_pos hp, e, if_pos (by omega)]; rfl
    · rw [if_neg hp] at e
      rw [if_neg hp, e, fl_head p f (t + 1), show t + 1 + f = t + (f + 1) by omega]
theorem fl_next (p : Nat → Bool) : ∀ (f t j x : Nat), (fl p f t)[j]? = some x → (x < t + f ∧ t ≤ x) ∧ (fl p f t)[j + 1]? = if fst1 p (t + f - (x + 1)) (x + 1) < t + f then some (fst1 p (t + f - (x + 1)) (x + 1)) else none
  | 0, t, j, x, h => by simp [fl] at h
  | f + 1, t, j, x, h => by
    simp only [fl] at h ⊢
    by_cases hp : p t = true
    · rw [if_pos hp] at h ⊢
      cases j with
      | zero =>
        have hx : t = x := by simpa using h
        subst hx
        refine ⟨by omega, ?_⟩
        show (fl p f (t + 1))[0]? = _
        rw [fl_head, show t + (f + 1) - (t + 1) = f by omega, show t + 1 + f = t + (f + 1) by omega]
      | succ j =>
        have hx : (fl p f (t + 1))[j]? = some x := by simpa using h
        have := fl_next p f (t + 1) j x hx
        rw [show t + 1 + f = t + (f + 1) by omega] at this
        exact ⟨⟨this.1.1, by omega⟩, this.2⟩
    · rw [if_neg hp] at h ⊢
      have := fl_next p f (t + 1) j x h
      rw [show t + 1 + f = t + (f + 1) by omega] at this
      exact ⟨⟨this.1.1, by omega⟩, this.2⟩
theorem ext_head (w : List Nat) (n : Nat) : (extT w n)[0]? = if Fr w n 0 < n then some (w ++ [Fr w n 0]) else none := by
  rw [extT_fl, List.getElem?_map, fl_head]
  unfold Fr
  rw [Nat.sub_zero, Nat.zero_add]
  split <;> rfl
theorem ext_next {w v : List Nat} {n j : Nat} (h : (extT w n)[j]? = some v) : ∃ x : Nat, x < n ∧ v = w ++ [x] ∧ (extT w n)[j + 1]? = if Fr w n (x + 1) < n then some (w ++ [Fr w n (x + 1)]) else none := by
  rw [extT_fl, List.getElem?_map] at h
  cases e : (fl (nin w) n 0)[j]? with
  | none => rw [e] at h; cases h
  | some x =>
    rw [e] at h
    have hv : w ++ [x] = v := by simpa using h
    obtain ⟨h1, h2⟩ := fl_next (nin w) n 0 j x e
    rw [Nat.zero_add] at h1 h2
    refine ⟨x, h1.1, hv.symm, ?_⟩
    rw [extT_fl, List.getElem?_map, h2]
    unfold Fr
    split <;> rfl
/-- the row behind w.take k in its level -/
def nxL (n : Nat) : Nat → List Nat → Option (List Nat)
  | 0, _ => none
  | k + 1, w => if Fr (w.take k) n (gN w k + 1) < n then some (w.take k ++ [Fr (w.take k) n (gN w k + 1)]) else (nxL n k w).map (fun v => v ++ [Fr v n 0])
def rf (n : Nat) : Nat → List Nat → List Nat
  | 0, v => v
  | c + 1, v => rf n c (v ++ [Fr v n 0])
theorem nxL_app {n : Nat} {w : List Nat} {x : Nat} : ∀ k : Nat, k ≤ w.length → nxL n k (w ++ [x]) = nxL n k w
  | 0, _ => rfl
  | k + 1, h => by
    simp only [nxL]
    have e1 : (w ++ [x]).take k = w.take k := List.take_append_of_le_length (by omega)
    have e2 : gN (w ++ [x]) k = gN w k := by rw [gN_app (by omega), if_neg (by omega)]
    rw [e1, e2, nxL_app k (by omega)]
/-- a list of lists, one behind another: what stands behind -/
theorem flat_next {f : List Nat → List (List Nat)} {g0 : List Nat → Option (List Nat)} {g : List Nat → Option (List Nat)} : ∀ L : List (List Nat), (∀ a ∈ L, f a ≠ []) → (∀ (i : Nat) (a : List Nat), L[i]? = some a → L[i + 1]? = g0 a) → (∀ a ∈ L, ∀ (j : Nat) (b : List Nat), (f a)[j]? = some b → g b = match (f a)[j + 1]? with | some c => some c | none => (g0 a).bind (fun a' => (f a')[0]?)) → ∀ (i : Nat) (b : List Nat), (L.flatMap f)[i]? = some b → (L.flatMap f)[i + 1]? = g b
  | [], _, _, _, i, b, h => by simp at h
  | a :: L, hne, h0, hg, i, b, h => by
    rw [List.flatMap_cons] at h ⊢
    have ih := flat_next L (fun x hx => hne x (List.mem_cons_of_mem _ hx)) (fun i x hx => by have := h0 (i + 1) x (by simpa using hx); simpa using this) (fun x hx => hg x (List.mem_cons_of_mem _ hx))
    by_cases hi : i < (f a).length
    · rw [List.getElem?_append_left hi] at h
      have hb := hg a List.mem_cons_self i b h
      by_cases hi2 : i + 1 < (f a).length
      · rw [List.getElem?_append_left hi2, hb, List.getElem?_eq_getElem hi2]
      · have e9 : (f a)[i + 1]? = none := List.getElem?_eq_none (by omega)
        rw [List.getElem?_append_right (by omega), hb, e9, show i + 1 - (f a).length = 0 by omega]
        dsimp only
        have hnx : g0 a = L[0]? := (h0 0 a rfl).symm
        rw [hnx]
        cases L with
        | nil => rfl
        | cons a' L' =>
          rw [List.flatMap_cons]
          have hpos : 0 < (f a').length := List.length_pos_iff.mpr (hne a' (List.mem_cons_of_mem _ List.mem_cons_self))
          rw [List.getElem?_append_left hpos]
          rfl
    · rw [List.getElem?_append_right (by omega)] at h
      rw [List.getElem?_append_right (by omega), show i + 1 - (f a).length = (i - (f a).length) + 1 by omega]
      exact ih _ b h
theorem lev_next (n : Nat) : ∀ k : Nat, k ≤ n → ∀ (i : Nat) (w : List Nat), (lev n k)[i]? = some w → (lev n k)[i + 1]? = nxL n k w
  | 0, _, i, w, h => by
    cases i with
    | zero => rfl
    | succ i => simp [lev] at h
  | k + 1, hk, i, w, h => by
    refine flat_next (f := fun w => extT w n) (g0 := nxL n k) (g := nxL n (k + 1)) (lev n k) ?_ (lev_next n k (by omega)) ?_ i w h
    · intro a ha hq
      obtain ⟨l1, l2, l3⟩ := lev_mem ha
      have h1 := ext_head a n
      rw [hq, if_pos (Fr_lt l2 (by omega))] at h1
      cases h1
    · intro a ha j b hb
      obtain ⟨l1, l2, l3⟩ := lev_mem ha
      obtain ⟨x, hx, rfl, hn⟩ := ext_next hb
      have e1 : (a ++ [x]).take k = a := by rw [← l1]; simp
      have e2 : gN (a ++ [x]) k = x := by rw [gN_app (by omega), if_pos l1.symm]
      show (if Fr ((a ++ [x]).take k) n (gN (a ++ [x]) k + 1) < n then some ((a ++ [x]).take k ++ [Fr ((a ++ [x]).take k) n (gN (a ++ [x]) k + 1)]) else (nxL n k (a ++ [x])).map (fun v => v ++ [Fr v n 0])) = _
      rw [e1, e2, hn]
      by_cases hq : Fr a n (x + 1) < n
      · rw [if_pos hq, if_pos hq]
      · rw [if_neg hq, if_neg hq, nxL_app k (by omega)]
        dsimp only
        cases e : nxL n k a with
        | none => rfl
        | some v =>
          show some (v ++ [Fr v n 0]) = (extT v n)[0]?
          have hv : v ∈ lev n k := by
            obtain ⟨i', hi'⟩ := List.mem_iff_getElem?.mp ha
            have := lev_next n k (by omega) i' a hi'
            rw [e] at this
            exact List.mem_of_getElem? this
          obtain ⟨m1, m2, m3⟩ := lev_mem hv
          rw [ext_head, if_pos (Fr_lt m2 (by omega))]
theorem rf_app (n : Nat) : ∀ (c : Nat) (v : List Nat), rf n (c + 1) v = rf n c v ++ [Fr (rf n c v) n 0]
  | 0, v => rfl
  | c + 1, v => by
    show rf n (c + 1) (v ++ [Fr v n 0]) = _
    rw [rf_app n c]
    rfl
theorem lev_head (n : Nat) : ∀ k : Nat, k ≤ n → (lev n k)[0]? = some (rf n k [])
  | 0, _ => rfl
  | k + 1, hk => by
    have ih := lev_head n k (by omega)
    show ((lev n k).flatMap (fun w => extT w n))[0]? = _
    cases e : lev n k with
    | nil => rw [e] at ih; cases ih
    | cons a L =>
      rw [e] at ih
      have ea : a = rf n k [] := by simpa using ih
      have ha : a ∈ lev n k := by rw [e]; exact List.mem_cons_self
      obtain ⟨l1, l2, l3⟩ := lev_mem ha
      have h1 := ext_head a n
      rw [if_pos (Fr_lt l2 (by omega))] at h1
      have hpos : 0 < (extT a n).length := by
        rcases Nat.eq_zero_or_pos (extT a n).length with q | q
        · rw [List.getElem?_eq_none (by omega)] at h1; cases h1
        · exact q
      rw [List.flatMap_cons, List.getElem?_append_left hpos, h1, rf_app, ← ea]
