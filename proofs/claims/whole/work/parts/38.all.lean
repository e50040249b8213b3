/-! ===== Rows: all rows walked ===== -/
theorem cod_inj : ∀ {v w : List Nat}, (∀ t ∈ v, t < 9) → (∀ t ∈ w, t < 9) → cod v = cod w → v = w := by
  intro v
  induction hn : v.length generalizing v with
  | zero =>
    intro w hv hw h
    have e := List.length_eq_zero_iff.mp hn
    subst e
    exact (cod_lt0 h.symm).symm
  | succ n ih =>
    intro w hv hw h
    rcases List.eq_nil_or_concat v with e | ⟨v', t, e⟩
    · subst e; simp at hn
    · rw [List.concat_eq_append] at e
      subst e
      rcases List.eq_nil_or_concat w with e | ⟨w', u, e⟩
      · subst e
        exact cod_lt0 h
      · rw [List.concat_eq_append] at e
        subst e
        rw [cod_app, cod_app] at h
        have ht := hv t (by simp)
        have hu := hw u (by simp)
        have e1 : v' = w' := ih (by simp at hn; exact hn) (fun x hx => hv x (List.mem_append_left _ hx)) (fun x hx => hw x (List.mem_append_left _ hx)) (by omega)
        rw [e1, show t = u by omega]
theorem sprD_cod {n : Nat} (hn : n ≤ 6) : ∀ (k : Nat) (u v : List Nat), u.length ≤ k → (∀ t ∈ u, t < n) → (u ++ v).Nodup → sprD n k (cod u) v = some (u ++ v)
  | 0, u, v, h, hu, hd => by
    have e := List.length_eq_zero_iff.mp (Nat.le_zero.mp h)
    subst e
    rfl
  | k + 1, u, v, h, hu, hd => by
    rcases List.eq_nil_or_concat u with e | ⟨u', t, e⟩
    · subst e
      simp [sprD, cod]
    · rw [List.concat_eq_append] at e
      subst e
      have ht := hu t (by simp)
      have hc := cod_app u' t
      simp only [sprD]
      rw [if_neg (by omega), if_neg ?_]
      · rw [show cod (u' ++ [t]) / 10 = cod u' by omega, show cod (u' ++ [t]) % 10 - 1 = t by omega]
        have := sprD_cod hn k u' (t :: v) (by simp at h; omega) (fun x hx => hu x (List.mem_append_left _ hx)) (by simpa using hd)
        rw [this]
        simp
      · rw [show cod (u' ++ [t]) % 10 - 1 = t by omega]
        intro hq
        rcases hq with q | q | q
        · omega
        · omega
        · rw [List.nodup_append] at hd
          exact hd.2.2 t (by simp) t q rfl
theorem stepW_mono (B : Bk) (w : List Nat) (S : Tl × Nat) : S.2 ≤ (stepW B w S).2 := by
  unfold stepW
  split <;> simp
theorem nightW_mono (B : Bk) (w : List Nat) : ∀ (n : Nat) (S : Tl × Nat), S.2 ≤ (nightW B w n S).2
  | 0, S => Nat.le_refl _
  | n + 1, S => by
    simp only [nightW]
    split
    · exact Nat.le_refl _
    · exact Nat.le_trans (stepW_mono B w S) (nightW_mono B w n _)
theorem walkW_mono (B : Bk) (w : List Nat) : ∀ (n : Nat) (S : Tl × Nat), S.2 ≤ (walkW B w n S).2
  | 0, S => Nat.le_refl _
  | n + 1, S => by
    simp only [walkW]
    split
    · exact Nat.le_trans (nightW_mono B w 10 S) (walkW_mono B w n (dawnT B (nightW B w 10 S).1, (nightW B w 10 S).2))
    · exact nightW_mono B w 10 S
theorem stepW_ext {B : Bk} {w : List Nat} {t : Nat} {S : Tl × Nat} (h : S.2 < w.length) : stepW B (w ++ [t]) S = stepW B w S := by
  unfold stepW
  have e : gN (w ++ [t]) S.2 = gN w S.2 := by
    simp [gN, List.getD_eq_getElem?_getD, List.getElem?_append_left h]
  rw [e]
  have e2 : (S.2 < (w ++ [t]).length) ↔ (S.2 < w.length) := ⟨fun _ => h, fun _ => by simp; omega⟩
  simp only [e2]
theorem nightW_ext {B : Bk} {w : List Nat} {t : Nat} : ∀ (n : Nat) (S : Tl × Nat), (nightW B w n S).2 < w.length → nightW B (w ++ [t]) n S = nightW B w n S
  | 0, S, _ => rfl
  | n + 1, S, h => by
    simp only [nightW] at h ⊢
    split
    · rfl
    · next h0 =>
      rw [if_neg h0] at h
      have h1 := nightW_mono B w n (stepW B w S)
      have h2 := stepW_mono B w S
      rw [stepW_ext (by omega)]
      exact nightW_ext n _ h
theorem walkW_ext {B : Bk} {w : List Nat} {t : Nat} : ∀ (n : Nat) (S : Tl × Nat), (walkW B w n S).2 < w.length → walkW B (w ++ [t]) n S = walkW B w n S
  | 0, S, _ => rfl
  | n + 1, S, h => by
    have h1 : (nightW B w 10 S).2 < w.length := by
      have h2 : (nightW B w 10 S).2 ≤ (walkW B w (n + 1) S).2 := by
        simp only [walkW]
        split
        · exact walkW_mono B w n (dawnT B (nightW B w 10 S).1, (nightW B w 10 S).2)
        · exact Nat.le_refl _
      omega
    simp only [walkW] at h ⊢
    rw [nightW_ext 10 S h1]
    split
    · next h0 =>
      rw [if_pos h0] at h
      rw [walkW_ext n _ h]
    · rfl
def pAux (h : Hp) (r : Nat) : Prop := rTel h (r + 5) ∧ (∃ xs : List Int64, h (r + 9) = some (.inr (3, .inr (.inl xs))) ∧ xs.length = 3) ∧ pOrd h r []
theorem pAux.fr {h h' : Hp} {r : Nat} (p : pAux h r) (e : ∀ q : Nat, r + 5 ≤ q → q < r + 11 → h' q = h q) : pAux h' r := by
  obtain ⟨p1, ⟨xs, x1, x2⟩, ⟨os, o1, o2⟩⟩ := p
  exact ⟨p1.fr (fun q h1 h2 => e q (by omega) (by omega)), ⟨xs, (e _ (by omega) (by omega)).trans x1, x2⟩, ⟨os, (e _ (by omega) (by omega)).trans o1, o2⟩⟩
/-- the outcomes of the first so many rows of W -/
def pTab (h : Hp) (r : Nat) (W : List (List Nat)) (B : Bk) (n : Nat) : Prop := ∃ sv ow st : List Nat, h (r + 2) = some (.inr (1, .inl (sv.map nI))) ∧ sv.length = 1957 ∧ h (r + 3) = some (.inr (3, .inr (.inl (ow.map lN)))) ∧ ow.length = 5871 ∧ h (r + 4) = some (.inr (2, .inl (st.map nI))) ∧ st.length = 1957 ∧ (∀ j : Nat, gN st j = 0 ∨ gN st j = 1) ∧ (∀ (i : Nat) (w : List Nat), i < n → W[i]? = some w → gN sv i = (outW B w).length ∧ (∀ k : Nat, k < 3 → gN ow (3 * i + k) = wds (outW B w) k) ∧ (gN st i = 1 ↔ nxtW B w < w.length))
theorem pTab.fr {h h' : Hp} {r n : Nat} {W : List (List Nat)} {B : Bk} (p : pTab h r W B n) (e : ∀ q : Nat, r + 2 ≤ q → q < r + 5 → h' q = h q) : pTab h' r W B n := by
  obtain ⟨sv, ow, st, p1, p2, p3, p4, p5, p6⟩ := p
  exact ⟨sv, ow, st, (e _ (by omega) (by omega)).trans p1, p2, (e _ (by omega) (by omega)).trans p3, p4, (e _ (by omega) (by omega)).trans p5, p6⟩
theorem pRow.fr {h h' : Hp} {r : Nat} {W : List (List Nat)} (p : pRow h r W) (e : h' (r + 1) = h (r + 1)) : pRow h' r W := by
  obtain ⟨rs, p1, p2⟩ := p
  exact ⟨rs, e.trans p1, p2⟩
theorem pTab.zero {h : Hp} {r n : Nat} {W : List (List Nat)} {B : Bk} (p : pTab h r W B n) (W' : List (List Nat)) (B' : Bk) : pTab h r W' B' 0 := by
  obtain ⟨sv, ow, st, p1, p2, p3, p4, p5, p6, p7, -⟩ := p
  exact ⟨sv, ow, st, p1, p2, p3, p4, p5, p6, p7, fun i w hi => absurd hi (by omega)⟩
theorem pTab.out {h : Hp} {r n m : Nat} {W : List (List Nat)} {B : Bk} (p : pTab h r W B n) (b9 : wB m B) (hm : m < 100) (hW : ∀ w ∈ W, ∀ t ∈ w, t < bT B) (hn : W.length ≤ n) : pOut h r W (outW B) := by
  obtain ⟨sv, ow, st, p1, p2, p3, p4, p5, p6, p7, p8⟩ := p
  refine ⟨sv, ow, st, p1, p2, p3, p4, p5, p6, ?_⟩
  intro i w hi
  have h1 := p8 i w (by have := (List.getElem?_eq_some_iff.mp hi).1; omega) hi
  have h2 := walkW_ok b9 hm (hW w (List.mem_of_getElem? hi)) 30 (startT B, 0) ⟨wT.start b9 hm, wF.start b9, Nat.zero_le _⟩ (by show 0 + 30 < 1000; omega)
  exact ⟨h1.1, h1.2.1, h2.1, h2.2.1⟩
