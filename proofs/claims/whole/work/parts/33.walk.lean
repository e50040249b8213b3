/-! ===== Rows: a row spread, and walked ===== -/
def sprD (n : Nat) : Nat → Nat → List Nat → Option (List Nat)
  | 0, rest, v => if rest = 0 then some v else none
  | k + 1, rest, v => if rest = 0 then some v else if rest % 10 = 0 ∨ n < rest % 10 ∨ (rest % 10 - 1) ∈ v then none else sprD n k (rest / 10) ((rest % 10 - 1) :: v)
theorem cod_foldl (v : List Nat) : ∀ c : Nat, v.foldl (fun c t => c * 10 + t + 1) c = c * 10 ^ v.length + cod v := by
  induction v with
  | nil => intro c; simp [cod]
  | cons t v ih =>
    intro c
    unfold cod
    rw [List.foldl_cons, List.foldl_cons, ih, ih (0 * 10 + t + 1), List.length_cons, Nat.pow_succ]
    rw [Nat.add_mul, Nat.add_mul, Nat.add_mul, Nat.add_mul, Nat.mul_assoc, Nat.mul_comm 10]
    omega
theorem cod_cons (t : Nat) (v : List Nat) : cod (t :: v) = (t + 1) * 10 ^ v.length + cod v := by
  show v.foldl (fun c t => c * 10 + t + 1) (0 * 10 + t + 1) = _
  rw [cod_foldl]
  congr 2
  omega
theorem sprD_ok {n : Nat} : ∀ (k rest : Nat) (v : List Nat), (∀ t ∈ v, t < n) → v.Nodup → ∀ w : List Nat, sprD n k rest v = some w → (∀ t ∈ w, t < n) ∧ w.Nodup ∧ w.length ≤ k + v.length ∧ cod w = rest * 10 ^ v.length + cod v
  | 0, rest, v, hv, hd, w, h => by
    simp only [sprD] at h
    split at h
    · next e =>
      cases h
      subst e
      exact ⟨hv, hd, by omega, by simp⟩
    · cases h
  | k + 1, rest, v, hv, hd, w, h => by
    simp only [sprD] at h
    split at h
    · next e =>
      cases h
      subst e
      exact ⟨hv, hd, by omega, by simp⟩
    · split at h
      · cases h
      · next e1 e2 =>
        have h1 := sprD_ok k (rest / 10) ((rest % 10 - 1) :: v) (fun t ht => by
          rcases List.mem_cons.mp ht with q | q
          · omega
          · exact hv t q) (List.nodup_cons.mpr ⟨fun q => e2 (Or.inr (Or.inr q)), hd⟩) w h
        obtain ⟨a1, a2, a3, a4⟩ := h1
        refine ⟨a1, a2, by simp at a3; omega, ?_⟩
        rw [a4, cod_cons, List.length_cons, Nat.pow_succ, Nat.mul_comm (10 ^ v.length) 10, ← Nat.mul_assoc, ← Nat.add_assoc, ← Nat.add_mul]
        congr 2
        omega
/-- the index before the i-th: -1 at 0 -/
def iM : Nat → Int32
  | 0 => -1
  | m + 1 => nI m
theorem iM_i (m : Nat) : nI m + Int32.ofInt (-1) = iM m := by
  cases m with
  | zero => decide
  | succ m =>
    show nI (m + 1) + (-1) = nI m
    rw [← nI_add, Int32.add_assoc]
    show nI m + 0 = nI m
    rw [Int32.add_zero]
theorem iM_s (m : Nat) : nI m - nI 1 = iM m := by
  cases m with
  | zero => decide
  | succ m => exact nI_sub1 (by omega)
def pOrd (h : Hp) (r : Nat) (w : List Nat) : Prop := ∃ os : List Nat, h (r + 10) = some (.inr (0, .inl (os.map nI))) ∧ os.length = 6 ∧ ∀ k : Nat, k < w.length → gN os k = gN w k
theorem cod_lt0 {v : List Nat} : cod v = 0 → v = [] := by
  intro h
  rcases List.eq_nil_or_concat v with e | ⟨l, t, e⟩
  · exact e
  · rw [e, List.concat_eq_append, cod_app] at h
    omega
section WALK
variable {X : Cx} {h : Hp} {z r size full i d : Nat} {kn : Bool} {lb osz nx : Int32}
theorem c_spread_neg {f : Int32} {n : Nat} (hf : f.toInt < 0) (p : pRO h r size full kn lb osz nx) : Ct X 1 mt_X5_spread [.ref r, .int f, .int (nI n)] (h, z) 0 0 (Qi (fun v S' => v = 0 ∧ S'.2 = z ∧ (∀ q : Nat, q ≠ r → q ≠ r + 10 → S'.1 q = h q) ∧ pRO S'.1 r size full kn lb (nI 0) nx)) := by
  unfold pRO at p
  refine mk_X5_spread (Nat.le_of_ble_eq_true rfl) (L := [.ref r, .int f, .int (nI n), .retAddr 0, .retAddr 0, .retAddr 0, .retAddr 0]) rfl ?_
  refine ev_aload_n (pc := 0) dX5_spread_0 rfl ?_
  refine ev_iconst (pc := 1) (v := nI 0) dX5_spread_1 kc_0 ?_
  refine pf_X5_47 (pc := 2) rfl dX5_spread_2 (by (try dsimp only); (repeat (first | rw [up_s] | rw [up_n (by omega)])) <;> first | rfl | assumption) ?_
  refine ev_iload_n (pc := 5) dX5_spread_5 rfl ?_
  refine ev_if_ge (pc := 6) 11 dX5_spread_6 (by decide) (fun c_6 => ?_) (fun c_6 => ?_)
  · exfalso; (try simp (disch := omega) only [i32_lti, i32_lei, i32_eqi, nI_toInt, i32z] at c_6); omega
  · (try simp (disch := omega) only [i32_lti, i32_lei, i32_eqi, nI_toInt, i32z] at c_6)
    refine ev_iconst (pc := 9) (v := nI 0) dX5_spread_9 kc_0 ?_
    refine ev_iret (pc := 10) dX5_spread_10 rfl rfl (Nat.le_of_ble_eq_true rfl) (Nat.le_of_ble_eq_true rfl) ?_
    exact ⟨_, rfl, rfl, rfl, (by intro q hq1 hq2; (try dsimp only); (repeat (first | rw [up_n (by omega)]))), (by unfold pRO; (try dsimp only); (repeat (first | rw [up_s] | rw [up_n (by omega)])) <;> first | rfl | assumption)⟩
theorem c_spread {f n : Nat} (hf : f < 2 ^ 31) (hn : n ≤ 6) (p : pRO h r size full kn lb osz nx) (po : pOrd h r []) : Ct X 1 mt_X5_spread [.ref r, .int (nI f), .int (nI n)] (h, z) 0 0 (Qi (fun v S' => v = b2i (sprD n 6 f []).isSome ∧ S'.2 = z ∧ (∀ q : Nat, q ≠ r → q ≠ r + 10 → S'.1 q = h q) ∧ ∃ k : Nat, pRO S'.1 r size full kn lb (nI k) nx ∧ pOrd S'.1 r [] ∧ ∀ w, sprD n 6 f [] = some w → k = w.length ∧ pOrd S'.1 r w)) := by
  unfold pRO at p
  refine mk_X5_spread (Nat.le_of_ble_eq_true rfl) (L := [.ref r, .int (nI f), .int (nI n), .retAddr 0, .retAddr 0, .retAddr 0, .retAddr 0]) rfl ?_
  have loop2 : ∀ (w : List Nat), sprD n 6 f [] = some w → (∀ t ∈ w, t < 6) → w.length ≤ 6 → ∀ (m : Nat) (u v : List Nat) (x3 : Int32) (x6 : Value) (h1 : Hp), u.length = m → u ++ v = w → (∀ q : Nat, q ≠ r → q ≠ r + 10 → h1 q = h q) → h1 r = some (.inl (5, [.ref (r + 1), .ref (r + 2), .ref (r + 3), .ref (r + 4), .int (nI size), .int (nI full), .int (b2i kn), .int lb, .ref (r + 5), .ref (r + 9), .ref (r + 10), .int (nI w.length), .int nx, .ref (r + 11)])) → (∃ os : List Nat, h1 (r + 10) = some (.inr (0, .inl (os.map nI))) ∧ os.length = 6 ∧ ∀ k : Nat, u.length ≤ k → k < w.length → gN os k = gN w k) → Ev X (mi_X5_spread 1 0 0) (Qi (fun v S' => v = b2i (sprD n 6 f []).isSome ∧ S'.2 = z ∧ (∀ q : Nat, q ≠ r → q ≠ r + 10 → S'.1 q = h q) ∧ ∃ k : Nat, pRO S'.1 r size full kn lb (nI k) nx ∧ pOrd S'.1 r [] ∧ ∀ w, sprD n 6 f [] = some w → k = w.length ∧ pOrd S'.1 r w)) 0 0 (h1, z) 116 [.ref r, .int (nI f), .int (nI n), .int x3, .int (nI (cod u)), .int (iM m), x6] [] := by
    intro w hs hw hl m
    induction m with
    | zero =>
      intro u v x3 x6 h1 hu huv f1 p1 po1
      obtain ⟨os, o1, o2, o3⟩ := po1
      show Ev X _ _ _ _ _ _ [.ref r, .int (nI f), .int (nI n), .int x3, .int (nI (cod u)), .int (-1), x6] []
      refine ev_iload (pc := 116) dX5_spread_116 rfl ?_
      refine ev_if_lt (pc := 118) 148 dX5_spread_118 (by decide) (fun c_118 => ?_) (fun c_118 => ?_)
      · (try simp (disch := omega) only [i32_lti, i32_lei, i32_eqi, nI_toInt, i32z] at c_118)
        refine ev_iconst (pc := 148) (v := nI 1) dX5_spread_148 kc_1 ?_
        refine ev_iret (pc := 149) dX5_spread_149 rfl rfl (Nat.le_of_ble_eq_true rfl) (Nat.le_of_ble_eq_true rfl) ?_
        exact ⟨_, rfl, by rw [hs]; rfl, rfl, f1, w.length, p1, ⟨os, o1, o2, fun k hk => (nomatch hk)⟩, fun w' hw' => by rw [hs] at hw'; cases hw'; exact ⟨rfl, os, o1, o2, fun k hk => o3 k (by omega) hk⟩⟩
      · exfalso; revert c_118; decide
    | succ m ih =>
      intro u v x3 x6 h1 hu huv f1 p1 po1
      obtain ⟨os, o1, o2, o3⟩ := po1
      show Ev X _ _ _ _ _ _ [.ref r, .int (nI f), .int (nI n), .int x3, .int (nI (cod u)), .int (nI m), x6] []
      rcases List.eq_nil_or_concat u with e | ⟨u', t, e⟩
      · subst e; simp at hu
      · rw [List.concat_eq_append] at e
        subst e
        have hlu : (u' ++ [t]).length + v.length ≤ 6 := by rw [← List.length_append, huv]; exact hl
        have hwu : ∀ x ∈ u' ++ [t], x < 6 := fun x hx => hw x (by rw [← huv]; exact List.mem_append_left _ hx)
        have hc := cod_lt6 hwu (by omega)
        have ht := hwu t (by simp)
        have ec := cod_app u' t
        have e1 : cod (u' ++ [t]) % 10 - 1 = t := by omega
        have e2 : cod (u' ++ [t]) / 10 = cod u' := by omega
        have hum : u'.length = m := by simp at hu; omega
        have hg : gN w m = t := by rw [← huv, ← hum]; simp [gN, List.getD_eq_getElem?_getD]
        have hlw : m < w.length := by rw [← huv, ← hum]; simp
        refine ev_iload (pc := 116) dX5_spread_116 rfl ?_
        refine ev_if_lt (pc := 118) 148 dX5_spread_118 (by decide) (fun c_118 => ?_) (fun c_118 => ?_)
        · exfalso; (try simp (disch := omega) only [i32_lti, i32_lei, i32_eqi, nI_toInt, i32z] at c_118); omega
        · (try simp (disch := omega) only [i32_lti, i32_lei, i32_eqi, nI_toInt, i32z] at c_118)
          refine ev_aload_n (pc := 121) dX5_spread_121 rfl ?_
          refine gf_X5_37 (pc := 122) rfl dX5_spread_122 (by (try dsimp only); (repeat (first | rw [up_s] | rw [up_n (by omega)])) <;> first | rfl | assumption) ?_
          refine ev_iload (pc := 125) dX5_spread_125 rfl ?_
          refine ev_iload (pc := 127) dX5_spread_127 rfl ?_
          refine ev_bipush (pc := 129) (v := nI 10) dX5_spread_129 kb_10 ?_
          refine ev_irem (pc := 131) dX5_spread_131 (by decide) ?_
          rw [pk_rem (by omega) (by omega) (by omega)]
          refine ev_iconst (pc := 132) (v := nI 1) dX5_spread_132 kc_1 ?_
          refine ev_isub (pc := 133) dX5_spread_133 ?_
          rw [nI_sub1 (by omega), e1]
          refine ev_iast (pc := 134) dX5_spread_134 (by (try dsimp only); (repeat (first | rw [up_s] | rw [up_n (by omega)])) <;> first | rfl | assumption) (nI_toInt (by omega)) (by simp only [List.length_map, List.length_set, List.length_replicate, List.length_cons, List.length_nil]; omega) ?_
          (try rw [gs])
          refine ev_iload (pc := 135) dX5_spread_135 rfl ?_
          refine ev_bipush (pc := 137) (v := nI 10) dX5_spread_137 kb_10 ?_
          refine ev_idiv (pc := 139) dX5_spread_139 (by decide) ?_
          rw [pk_div (by omega) (by omega) (by omega), e2]
          refine ev_istore (pc := 140) (L' := [_, _, _, _, _, _, _]) dX5_spread_140 (Nat.le_of_ble_eq_true rfl) rfl ?_
          refine ev_iinc (pc := 142) (L' := [_, _, _, _, _, _, _]) dX5_spread_142 rfl (iM_i m) rfl ?_
          refine ev_goto (pc := 145) 116 dX5_spread_145 (by decide) ?_
          have hh := ih u' (t :: v) x3 x6 (hup h1 (r + 10) (.inr (0, .inl ((os.set m t).map nI)))) hum (by rw [← huv]; simp) (by intro q hq1 hq2; rw [up_n (by omega)]; exact f1 q hq1 hq2) (by (try dsimp only); (repeat (first | rw [up_s] | rw [up_n (by omega)])) <;> first | rfl | assumption) ⟨os.set m t, (by (try dsimp only); (repeat (first | rw [up_s] | rw [up_n (by omega)])) <;> first | rfl | assumption), (List.length_set ..).trans o2, fun k hk1 hk2 => by
            rw [gN_set (by omega)]
            by_cases hkm : k = m
            · rw [if_pos hkm, hkm, hg]
            · rw [if_neg hkm]; exact o3 k (by simp at hu ⊢; omega) hk2⟩
          exact hh
  have loop : ∀ (k : Nat) (v : List Nat) (rest : Nat) (x6 : Value) (h1 : Hp), v.length + k = 6 → sprD n 6 f [] = sprD n k rest v → (∀ t ∈ v, t < n) → v.Nodup → f = rest * 10 ^ v.length + cod v → rest < 2 ^ 31 → (∀ q : Nat, q ≠ r → q ≠ r + 10 → h1 q = h q) → h1 r = some (.inl (5, [.ref (r + 1), .ref (r + 2), .ref (r + 3), .ref (r + 4), .int (nI size), .int (nI full), .int (b2i kn), .int lb, .ref (r + 5), .ref (r + 9), .ref (r + 10), .int (nI v.length), .int nx, .ref (r + 11)])) → h1 (r + 10) = h (r + 10) → Ev X (mi_X5_spread 1 0 0) (Qi (fun v S' => v = b2i (sprD n 6 f []).isSome ∧ S'.2 = z ∧ (∀ q : Nat, q ≠ r → q ≠ r + 10 → S'.1 q = h q) ∧ ∃ k : Nat, pRO S'.1 r size full kn lb (nI k) nx ∧ pOrd S'.1 r [] ∧ ∀ w, sprD n 6 f [] = some w → k = w.length ∧ pOrd S'.1 r w)) 0 0 (h1, z) 19 [.ref r, .int (nI f), .int (nI n), .int (nI (mk v)), .int (nI rest), .int (nI v.length), x6] [] := by
    obtain ⟨os, o1, o2, o3⟩ := po
    have zero : ∀ (v : List Nat) (x6 : Value) (h1 : Hp), sprD n 6 f [] = some v → (∀ t ∈ v, t < n) → v.length ≤ 6 → f = cod v → (∀ q : Nat, q ≠ r → q ≠ r + 10 → h1 q = h q) → h1 r = some (.inl (5, [.ref (r + 1), .ref (r + 2), .ref (r + 3), .ref (r + 4), .int (nI size), .int (nI full), .int (b2i kn), .int lb, .ref (r + 5), .ref (r + 9), .ref (r + 10), .int (nI v.length), .int nx, .ref (r + 11)])) → h1 (r + 10) = h (r + 10) → Ev X (mi_X5_spread 1 0 0) (Qi (fun v S' => v = b2i (sprD n 6 f []).isSome ∧ S'.2 = z ∧ (∀ q : Nat, q ≠ r → q ≠ r + 10 → S'.1 q = h q) ∧ ∃ k : Nat, pRO S'.1 r size full kn lb (nI k) nx ∧ pOrd S'.1 r [] ∧ ∀ w, sprD n 6 f [] = some w → k = w.length ∧ pOrd S'.1 r w)) 0 0 (h1, z) 93 [.ref r, .int (nI f), .int (nI n), .int (nI (mk v)), .int (nI 0), .int (nI v.length), x6] [] := by
      intro v x6 h1 hs hv hl ef f1 p1 e10
      rw [o1] at e10
      have emn : min v.length 6 = v.length := by omega
      refine ev_iload (pc := 93) dX5_spread_93 rfl ?_
      refine ev_if_le (pc := 95) 100 dX5_spread_95 (by decide) (fun c_95 => ?_) (fun c_95 => ?_)
      · (try simp (disch := omega) only [i32_lti, i32_lei, i32_eqi, nI_toInt, i32z] at c_95)
        refine ev_iload_n (pc := 100) dX5_spread_100 rfl ?_
        refine ev_istore (pc := 101) (L' := [_, _, _, _, _, _, _]) dX5_spread_101 (Nat.le_of_ble_eq_true rfl) rfl ?_
        refine ev_aload_n (pc := 103) dX5_spread_103 rfl ?_
        refine gf_X5_47 (pc := 104) rfl dX5_spread_104 (by (try dsimp only); (repeat (first | rw [up_s] | rw [up_n (by omega)])) <;> first | rfl | assumption) ?_
        refine ev_bipush (pc := 107) (v := nI 6) dX5_spread_107 kb_6 ?_
        refine ev_mmin (pc := 109) dX5_spread_109 tw_598 (Nat.le_of_ble_eq_true rfl) (Nat.le_of_ble_eq_true rfl) (Nat.le_of_ble_eq_true rfl) (Nat.le_of_ble_eq_true rfl) ?_
        rw [mn_nI (by omega) (by omega), emn]
        refine ev_iconst (pc := 112) (v := nI 1) dX5_spread_112 kc_1 ?_
        refine ev_isub (pc := 113) dX5_spread_113 ?_
        rw [iM_s]
        refine ev_istore (pc := 114) (L' := [_, _, _, _, _, _, _]) dX5_spread_114 (Nat.le_of_ble_eq_true rfl) rfl ?_
        have hh := loop2 v hs (fun t ht => by have := hv t ht; omega) hl v.length v [] (nI (mk v)) x6 h1 rfl (List.append_nil v) f1 p1 ⟨os, e10, o2, fun k hk1 hk2 => by omega⟩
        rw [← ef] at hh
        exact hh
      · exfalso; (try simp (disch := omega) only [i32_lti, i32_lei, i32_eqi, nI_toInt, i32z] at c_95); omega
    intro k
    induction k with
    | zero =>
      intro v rest x6 h1 hk hs hv hd ef hr f1 p1 e10
      have es : sprD n 0 rest v = if rest = 0 then some v else none := rfl
      rw [es] at hs
      by_cases h0 : rest = 0
      · subst h0
        rw [if_pos rfl] at hs
        refine ev_iload (pc := 19) dX5_spread_19 rfl ?_
        refine ev_bipush (pc := 21) (v := nI 6) dX5_spread_21 kb_6 ?_
        refine ev_icmp_ge (pc := 23) 93 dX5_spread_23 (by decide) (fun c_23 => ?_) (fun c_23 => ?_)
        · (try simp (disch := omega) only [i32_lti, i32_lei, i32_eqi, nI_toInt, i32z] at c_23)
          exact zero v x6 h1 hs hv (by omega) (by omega) f1 p1 e10
        · exfalso; (try simp (disch := omega) only [i32_lti, i32_lei, i32_eqi, nI_toInt, i32z] at c_23); omega
      · rw [if_neg h0] at hs
        rw [o1] at e10
        refine ev_iload (pc := 19) dX5_spread_19 rfl ?_
        refine ev_bipush (pc := 21) (v := nI 6) dX5_spread_21 kb_6 ?_
        refine ev_icmp_ge (pc := 23) 93 dX5_spread_23 (by decide) (fun c_23 => ?_) (fun c_23 => ?_)
        · (try simp (disch := omega) only [i32_lti, i32_lei, i32_eqi, nI_toInt, i32z] at c_23)
          refine ev_iload (pc := 93) dX5_spread_93 rfl ?_
          refine ev_if_le (pc := 95) 100 dX5_spread_95 (by decide) (fun c_95 => ?_) (fun c_95 => ?_)
          · exfalso; (try simp (disch := omega) only [i32_lti, i32_lei, i32_eqi, nI_toInt, i32z] at c_95); omega
          · (try simp (disch := omega) only [i32_lti, i32_lei, i32_eqi, nI_toInt, i32z] at c_95)
            refine ev_iconst (pc := 98) (v := nI 0) dX5_spread_98 kc_0 ?_
            refine ev_iret (pc := 99) dX5_spread_99 rfl rfl (Nat.le_of_ble_eq_true rfl) (Nat.le_of_ble_eq_true rfl) ?_
            exact ⟨_, rfl, by rw [hs]; rfl, rfl, f1, v.length, p1, ⟨os, e10, o2, fun k hk => (nomatch hk)⟩, fun w hw => by rw [hs] at hw; cases hw⟩
        · exfalso; (try simp (disch := omega) only [i32_lti, i32_lei, i32_eqi, nI_toInt, i32z] at c_23); omega
    | succ k ih =>
      intro v rest x6 h1 hk hs hv hd ef hr f1 p1 e10
      have es : sprD n (k + 1) rest v = if rest = 0 then some v else if rest % 10 = 0 ∨ n < rest % 10 ∨ (rest % 10 - 1) ∈ v then none else sprD n k (rest / 10) ((rest % 10 - 1) :: v) := rfl
      rw [es] at hs
      by_cases h0 : rest = 0
      · subst h0
        rw [if_pos rfl] at hs
        refine ev_iload (pc := 19) dX5_spread_19 rfl ?_
        refine ev_bipush (pc := 21) (v := nI 6) dX5_spread_21 kb_6 ?_
        refine ev_icmp_ge (pc := 23) 93 dX5_spread_23 (by decide) (fun c_23 => ?_) (fun c_23 => ?_)
        · exfalso; (try simp (disch := omega) only [i32_lti, i32_lei, i32_eqi, nI_toInt, i32z] at c_23); omega
        · (try simp (disch := omega) only [i32_lti, i32_lei, i32_eqi, nI_toInt, i32z] at c_23)
          refine ev_iload (pc := 26) dX5_spread_26 rfl ?_
          refine ev_if_le (pc := 28) 93 dX5_spread_28 (by decide) (fun c_28 => ?_) (fun c_28 => ?_)
          · (try simp (disch := omega) only [i32_lti, i32_lei, i32_eqi, nI_toInt, i32z] at c_28)
            exact zero v x6 h1 hs hv (by omega) (by omega) f1 p1 e10
          · exfalso; (try simp (disch := omega) only [i32_lti, i32_lei, i32_eqi, nI_toInt, i32z] at c_28); omega
      · rw [if_neg h0] at hs
        have hv6 : ∀ t ∈ v, t < 6 := fun t ht => by have := hv t ht; omega
        have h64 := mk_lt hv6
        have e10' := e10
        rw [o1] at e10'
        by_cases hc : rest % 10 = 0 ∨ n < rest % 10 ∨ (rest % 10 - 1) ∈ v
        · rw [if_pos hc] at hs
          by_cases hc0 : rest % 10 = 0
          · skip
            refine ev_iload (pc := 19) dX5_spread_19 rfl ?_
            refine ev_bipush (pc := 21) (v := nI 6) dX5_spread_21 kb_6 ?_
            refine ev_icmp_ge (pc := 23) 93 dX5_spread_23 (by decide) (fun c_23 => ?_) (fun c_23 => ?_)
            · exfalso; (try simp (disch := omega) only [i32_lti, i32_lei, i32_eqi, nI_toInt, i32z] at c_23); omega
            · (try simp (disch := omega) only [i32_lti, i32_lei, i32_eqi, nI_toInt, i32z] at c_23)
              refine ev_iload (pc := 26) dX5_spread_26 rfl ?_
              refine ev_if_le (pc := 28) 93 dX5_spread_28 (by decide) (fun c_28 => ?_) (fun c_28 => ?_)
              · exfalso; (try simp (disch := omega) only [i32_lti, i32_lei, i32_eqi, nI_toInt, i32z] at c_28); omega
              · (try simp (disch := omega) only [i32_lti, i32_lei, i32_eqi, nI_toInt, i32z] at c_28)
                refine ev_iload (pc := 31) dX5_spread_31 rfl ?_
                refine ev_bipush (pc := 33) (v := nI 10) dX5_spread_33 kb_10 ?_
                refine ev_irem (pc := 35) dX5_spread_35 (by decide) ?_
                rw [pk_rem (by omega) (by omega) (by omega), hc0]
                refine ev_iconst (pc := 36) (v := nI 1) dX5_spread_36 kc_1 ?_
                refine ev_isub (pc := 37) dX5_spread_37 ?_
                rw [iM_s]
                refine ev_istore (pc := 38) (L' := [_, _, _, _, _, _, _]) dX5_spread_38 (Nat.le_of_ble_eq_true rfl) rfl ?_
                refine ev_iload (pc := 40) dX5_spread_40 rfl ?_
                refine ev_if_lt (pc := 42) 61 dX5_spread_42 (by decide) (fun c_42 => ?_) (fun c_42 => ?_)
                · (try simp (disch := omega) only [i32_lti, i32_lei, i32_eqi, nI_toInt, i32z] at c_42)
                  refine ev_iconst (pc := 61) (v := nI 0) dX5_spread_61 kc_0 ?_
                  refine ev_iret (pc := 62) dX5_spread_62 rfl rfl (Nat.le_of_ble_eq_true rfl) (Nat.le_of_ble_eq_true rfl) ?_
                  exact ⟨_, rfl, by rw [hs]; rfl, rfl, f1, v.length, p1, ⟨os, e10', o2, fun k hk => (nomatch hk)⟩, fun w hw => by rw [hs] at hw; cases hw⟩
                · exfalso; revert c_42; decide
          · by_cases hc1 : n < rest % 10
            · skip
              refine ev_iload (pc := 19) dX5_spread_19 rfl ?_
              refine ev_bipush (pc := 21) (v := nI 6) dX5_spread_21 kb_6 ?_
              refine ev_icmp_ge (pc := 23) 93 dX5_spread_23 (by decide) (fun c_23 => ?_) (fun c_23 => ?_)
              · exfalso; (try simp (disch := omega) only [i32_lti, i32_lei, i32_eqi, nI_toInt, i32z] at c_23); omega
              · (try simp (disch := omega) only [i32_lti, i32_lei, i32_eqi, nI_toInt, i32z] at c_23)
                refine ev_iload (pc := 26) dX5_spread_26 rfl ?_
                refine ev_if_le (pc := 28) 93 dX5_spread_28 (by decide) (fun c_28 => ?_) (fun c_28 => ?_)
                · exfalso; (try simp (disch := omega) only [i32_lti, i32_lei, i32_eqi, nI_toInt, i32z] at c_28); omega
                · (try simp (disch := omega) only [i32_lti, i32_lei, i32_eqi, nI_toInt, i32z] at c_28)
                  refine ev_iload (pc := 31) dX5_spread_31 rfl ?_
                  refine ev_bipush (pc := 33) (v := nI 10) dX5_spread_33 kb_10 ?_
                  refine ev_irem (pc := 35) dX5_spread_35 (by decide) ?_
                  rw [pk_rem (by omega) (by omega) (by omega)]
                  refine ev_iconst (pc := 36) (v := nI 1) dX5_spread_36 kc_1 ?_
                  refine ev_isub (pc := 37) dX5_spread_37 ?_
                  rw [nI_sub1 (by omega)]
                  refine ev_istore (pc := 38) (L' := [_, _, _, _, _, _, _]) dX5_spread_38 (Nat.le_of_ble_eq_true rfl) rfl ?_
                  refine ev_iload (pc := 40) dX5_spread_40 rfl ?_
                  refine ev_if_lt (pc := 42) 61 dX5_spread_42 (by decide) (fun c_42 => ?_) (fun c_42 => ?_)
                  · exfalso; (try simp (disch := omega) only [i32_lti, i32_lei, i32_eqi, nI_toInt, i32z] at c_42); omega
                  · (try simp (disch := omega) only [i32_lti, i32_lei, i32_eqi, nI_toInt, i32z] at c_42)
                    refine ev_iload (pc := 45) dX5_spread_45 rfl ?_
                    refine ev_iload_n (pc := 47) dX5_spread_47 rfl ?_
                    refine ev_icmp_ge (pc := 48) 61 dX5_spread_48 (by decide) (fun c_48 => ?_) (fun c_48 => ?_)
                    · (try simp (disch := omega) only [i32_lti, i32_lei, i32_eqi, nI_toInt, i32z] at c_48)
                      refine ev_iconst (pc := 61) (v := nI 0) dX5_spread_61 kc_0 ?_
                      refine ev_iret (pc := 62) dX5_spread_62 rfl rfl (Nat.le_of_ble_eq_true rfl) (Nat.le_of_ble_eq_true rfl) ?_
                      exact ⟨_, rfl, by rw [hs]; rfl, rfl, f1, v.length, p1, ⟨os, e10', o2, fun k hk => (nomatch hk)⟩, fun w hw => by rw [hs] at hw; cases hw⟩
                    · exfalso; (try simp (disch := omega) only [i32_lti, i32_lei, i32_eqi, nI_toInt, i32z] at c_48); omega
            · have hm : (rest % 10 - 1) ∈ v := by
                rcases hc with q | q | q
                · exact absurd q hc0
                · exact absurd q hc1
                · exact q
              have hb : (mk v).testBit (rest % 10 - 1) = true := by rw [mk_bit]; exact decide_eq_true hm
              refine ev_iload (pc := 19) dX5_spread_19 rfl ?_
              refine ev_bipush (pc := 21) (v := nI 6) dX5_spread_21 kb_6 ?_
              refine ev_icmp_ge (pc := 23) 93 dX5_spread_23 (by decide) (fun c_23 => ?_) (fun c_23 => ?_)
              · exfalso; (try simp (disch := omega) only [i32_lti, i32_lei, i32_eqi, nI_toInt, i32z] at c_23); omega
              · (try simp (disch := omega) only [i32_lti, i32_lei, i32_eqi, nI_toInt, i32z] at c_23)
                refine ev_iload (pc := 26) dX5_spread_26 rfl ?_
                refine ev_if_le (pc := 28) 93 dX5_spread_28 (by decide) (fun c_28 => ?_) (fun c_28 => ?_)
                · exfalso; (try simp (disch := omega) only [i32_lti, i32_lei, i32_eqi, nI_toInt, i32z] at c_28); omega
                · (try simp (disch := omega) only [i32_lti, i32_lei, i32_eqi, nI_toInt, i32z] at c_28)
                  refine ev_iload (pc := 31) dX5_spread_31 rfl ?_
                  refine ev_bipush (pc := 33) (v := nI 10) dX5_spread_33 kb_10 ?_
                  refine ev_irem (pc := 35) dX5_spread_35 (by decide) ?_
                  rw [pk_rem (by omega) (by omega) (by omega)]
                  refine ev_iconst (pc := 36) (v := nI 1) dX5_spread_36 kc_1 ?_
                  refine ev_isub (pc := 37) dX5_spread_37 ?_
                  rw [nI_sub1 (by omega)]
                  refine ev_istore (pc := 38) (L' := [_, _, _, _, _, _, _]) dX5_spread_38 (Nat.le_of_ble_eq_true rfl) rfl ?_
                  refine ev_iload (pc := 40) dX5_spread_40 rfl ?_
                  refine ev_if_lt (pc := 42) 61 dX5_spread_42 (by decide) (fun c_42 => ?_) (fun c_42 => ?_)
                  · exfalso; (try simp (disch := omega) only [i32_lti, i32_lei, i32_eqi, nI_toInt, i32z] at c_42); omega
                  · (try simp (disch := omega) only [i32_lti, i32_lei, i32_eqi, nI_toInt, i32z] at c_42)
                    refine ev_iload (pc := 45) dX5_spread_45 rfl ?_
                    refine ev_iload_n (pc := 47) dX5_spread_47 rfl ?_
                    refine ev_icmp_ge (pc := 48) 61 dX5_spread_48 (by decide) (fun c_48 => ?_) (fun c_48 => ?_)
                    · exfalso; (try simp (disch := omega) only [i32_lti, i32_lei, i32_eqi, nI_toInt, i32z] at c_48); omega
                    · (try simp (disch := omega) only [i32_lti, i32_lei, i32_eqi, nI_toInt, i32z] at c_48)
                      refine ev_iload_n (pc := 51) dX5_spread_51 rfl ?_
                      refine ev_iload (pc := 52) dX5_spread_52 rfl ?_
                      refine ev_ishr (pc := 54) dX5_spread_54 ?_
                      refine ev_iconst (pc := 55) (v := nI 1) dX5_spread_55 kc_1 ?_
                      refine ev_iand (pc := 56) dX5_spread_56 ?_
                      rw [bt_tst _ h64 _ (by omega), hb, b2i_t]
                      refine ev_iconst (pc := 57) (v := nI 1) dX5_spread_57 kc_1 ?_
                      refine ev_icmp_ne (pc := 58) 63 dX5_spread_58 (by decide) (fun c_58 => ?_) (fun c_58 => ?_)
                      · exact absurd rfl c_58
                      · (try simp (disch := omega) only [i32_lti, i32_lei, i32_eqi, nI_toInt, i32z] at c_58)
                        refine ev_iconst (pc := 61) (v := nI 0) dX5_spread_61 kc_0 ?_
                        refine ev_iret (pc := 62) dX5_spread_62 rfl rfl (Nat.le_of_ble_eq_true rfl) (Nat.le_of_ble_eq_true rfl) ?_
                        exact ⟨_, rfl, by rw [hs]; rfl, rfl, f1, v.length, p1, ⟨os, e10', o2, fun k hk => (nomatch hk)⟩, fun w hw => by rw [hs] at hw; cases hw⟩
        · rw [if_neg hc] at hs
          have hc0 : ¬ rest % 10 = 0 := fun q => hc (Or.inl q)
          have hc1 : ¬ n < rest % 10 := fun q => hc (Or.inr (Or.inl q))
          have hm : (rest % 10 - 1) ∉ v := fun q => hc (Or.inr (Or.inr q))
          have hb : (mk v).testBit (rest % 10 - 1) = false := by rw [mk_bit]; exact decide_eq_false hm
          have em : mk v ||| 1 <<< (rest % 10 - 1) = mk ((rest % 10 - 1) :: v) := Nat.or_comm ..
          have ev : v.length + 1 = ((rest % 10 - 1) :: v).length := rfl
          have ecod := cod_cons (rest % 10 - 1) v
          have e1 : rest * 10 ^ v.length = rest / 10 * 10 ^ (v.length + 1) + (rest % 10) * 10 ^ v.length := by
            rw [Nat.pow_succ, Nat.mul_comm (10 ^ v.length) 10, ← Nat.mul_assoc, ← Nat.add_mul]
            congr 1
            omega
          rw [show rest % 10 - 1 + 1 = rest % 10 by omega] at ecod
          refine ev_iload (pc := 19) dX5_spread_19 rfl ?_
          refine ev_bipush (pc := 21) (v := nI 6) dX5_spread_21 kb_6 ?_
          refine ev_icmp_ge (pc := 23) 93 dX5_spread_23 (by decide) (fun c_23 => ?_) (fun c_23 => ?_)
          · exfalso; (try simp (disch := omega) only [i32_lti, i32_lei, i32_eqi, nI_toInt, i32z] at c_23); omega
          · (try simp (disch := omega) only [i32_lti, i32_lei, i32_eqi, nI_toInt, i32z] at c_23)
            refine ev_iload (pc := 26) dX5_spread_26 rfl ?_
            refine ev_if_le (pc := 28) 93 dX5_spread_28 (by decide) (fun c_28 => ?_) (fun c_28 => ?_)
            · exfalso; (try simp (disch := omega) only [i32_lti, i32_lei, i32_eqi, nI_toInt, i32z] at c_28); omega
            · (try simp (disch := omega) only [i32_lti, i32_lei, i32_eqi, nI_toInt, i32z] at c_28)
              refine ev_iload (pc := 31) dX5_spread_31 rfl ?_
              refine ev_bipush (pc := 33) (v := nI 10) dX5_spread_33 kb_10 ?_
              refine ev_irem (pc := 35) dX5_spread_35 (by decide) ?_
              rw [pk_rem (by omega) (by omega) (by omega)]
              refine ev_iconst (pc := 36) (v := nI 1) dX5_spread_36 kc_1 ?_
              refine ev_isub (pc := 37) dX5_spread_37 ?_
              rw [nI_sub1 (by omega)]
              refine ev_istore (pc := 38) (L' := [_, _, _, _, _, _, _]) dX5_spread_38 (Nat.le_of_ble_eq_true rfl) rfl ?_
              refine ev_iload (pc := 40) dX5_spread_40 rfl ?_
              refine ev_if_lt (pc := 42) 61 dX5_spread_42 (by decide) (fun c_42 => ?_) (fun c_42 => ?_)
              · exfalso; (try simp (disch := omega) only [i32_lti, i32_lei, i32_eqi, nI_toInt, i32z] at c_42); omega
              · (try simp (disch := omega) only [i32_lti, i32_lei, i32_eqi, nI_toInt, i32z] at c_42)
                refine ev_iload (pc := 45) dX5_spread_45 rfl ?_
                refine ev_iload_n (pc := 47) dX5_spread_47 rfl ?_
                refine ev_icmp_ge (pc := 48) 61 dX5_spread_48 (by decide) (fun c_48 => ?_) (fun c_48 => ?_)
                · exfalso; (try simp (disch := omega) only [i32_lti, i32_lei, i32_eqi, nI_toInt, i32z] at c_48); omega
                · (try simp (disch := omega) only [i32_lti, i32_lei, i32_eqi, nI_toInt, i32z] at c_48)
                  refine ev_iload_n (pc := 51) dX5_spread_51 rfl ?_
                  refine ev_iload (pc := 52) dX5_spread_52 rfl ?_
                  refine ev_ishr (pc := 54) dX5_spread_54 ?_
                  refine ev_iconst (pc := 55) (v := nI 1) dX5_spread_55 kc_1 ?_
                  refine ev_iand (pc := 56) dX5_spread_56 ?_
                  rw [bt_tst _ h64 _ (by omega), hb, b2i_f]
                  refine ev_iconst (pc := 57) (v := nI 1) dX5_spread_57 kc_1 ?_
                  refine ev_icmp_ne (pc := 58) 63 dX5_spread_58 (by decide) (fun c_58 => ?_) (fun c_58 => ?_)
                  · (try simp (disch := omega) only [i32_lti, i32_lei, i32_eqi, nI_toInt, i32z] at c_58)
                    refine ev_iload_n (pc := 63) dX5_spread_63 rfl ?_
                    refine ev_iconst (pc := 64) (v := nI 1) dX5_spread_64 kc_1 ?_
                    refine ev_iload (pc := 65) dX5_spread_65 rfl ?_
                    refine ev_ishl (pc := 67) dX5_spread_67 ?_
                    rw [bt_shl _ (by omega)]
                    refine ev_ior (pc := 68) dX5_spread_68 ?_
                    rw [bt_or _ h64 _ (bt_shl64 _ (by omega)), em]
                    refine ev_istore_n (pc := 69) (L' := [_, _, _, _, _, _, _]) dX5_spread_69 (Nat.le_of_ble_eq_true rfl) rfl ?_
                    refine ev_iload (pc := 70) dX5_spread_70 rfl ?_
                    refine ev_bipush (pc := 72) (v := nI 10) dX5_spread_72 kb_10 ?_
                    refine ev_idiv (pc := 74) dX5_spread_74 (by decide) ?_
                    rw [pk_div (by omega) (by omega) (by omega)]
                    refine ev_istore (pc := 75) (L' := [_, _, _, _, _, _, _]) dX5_spread_75 (Nat.le_of_ble_eq_true rfl) rfl ?_
                    refine ev_aload_n (pc := 77) dX5_spread_77 rfl ?_
                    refine ev_dup (pc := 78) dX5_spread_78 rfl ?_
                    refine gf_X5_47 (pc := 79) rfl dX5_spread_79 (by (try dsimp only); (repeat (first | rw [up_s] | rw [up_n (by omega)])) <;> first | rfl | assumption) ?_
                    refine ev_iconst (pc := 82) (v := nI 1) dX5_spread_82 kc_1 ?_
                    refine ev_iadd (pc := 83) dX5_spread_83 ?_
                    rw [nI_add]
                    refine pf_X5_47 (pc := 84) rfl dX5_spread_84 (by (try dsimp only); (repeat (first | rw [up_s] | rw [up_n (by omega)])) <;> first | rfl | assumption) ?_
                    refine ev_iinc (pc := 87) (L' := [_, _, _, _, _, _, _]) dX5_spread_87 rfl (nI_1 _) rfl ?_
                    refine ev_goto (pc := 90) 19 dX5_spread_90 (by decide) ?_
                    exact ih ((rest % 10 - 1) :: v) (rest / 10) _ _ (by rw [List.length_cons]; omega) hs (fun t ht => by
                      rcases List.mem_cons.mp ht with q | q
                      · omega
                      · exact hv t q) (List.nodup_cons.mpr ⟨hm, hd⟩) (by rw [List.length_cons]; omega) (by omega) (by intro q hq1 hq2; rw [up_n (by omega)]; exact f1 q hq1 hq2) (by (try dsimp only); (repeat (first | rw [up_s] | rw [up_n (by omega)])) <;> first | rfl | assumption) (by rw [up_n (by omega)]; exact e10)
                  · exfalso; (try simp (disch := omega) only [i32_lti, i32_lei, i32_eqi, nI_toInt, i32z] at c_58); omega
  refine ev_aload_n (pc := 0) dX5_spread_0 rfl ?_
  refine ev_iconst (pc := 1) (v := nI 0) dX5_spread_1 kc_0 ?_
  refine pf_X5_47 (pc := 2) rfl dX5_spread_2 (by (try dsimp only); (repeat (first | rw [up_s] | rw [up_n (by omega)])) <;> first | rfl | assumption) ?_
  refine ev_iload_n (pc := 5) dX5_spread_5 rfl ?_
  refine ev_if_ge (pc := 6) 11 dX5_spread_6 (by decide) (fun c_6 => ?_) (fun c_6 => ?_)
  · (try simp (disch := omega) only [i32_lti, i32_lei, i32_eqi, nI_toInt, i32z] at c_6)
    refine ev_iconst (pc := 11) (v := nI 0) dX5_spread_11 kc_0 ?_
    refine ev_istore_n (pc := 12) (L' := [_, _, _, _, _, _, _]) dX5_spread_12 (Nat.le_of_ble_eq_true rfl) rfl ?_
    refine ev_iload_n (pc := 13) dX5_spread_13 rfl ?_
    refine ev_istore (pc := 14) (L' := [_, _, _, _, _, _, _]) dX5_spread_14 (Nat.le_of_ble_eq_true rfl) rfl ?_
    refine ev_iconst (pc := 16) (v := nI 0) dX5_spread_16 kc_0 ?_
    refine ev_istore (pc := 17) (L' := [_, _, _, _, _, _, _]) dX5_spread_17 (Nat.le_of_ble_eq_true rfl) rfl ?_
    exact loop 6 [] f _ _ rfl rfl (fun t ht => (nomatch ht)) List.nodup_nil (by simp [cod]) hf (by intro q hq1 hq2; rw [up_n (by omega)]) (by (try dsimp only); (repeat (first | rw [up_s] | rw [up_n (by omega)])) <;> first | rfl | assumption) (by rw [up_n (by omega)])
  · exfalso; (try simp (disch := omega) only [i32_lti, i32_lei, i32_eqi, nI_toInt, i32z] at c_6); omega
end WALK
