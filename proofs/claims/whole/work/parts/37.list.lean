/-! ===== Rows: the list of all rows ===== -/
def lev (n : Nat) : Nat → List (List Nat)
  | 0 => [[]]
  | k + 1 => (lev n k).flatMap (fun w => extT w n)
def preW (n : Nat) : Nat → List (List Nat)
  | 0 => []
  | k + 1 => preW n k ++ lev n k
def allW (n k : Nat) : List (List Nat) := preW n k ++ lev n k
theorem allW_len : ∀ n, n < 7 → (allW n n).length ≤ 1957 := by decide +kernel
theorem allW_le (n : Nat) {j k : Nat} (h : j ≤ k) : (allW n j).length ≤ (allW n k).length := by
  induction k with
  | zero => rw [show j = 0 by omega]; exact Nat.le_refl _
  | succ k ih =>
    rcases Nat.lt_or_ge j (k + 1) with h1 | h1
    · refine Nat.le_trans (ih (by omega)) ?_
      show _ ≤ ((preW n k ++ lev n k) ++ lev n (k + 1)).length
      rw [List.length_append (as := preW n k ++ lev n k)]
      exact Nat.le_add_right _ _
    · rw [show j = k + 1 by omega]; exact Nat.le_refl _
theorem extT_mem {w v : List Nat} : ∀ {n : Nat}, v ∈ extT w n ↔ ∃ t, t < n ∧ t ∉ w ∧ v = w ++ [t]
  | 0 => by simp [extT]
  | n + 1 => by
    simp only [extT]
    have ih := extT_mem (w := w) (v := v) (n := n)
    split
    · next h =>
      rw [ih]
      constructor
      · rintro ⟨t, h1, h2, h3⟩; exact ⟨t, by omega, h2, h3⟩
      · rintro ⟨t, h1, h2, h3⟩
        refine ⟨t, ?_, h2, h3⟩
        rcases Nat.lt_or_ge t n with q | q
        · exact q
        · exact absurd (show t ∈ w by rw [show t = n by omega]; exact h) h2
    · next h =>
      rw [List.mem_append, ih, List.mem_singleton]
      constructor
      · rintro (⟨t, h1, h2, h3⟩ | h3)
        · exact ⟨t, by omega, h2, h3⟩
        · exact ⟨n, by omega, h, h3⟩
      · rintro ⟨t, h1, h2, h3⟩
        rcases Nat.lt_or_ge t n with q | q
        · exact Or.inl ⟨t, q, h2, h3⟩
        · have : t = n := by omega
          subst this
          exact Or.inr h3
theorem lev_mem {n : Nat} : ∀ {k : Nat} {w : List Nat}, w ∈ lev n k → w.length = k ∧ w.Nodup ∧ ∀ t ∈ w, t < n
  | 0, w, h => by
    have e := List.mem_singleton.mp h
    subst e
    exact ⟨rfl, List.nodup_nil, fun t ht => (nomatch ht)⟩
  | k + 1, w, h => by
    obtain ⟨v, h1, h2⟩ := List.mem_flatMap.mp h
    obtain ⟨t, h3, h4, h5⟩ := extT_mem.mp h2
    obtain ⟨a1, a2, a3⟩ := lev_mem h1
    subst h5
    refine ⟨by simp [a1], ?_, ?_⟩
    · rw [List.nodup_append]
      exact ⟨a2, by simp, fun x hx y hy q => h4 (by rw [← List.mem_singleton.mp hy, ← q]; exact hx)⟩
    · intro x hx
      rcases List.mem_append.mp hx with e | e
      · exact a3 x e
      · rw [List.mem_singleton.mp e]; exact h3
theorem preW_mem {n : Nat} : ∀ {k : Nat} {w : List Nat}, w ∈ preW n k → w.length < k ∧ w ∈ lev n w.length
  | 0, w, h => (nomatch h)
  | k + 1, w, h => by
    rcases List.mem_append.mp h with e | e
    · have := preW_mem e
      exact ⟨by omega, this.2⟩
    · have := lev_mem e
      rw [this.1]
      exact ⟨by omega, e⟩
theorem allW_mem {n k : Nat} {w : List Nat} (h : w ∈ allW n k) : w.length ≤ k ∧ w.Nodup ∧ ∀ t ∈ w, t < n := by
  rcases List.mem_append.mp h with e | e
  · have h1 := preW_mem e
    exact ⟨by omega, (lev_mem h1.2).2⟩
  · have h1 := lev_mem e
    exact ⟨by omega, h1.2⟩
section LIST2
variable {X : Cx} {h : Hp} {z r size full k b m a n : Nat} {kn : Bool} {lb osz nx : Int32} {B : Bk} {W : List (List Nat)} {w : List Nat}
theorem c_list (p : pRO h r size full kn lb osz nx) (q : ∃ rs : List Nat, h (r + 1) = some (.inr (0, .inl (rs.map nI))) ∧ rs.length = 1957) (hn : n ≤ 6) : Ct X 3 mt_X5_list [.ref r, .int (nI n)] (h, z) 0 0 (Qv (fun S' => S'.2 = z ∧ hfr h S'.1 r 2 ∧ pRO S'.1 r (allW n n).length (preW n n).length kn lb osz nx ∧ pRow S'.1 r (allW n n))) := by
  obtain ⟨rs, r1, r2⟩ := q
  have p' := p
  unfold pRO at p'
  have h1957 := allW_len n (by omega)
  refine mk_X5_list (Nat.le_of_ble_eq_true rfl) (L := [.ref r, .int (nI n), .retAddr 0, .retAddr 0, .retAddr 0]) rfl ?_
  have inner : ∀ (c j k : Nat) (h1 : Hp), k < n → j + c = (lev n k).length → hfr h h1 r 2 → pRO h1 r (allW n k ++ ((lev n k).take j).flatMap (fun w => extT w n)).length (preW n k).length kn lb osz nx → pRow h1 r (allW n k ++ ((lev n k).take j).flatMap (fun w => extT w n)) → (∀ (h2 : Hp) (x : Value), hfr h h2 r 2 → pRO h2 r (allW n (k + 1)).length (preW n k).length kn lb osz nx → pRow h2 r (allW n (k + 1)) → Ev X (mi_X5_list 3 0 0) (Qv (fun S' => S'.2 = z ∧ hfr h S'.1 r 2 ∧ pRO S'.1 r (allW n n).length (preW n n).length kn lb osz nx ∧ pRow S'.1 r (allW n n))) 0 0 (h2, z) 73 [.ref r, .int (nI n), .int (nI k), .int (nI (allW n k).length), x] []) → Ev X (mi_X5_list 3 0 0) (Qv (fun S' => S'.2 = z ∧ hfr h S'.1 r 2 ∧ pRO S'.1 r (allW n n).length (preW n n).length kn lb osz nx ∧ pRow S'.1 r (allW n n))) 0 0 (h1, z) 41 [.ref r, .int (nI n), .int (nI k), .int (nI (allW n k).length), .int (nI ((preW n k).length + j))] [] := by
    intro c
    induction c with
    | zero =>
      intro j k h1 hk hj f1 p1 q1 kk
      have hlen : (allW n k).length = (preW n k).length + (lev n k).length := List.length_append
      have hle := allW_le n (show k ≤ n by omega)
      rw [List.take_of_length_le (by omega)] at p1 q1
      refine ev_iload (pc := 41) dX5_list_41 rfl ?_
      refine ev_iload_n (pc := 43) dX5_list_43 rfl ?_
      refine ev_icmp_ge (pc := 44) 73 dX5_list_44 (by decide) (fun c_44 => ?_) (fun c_44 => ?_)
      · (try simp (disch := omega) only [i32_lti, i32_lei, i32_eqi, nI_toInt, i32z] at c_44)
        exact kk h1 _ f1 p1 q1
      · exfalso; (try simp (disch := omega) only [i32_lti, i32_lei, i32_eqi, nI_toInt, i32z] at c_44); omega
    | succ c ih =>
      intro j k h1 hk hj f1 p1 q1 kk
      have hlen : (allW n k).length = (preW n k).length + (lev n k).length := List.length_append
      have hle := allW_le n (show k ≤ n by omega)
      have hle1 := allW_le n (show k + 1 ≤ n by omega)
      have p1' := p1
      unfold pRO at p1'
      obtain ⟨v, hv⟩ : ∃ v, (lev n k)[j]? = some v := ⟨_, List.getElem?_eq_getElem (show j < (lev n k).length by omega)⟩
      have hvl : v ∈ lev n k := List.mem_of_getElem? hv
      obtain ⟨v1, v2, v3⟩ := lev_mem hvl
      have et : (lev n k).take (j + 1) = (lev n k).take j ++ [v] := by
        rw [List.take_add_one, hv]; rfl
      have ef : ((lev n k).take (j + 1)).flatMap (fun w => extT w n) = ((lev n k).take j).flatMap (fun w => extT w n) ++ extT v n := by
        rw [et, List.flatMap_append]; simp
      have hsz : (allW n k ++ ((lev n k).take j).flatMap (fun w => extT w n) ++ extT v n).length ≤ 1957 := by
        rw [List.append_assoc, ← ef]
        have e1 : allW n (k + 1) = allW n k ++ ((lev n k).take (j + 1)).flatMap (fun w => extT w n) ++ ((lev n k).drop (j + 1)).flatMap (fun w => extT w n) := by
          rw [List.append_assoc, ← List.flatMap_append, List.take_append_drop]; rfl
        have e2 := congrArg List.length e1
        rw [List.length_append (as := allW n k ++ ((lev n k).take (j + 1)).flatMap (fun w => extT w n))] at e2
        omega
      obtain ⟨rs1, s1, s2, s3, s4⟩ := id q1
      have hg : (allW n k ++ ((lev n k).take j).flatMap (fun w => extT w n))[(preW n k).length + j]? = some v := by
        rw [List.getElem?_append_left (by omega)]
        unfold allW
        rw [List.getElem?_append_right (by omega), Nat.add_sub_cancel_left]
        exact hv
      have hgc := (s4 _ v hg).1
      have cL := c_listLonger (X := X) (z := z) (n := n) (w := v) p1 q1 hn (fun t ht => by have := v3 t ht; omega) (by omega) hsz
      rw [List.append_assoc, ← ef] at cL
      refine ev_iload (pc := 41) dX5_list_41 rfl ?_
      refine ev_iload_n (pc := 43) dX5_list_43 rfl ?_
      refine ev_icmp_ge (pc := 44) 73 dX5_list_44 (by decide) (fun c_44 => ?_) (fun c_44 => ?_)
      · exfalso; (try simp (disch := omega) only [i32_lti, i32_lei, i32_eqi, nI_toInt, i32z] at c_44); omega
      · (try simp (disch := omega) only [i32_lti, i32_lei, i32_eqi, nI_toInt, i32z] at c_44)
        refine ev_iload (pc := 47) dX5_list_47 rfl ?_
        refine ev_sipush (pc := 49) (v := nI 1957) dX5_list_49 ks_1957 ?_
        refine ev_icmp_ge (pc := 52) 73 dX5_list_52 (by decide) (fun c_52 => ?_) (fun c_52 => ?_)
        · exfalso; (try simp (disch := omega) only [i32_lti, i32_lei, i32_eqi, nI_toInt, i32z] at c_52); omega
        · (try simp (disch := omega) only [i32_lti, i32_lei, i32_eqi, nI_toInt, i32z] at c_52)
          refine ev_aload_n (pc := 55) dX5_list_55 rfl ?_
          refine ev_aload_n (pc := 56) dX5_list_56 rfl ?_
          refine gf_X5_11 (pc := 57) rfl dX5_list_57 (by (try dsimp only); (repeat (first | rw [up_s] | rw [up_n (by omega)])) <;> first | rfl | assumption) ?_
          refine ev_iload (pc := 60) dX5_list_60 rfl ?_
          refine ev_iald (pc := 62) dX5_list_62 (by (try dsimp only); (repeat (first | rw [up_s] | rw [up_n (by omega)])) <;> first | rfl | assumption) (nI_toInt (by omega)) (gm (by omega)) ?_
          rw [hgc]
          refine ev_iload_n (pc := 63) dX5_list_63 rfl ?_
          refine iv_X5_152 (pc := 64) rfl dX5_list_64 (by (try dsimp only); (repeat (first | rw [up_s] | rw [up_n (by omega)])) <;> first | rfl | assumption) (Nat.le_of_ble_eq_true rfl) (Nat.le_of_ble_eq_true rfl) (Nat.le_of_ble_eq_true rfl) (Nat.le_of_ble_eq_true rfl) cL (kv (fun S' hS => ?_))
          obtain ⟨h2, z'⟩ := S'
          obtain ⟨rfl, f2, p2, q2⟩ := hS
          refine ev_iinc (pc := 67) (L' := [_, _, _, _, _]) dX5_list_67 rfl (nI_1 _) rfl ?_
          refine ev_goto (pc := 70) 41 dX5_list_70 (by decide) ?_
          exact ih (j + 1) k h2 hk (by omega) (fun y e => (f2 y e).trans (f1 y e)) p2 q2 kk
  have loop : ∀ (c k : Nat) (h1 : Hp) (x3 x4 : Value), k + c = n → hfr h h1 r 2 → pRO h1 r (allW n k).length (preW n k).length kn lb osz nx → pRow h1 r (allW n k) → Ev X (mi_X5_list 3 0 0) (Qv (fun S' => S'.2 = z ∧ hfr h S'.1 r 2 ∧ pRO S'.1 r (allW n n).length (preW n n).length kn lb osz nx ∧ pRow S'.1 r (allW n n))) 0 0 (h1, z) 19 [.ref r, .int (nI n), .int (nI k), x3, x4] [] := by
    intro c
    induction c with
    | zero =>
      intro k h1 x3 x4 hk f1 p1 q1
      have e : k = n := by omega
      subst e
      refine ev_iload_n (pc := 19) dX5_list_19 rfl ?_
      refine ev_iload_n (pc := 20) dX5_list_20 rfl ?_
      refine ev_icmp_ge (pc := 21) 84 dX5_list_21 (by decide) (fun c_21 => ?_) (fun c_21 => ?_)
      · (try simp (disch := omega) only [i32_lti, i32_lei, i32_eqi, nI_toInt, i32z] at c_21)
        refine ev_ret (pc := 84) dX5_list_84 rfl (Nat.le_of_ble_eq_true rfl) (Nat.le_of_ble_eq_true rfl) ?_
        exact ⟨rfl, rfl, f1, p1, q1⟩
      · exfalso; (try simp (disch := omega) only [i32_lti, i32_lei, i32_eqi, nI_toInt, i32z] at c_21); omega
    | succ c ih =>
      intro k h1 x3 x4 hk f1 p1 q1
      have p1' := p1
      unfold pRO at p1'
      have mid : ∀ (h2 : Hp) (x : Value), hfr h h2 r 2 → pRO h2 r (allW n (k + 1)).length (preW n k).length kn lb osz nx → pRow h2 r (allW n (k + 1)) → Ev X (mi_X5_list 3 0 0) (Qv (fun S' => S'.2 = z ∧ hfr h S'.1 r 2 ∧ pRO S'.1 r (allW n n).length (preW n n).length kn lb osz nx ∧ pRow S'.1 r (allW n n))) 0 0 (h2, z) 73 [.ref r, .int (nI n), .int (nI k), .int (nI (allW n k).length), x] [] := by
        intro h2 x f2 p2 q2
        unfold pRO at p2
        obtain ⟨rs2, s1, s2⟩ := q2
        have epre : preW n (k + 1) = allW n k := rfl
        refine ev_aload_n (pc := 73) dX5_list_73 rfl ?_
        refine ev_iload_n (pc := 74) dX5_list_74 rfl ?_
        refine pf_X5_149 (pc := 75) rfl dX5_list_75 (by (try dsimp only); (repeat (first | rw [up_s] | rw [up_n (by omega)])) <;> first | rfl | assumption) ?_
        refine ev_iinc (pc := 78) (L' := [_, _, _, _, _]) dX5_list_78 rfl (nI_1 _) rfl ?_
        refine ev_goto (pc := 81) 19 dX5_list_81 (by decide) ?_
        exact ih (k + 1) _ _ _ (by omega) (by intro y e; rw [up_n (by omega)]; exact f2 y e) (by unfold pRO; rw [up_s, epre]) ⟨rs2, (by (try dsimp only); (repeat (first | rw [up_s] | rw [up_n (by omega)])) <;> first | rfl | assumption), s2⟩
      refine ev_iload_n (pc := 19) dX5_list_19 rfl ?_
      refine ev_iload_n (pc := 20) dX5_list_20 rfl ?_
      refine ev_icmp_ge (pc := 21) 84 dX5_list_21 (by decide) (fun c_21 => ?_) (fun c_21 => ?_)
      · exfalso; (try simp (disch := omega) only [i32_lti, i32_lei, i32_eqi, nI_toInt, i32z] at c_21); omega
      · (try simp (disch := omega) only [i32_lti, i32_lei, i32_eqi, nI_toInt, i32z] at c_21)
        refine ev_iload_n (pc := 24) dX5_list_24 rfl ?_
        refine ev_bipush (pc := 25) (v := nI 6) dX5_list_25 kb_6 ?_
        refine ev_icmp_ge (pc := 27) 84 dX5_list_27 (by decide) (fun c_27 => ?_) (fun c_27 => ?_)
        · exfalso; (try simp (disch := omega) only [i32_lti, i32_lei, i32_eqi, nI_toInt, i32z] at c_27); omega
        · (try simp (disch := omega) only [i32_lti, i32_lei, i32_eqi, nI_toInt, i32z] at c_27)
          refine ev_aload_n (pc := 30) dX5_list_30 rfl ?_
          refine gf_X5_128 (pc := 31) rfl dX5_list_31 (by (try dsimp only); (repeat (first | rw [up_s] | rw [up_n (by omega)])) <;> first | rfl | assumption) ?_
          refine ev_istore_n (pc := 34) (L' := [_, _, _, _, _]) dX5_list_34 (Nat.le_of_ble_eq_true rfl) rfl ?_
          refine ev_aload_n (pc := 35) dX5_list_35 rfl ?_
          refine gf_X5_149 (pc := 36) rfl dX5_list_36 (by (try dsimp only); (repeat (first | rw [up_s] | rw [up_n (by omega)])) <;> first | rfl | assumption) ?_
          refine ev_istore (pc := 39) (L' := [_, _, _, _, _]) dX5_list_39 (Nat.le_of_ble_eq_true rfl) rfl ?_
          refine inner (lev n k).length 0 k h1 (by omega) (by omega) f1 (by simpa using p1) (by simpa using q1) ?_
          intro h2 x f2 p2 q2
          exact mid h2 x f2 p2 q2
  refine ev_aload_n (pc := 0) dX5_list_0 rfl ?_
  refine gf_X5_11 (pc := 1) rfl dX5_list_1 (by (try dsimp only); (repeat (first | rw [up_s] | rw [up_n (by omega)])) <;> first | rfl | assumption) ?_
  refine ev_iconst (pc := 4) (v := nI 0) dX5_list_4 kc_0 ?_
  refine ev_iconst (pc := 5) (v := nI 0) dX5_list_5 kc_0 ?_
  refine ev_iast (pc := 6) dX5_list_6 (by (try dsimp only); (repeat (first | rw [up_s] | rw [up_n (by omega)])) <;> first | rfl | assumption) (nI_toInt (by omega)) (by simp only [List.length_map, List.length_set, List.length_replicate, List.length_cons, List.length_nil]; omega) ?_
  (try rw [gs])
  refine ev_aload_n (pc := 7) dX5_list_7 rfl ?_
  refine ev_iconst (pc := 8) (v := nI 1) dX5_list_8 kc_1 ?_
  refine pf_X5_128 (pc := 9) rfl dX5_list_9 (by (try dsimp only); (repeat (first | rw [up_s] | rw [up_n (by omega)])) <;> first | rfl | assumption) ?_
  refine ev_aload_n (pc := 12) dX5_list_12 rfl ?_
  refine ev_iconst (pc := 13) (v := nI 0) dX5_list_13 kc_0 ?_
  refine pf_X5_149 (pc := 14) rfl dX5_list_14 (by (try dsimp only); (repeat (first | rw [up_s] | rw [up_n (by omega)])) <;> first | rfl | assumption) ?_
  refine ev_iconst (pc := 17) (v := nI 0) dX5_list_17 kc_0 ?_
  refine ev_istore_n (pc := 18) (L' := [_, _, _, _, _]) dX5_list_18 (Nat.le_of_ble_eq_true rfl) rfl ?_
  refine loop n 0 _ _ _ (by omega) (by intro q hq; first | rfl | ((try dsimp only); (repeat (first | rw [up_n (by omega)])))) (by unfold pRO; (try dsimp only); (repeat (first | rw [up_s] | rw [up_n (by omega)])) <;> first | rfl | assumption) ⟨rs.set 0 0, (by (try dsimp only); (repeat (first | rw [up_s] | rw [up_n (by omega)])) <;> first | rfl | assumption), (List.length_set ..).trans r2, by simp [allW, preW, lev], ?_⟩
  intro i v hv
  have h0 := (List.getElem?_eq_some_iff.mp hv).1
  simp [allW, preW, lev] at h0
  subst h0
  cases hv
  exact ⟨by rw [gN_set (by omega), if_pos rfl]; rfl, fun t ht => (nomatch ht), Nat.zero_le _⟩
end LIST2
