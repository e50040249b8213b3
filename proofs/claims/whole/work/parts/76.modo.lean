/-! ===== the model: orders ===== -/
def mOd (h : Hp) (m : Nat) (w : List Nat) : Prop := ∃ f : Nat → Int32, h (m + 11) = some (.inr (0, .inl (ar 6 f))) ∧ ∀ k : Nat, k < w.length → f k = nI (gN w k)
theorem mem_take_s {v : List Nat} {j t : Nat} (h : j < v.length) : (t ∈ v.take (j + 1)) ↔ (t ∈ v.take j ∨ gN v j = t) := by
  rw [List.take_succ, List.getElem?_eq_getElem h, List.mem_append, gN_eq h]
  constructor
  · rintro (q | q)
    · exact Or.inl q
    · exact Or.inr (List.mem_singleton.mp q).symm
  · rintro (q | q)
    · exact Or.inl q
    · exact Or.inr (List.mem_singleton.mpr q.symm)
section MODO
variable {X : Cx} {h : Hp} {z n mx : Nat} {B : Bk} {w v : List Nat} {m : Nat} {sz at_ bg tk td rt rn rm rd tl nt me de lo sa un mn bd br he : Int32} {tr : Int64}
theorem c_mIsMet {f : Nat → Int32} {t : Nat} (po : pMO h m sz at_ bg tk td rt rn rm rd tl nt me de lo sa un mn bd br he tr) (od : h (m + 11) = some (.inr (0, .inl (ar 6 f)))) (hf : ∀ j : Nat, j < v.length → f j = nI (gN v j)) (hk : f v.length = nI t) (hv : ∀ x ∈ v, x < 100) (ht : t < 100) (h6 : v.length < 6) : Ct X 0 mt_X12_isMet [.ref m, .int (nI v.length)] (h, z) 0 0 (QP (.int (b2i (decide (t ∈ v)))) (h, z)) := by
  unfold pMO at po
  refine mk_X12_isMet (Nat.le_of_ble_eq_true rfl) (L := [.ref m, .int (nI v.length), .retAddr 0, .retAddr 0]) rfl ?_
  have loop : ∀ (c j : Nat), j + c = v.length → Ev X (mi_X12_isMet 0 0 0) (QP (.int (b2i (decide (t ∈ v)))) (h, z)) 0 0 (h, z) 4 [.ref m, .int (nI v.length), .int (b2i (decide (t ∈ v.take j))), .int (nI j)] [] := by
    intro c
    induction c with
    | zero =>
      intro j hj
      have ej : j = v.length := by omega
      subst ej
      rw [List.take_length]
      refine ev_iload_n (pc := 4) dX12_isMet_4 rfl ?_
      refine ev_iload_n (pc := 5) dX12_isMet_5 rfl ?_
      refine ev_icmp_ge (pc := 6) 40 dX12_isMet_6 (by decide) (fun c_6 => ?_) (fun c_6 => ?_)
      · (try simp (disch := omega) only [i32_lti, i32_lei, i32_eqi, nI_toInt, i32z] at c_6)
        refine ev_iload_n (pc := 40) dX12_isMet_40 rfl ?_
        refine ev_iret (pc := 41) dX12_isMet_41 rfl (b2i_z _) (Nat.le_of_ble_eq_true rfl) (Nat.le_of_ble_eq_true rfl) ?_
        exact ⟨rfl, rfl⟩
      · exfalso; (try simp (disch := omega) only [i32_lti, i32_lei, i32_eqi, nI_toInt, i32z] at c_6); omega
    | succ c ih =>
      intro j hj
      have hj2 : j < v.length := by omega
      have hx := hv _ (gN_mem hj2)
      have q := ih (j + 1) (by omega)
      have ms := mem_take_s (v := v) (t := t) hj2
      by_cases hm : t ∈ v.take j
      · rw [show decide (t ∈ v.take (j + 1)) = true from decide_eq_true (ms.mpr (Or.inl hm))] at q
        rw [decide_eq_true hm]
        refine ev_iload_n (pc := 4) dX12_isMet_4 rfl ?_
        refine ev_iload_n (pc := 5) dX12_isMet_5 rfl ?_
        refine ev_icmp_ge (pc := 6) 40 dX12_isMet_6 (by decide) (fun c_6 => ?_) (fun c_6 => ?_)
        · exfalso; (try simp (disch := omega) only [i32_lti, i32_lei, i32_eqi, nI_toInt, i32z] at c_6); omega
        · (try simp (disch := omega) only [i32_lti, i32_lei, i32_eqi, nI_toInt, i32z] at c_6)
          refine ev_iload_n (pc := 9) dX12_isMet_9 rfl ?_
          refine ev_if_ne (pc := 10) 28 dX12_isMet_10 (by decide) (fun c_10 => ?_) (fun c_10 => ?_)
          · (try simp (disch := omega) only [i32_lti, i32_lei, i32_eqi, nI_toInt, i32z] at c_10)
            refine ev_iconst (pc := 28) (v := nI 1) dX12_isMet_28 kc_1 ?_
            refine ev_goto (pc := 29) 33 dX12_isMet_29 (by decide) ?_
            refine ev_istore_n (pc := 33) (L' := [_, _, _, _]) dX12_isMet_33 (Nat.le_of_ble_eq_true rfl) rfl ?_
            refine ev_iinc (pc := 34) (L' := [_, _, _, _]) dX12_isMet_34 rfl (nI_1 _) rfl ?_
            refine ev_goto (pc := 37) 4 dX12_isMet_37 (by decide) ?_
            exact q
          · exact absurd c_10 (by decide)
      · rw [decide_eq_false hm]
        refine ev_iload_n (pc := 4) dX12_isMet_4 rfl ?_
        refine ev_iload_n (pc := 5) dX12_isMet_5 rfl ?_
        refine ev_icmp_ge (pc := 6) 40 dX12_isMet_6 (by decide) (fun c_6 => ?_) (fun c_6 => ?_)
        · exfalso; (try simp (disch := omega) only [i32_lti, i32_lei, i32_eqi, nI_toInt, i32z] at c_6); omega
        · (try simp (disch := omega) only [i32_lti, i32_lei, i32_eqi, nI_toInt, i32z] at c_6)
          refine ev_iload_n (pc := 9) dX12_isMet_9 rfl ?_
          refine ev_if_ne (pc := 10) 28 dX12_isMet_10 (by decide) (fun c_10 => ?_) (fun c_10 => ?_)
          · exact absurd rfl c_10
          · (try simp (disch := omega) only [i32_lti, i32_lei, i32_eqi, nI_toInt, i32z] at c_10)
            refine ev_aload_n (pc := 13) dX12_isMet_13 rfl ?_
            refine gf_X12_40 (pc := 14) rfl dX12_isMet_14 (by (try dsimp only); (repeat (first | rw [up_s] | rw [up_n (by omega)])) <;> first | rfl | assumption) ?_
            refine ev_iload_n (pc := 17) dX12_isMet_17 rfl ?_
            refine ev_iald (pc := 18) dX12_isMet_18 (by (try dsimp only); (repeat (first | rw [up_s] | rw [up_n (by omega)])) <;> first | rfl | assumption) (nI_toInt (by omega)) (xg (by omega) (hf j hj2)) ?_
            refine ev_aload_n (pc := 19) dX12_isMet_19 rfl ?_
            refine gf_X12_40 (pc := 20) rfl dX12_isMet_20 (by (try dsimp only); (repeat (first | rw [up_s] | rw [up_n (by omega)])) <;> first | rfl | assumption) ?_
            refine ev_iload_n (pc := 23) dX12_isMet_23 rfl ?_
            refine ev_iald (pc := 24) dX12_isMet_24 (by (try dsimp only); (repeat (first | rw [up_s] | rw [up_n (by omega)])) <;> first | rfl | assumption) (nI_toInt (by omega)) (xg (by omega) hk) ?_
            refine ev_icmp_ne (pc := 25) 32 dX12_isMet_25 (by decide) (fun c_25 => ?_) (fun c_25 => ?_)
            · (try simp (disch := omega) only [i32_lti, i32_lei, i32_eqi, nI_toInt, i32z] at c_25)
              rw [show decide (t ∈ v.take (j + 1)) = false from decide_eq_false (fun z => by rcases ms.mp z with y | y; exact hm y; omega)] at q
              refine ev_iconst (pc := 32) (v := nI 0) dX12_isMet_32 kc_0 ?_
              refine ev_istore_n (pc := 33) (L' := [_, _, _, _]) dX12_isMet_33 (Nat.le_of_ble_eq_true rfl) rfl ?_
              refine ev_iinc (pc := 34) (L' := [_, _, _, _]) dX12_isMet_34 rfl (nI_1 _) rfl ?_
              refine ev_goto (pc := 37) 4 dX12_isMet_37 (by decide) ?_
              exact q
            · (try simp (disch := omega) only [i32_lti, i32_lei, i32_eqi, nI_toInt, i32z] at c_25)
              rw [show decide (t ∈ v.take (j + 1)) = true from decide_eq_true (ms.mpr (Or.inr (by omega)))] at q
              refine ev_iconst (pc := 28) (v := nI 1) dX12_isMet_28 kc_1 ?_
              refine ev_goto (pc := 29) 33 dX12_isMet_29 (by decide) ?_
              refine ev_istore_n (pc := 33) (L' := [_, _, _, _]) dX12_isMet_33 (Nat.le_of_ble_eq_true rfl) rfl ?_
              refine ev_iinc (pc := 34) (L' := [_, _, _, _]) dX12_isMet_34 rfl (nI_1 _) rfl ?_
              refine ev_goto (pc := 37) 4 dX12_isMet_37 (by decide) ?_
              exact q
  refine ev_iconst (pc := 0) (v := nI 0) dX12_isMet_0 kc_0 ?_
  refine ev_istore_n (pc := 1) (L' := [_, _, _, _]) dX12_isMet_1 (Nat.le_of_ble_eq_true rfl) rfl ?_
  refine ev_iconst (pc := 2) (v := nI 0) dX12_isMet_2 kc_0 ?_
  refine ev_istore_n (pc := 3) (L' := [_, _, _, _]) dX12_isMet_3 (Nat.le_of_ble_eq_true rfl) rfl ?_
  exact loop v.length 0 (by omega)
theorem c_mFills {c : Nat} (po : pMO h m sz at_ bg tk td rt rn rm rd tl nt me de lo sa un (nI c) bd br he tr) (hn6 : n ≤ 6) (hc : c ≤ n) (od : mOd h m v) (hvl : v.length ≤ c) (hnd : v.Nodup) (hvn : ∀ x ∈ v, x < n) : Ct X 1 mt_X12_fills [.ref m, .int (nI v.length)] (h, z) 0 0 (Qi (fun r S' => r = nI 1 ∧ S'.2 = z ∧ (∀ q : Nat, q ≠ m + 11 → S'.1 q = h q) ∧ mOd S'.1 m (rf n (c - v.length) v))) := by
  have po' := po
  unfold pMO at po'
  refine mk_X12_fills (Nat.le_of_ble_eq_true rfl) (L := [.ref m, .int (nI v.length), .retAddr 0]) rfl ?_
  have loop : ∀ (d : Nat) (u : List Nat) (h1 : Hp), u.length + d = c → u.Nodup → (∀ x ∈ u, x < n) → rf n (c - v.length) v = rf n d u → (∀ q : Nat, q ≠ m + 11 → h1 q = h q) → mOd h1 m u → Ev X (mi_X12_fills 1 0 0) (Qi (fun r S' => r = nI 1 ∧ S'.2 = z ∧ (∀ q : Nat, q ≠ m + 11 → S'.1 q = h q) ∧ mOd S'.1 m (rf n (c - v.length) v))) 0 0 (h1, z) 2 [.ref m, .int (nI v.length), .int (nI u.length)] [] := by
    intro d
    induction d with
    | zero =>
      intro u h1 hd hu1 hu2 er f1 od1
      have po1 := (f1 m (by omega)).trans po'
      refine ev_iload_n (pc := 2) dX12_fills_2 rfl ?_
      refine ev_aload_n (pc := 3) dX12_fills_3 rfl ?_
      refine gf_X12_199 (pc := 4) rfl dX12_fills_4 (by (try dsimp only); (repeat (first | rw [up_s] | rw [up_n (by omega)])) <;> first | rfl | assumption) ?_
      refine ev_icmp_ge (pc := 7) 44 dX12_fills_7 (by decide) (fun c_7 => ?_) (fun c_7 => ?_)
      · (try simp (disch := omega) only [i32_lti, i32_lei, i32_eqi, nI_toInt, i32z] at c_7)
        refine ev_iconst (pc := 44) (v := nI 1) dX12_fills_44 kc_1 ?_
        refine ev_iret (pc := 45) dX12_fills_45 rfl rfl (Nat.le_of_ble_eq_true rfl) (Nat.le_of_ble_eq_true rfl) ?_
        exact ⟨_, rfl, rfl, rfl, f1, by rw [er]; exact od1⟩
      · exfalso; (try simp (disch := omega) only [i32_lti, i32_lei, i32_eqi, nI_toInt, i32z] at c_7); omega
    | succ d ih =>
      intro u h1 hd hu1 hu2 er f1 od1
      have po1 := (f1 m (by omega)).trans po'
      obtain ⟨f, od1, hf⟩ := od1
      have hF := Fr_lt hu1 (n := n) (by omega)
      have hFn := Fr_not (w := u) (n := n) (Nat.zero_le _) hF
      have inner : ∀ (e t : Nat) (h2 : Hp), t + e = Fr u n 0 → Fr u n t = Fr u n 0 → (∀ q : Nat, q ≠ m + 11 → h2 q = h q) → (∃ f2 : Nat → Int32, h2 (m + 11) = some (.inr (0, .inl (ar 6 f2))) ∧ (∀ k : Nat, k < u.length → f2 k = nI (gN u k)) ∧ f2 u.length = nI t) → Ev X (mi_X12_fills 1 0 0) (Qi (fun r S' => r = nI 1 ∧ S'.2 = z ∧ (∀ q : Nat, q ≠ m + 11 → S'.1 q = h q) ∧ mOd S'.1 m (rf n (c - v.length) v))) 0 0 (h2, z) 17 [.ref m, .int (nI v.length), .int (nI u.length)] [] := by
        intro e
        induction e with
        | zero =>
          intro t h2 hee ef f2 od2
          have po2 := (f2 m (by omega)).trans po'
          have o2 : pMO h2 m sz at_ bg tk td rt rn rm rd tl nt me de lo sa un (nI c) bd br he tr := (f2 m (by omega)).trans po
          obtain ⟨fo, od2, g1, g2⟩ := od2
          have et : t = Fr u n 0 := by omega
          have htn : t ∉ u := by rw [et]; exact hFn
          have el : (u ++ [t]).length = u.length + 1 := by simp
          have hih := ih (u ++ [t]) h2 (by rw [el]; omega) (by rw [List.nodup_append]; exact ⟨hu1, by simp, fun x hx y hy q => htn (by rw [← List.mem_singleton.mp hy, ← q]; exact hx)⟩) (fun x hx => by rcases List.mem_append.mp hx with q | q; exact hu2 x q; rw [List.mem_singleton.mp q]; omega) (by rw [er, et]; rfl) f2 ⟨fo, od2, fun k hk => by rw [el] at hk; rw [gN_app hk]; by_cases q : k = u.length; rw [if_pos q, q]; exact g2; rw [if_neg q]; exact g1 k (by omega)⟩
          rw [el] at hih
          refine ev_aload_n (pc := 17) dX12_fills_17 rfl ?_
          refine ev_iload_n (pc := 18) dX12_fills_18 rfl ?_
          refine iv_X12_207 (pc := 19) rfl dX12_fills_19 (by (try dsimp only); (repeat (first | rw [up_s] | rw [up_n (by omega)])) <;> first | rfl | assumption) (Nat.le_of_ble_eq_true rfl) (Nat.le_of_ble_eq_true rfl) (Nat.le_of_ble_eq_true rfl) (Nat.le_of_ble_eq_true rfl) (c_mIsMet (v := u) (t := t) o2 od2 g1 g2 (fun x hx => by have := hu2 x hx; omega) (by omega) (by omega)) (kp ?_)
          rw [decide_eq_false htn]
          refine ev_if_eq (pc := 22) 38 dX12_fills_22 (by decide) (fun c_22 => ?_) (fun c_22 => ?_)
          · (try simp (disch := omega) only [i32_lti, i32_lei, i32_eqi, nI_toInt, i32z] at c_22)
            refine ev_iinc (pc := 38) (L' := [_, _, _]) dX12_fills_38 rfl (nI_1 _) rfl ?_
            refine ev_goto (pc := 41) 2 dX12_fills_41 (by decide) ?_
            exact hih
          · exact absurd rfl c_22
        | succ e ih2 =>
          intro t h2 hee ef f2 od2
          have po2 := (f2 m (by omega)).trans po'
          have o2 : pMO h2 m sz at_ bg tk td rt rn rm rd tl nt me de lo sa un (nI c) bd br he tr := (f2 m (by omega)).trans po
          obtain ⟨fo, od2, g1, g2⟩ := od2
          have htm : t ∈ u := by
            by_cases q : t ∈ u
            · exact q
            · have := Fr_out (w := u) (n := n) (t := t) (by omega) q
              omega
          have e2 := Fr_in (w := u) (n := n) (t := t) (by omega) htm
          refine ev_aload_n (pc := 17) dX12_fills_17 rfl ?_
          refine ev_iload_n (pc := 18) dX12_fills_18 rfl ?_
          refine iv_X12_207 (pc := 19) rfl dX12_fills_19 (by (try dsimp only); (repeat (first | rw [up_s] | rw [up_n (by omega)])) <;> first | rfl | assumption) (Nat.le_of_ble_eq_true rfl) (Nat.le_of_ble_eq_true rfl) (Nat.le_of_ble_eq_true rfl) (Nat.le_of_ble_eq_true rfl) (c_mIsMet (v := u) (t := t) o2 od2 g1 g2 (fun x hx => by have := hu2 x hx; omega) (by omega) (by omega)) (kp ?_)
          rw [decide_eq_true htm]
          refine ev_if_eq (pc := 22) 38 dX12_fills_22 (by decide) (fun c_22 => ?_) (fun c_22 => ?_)
          · exact absurd c_22 (by decide)
          · (try simp (disch := omega) only [i32_lti, i32_lei, i32_eqi, nI_toInt, i32z] at c_22)
            refine ev_aload_n (pc := 25) dX12_fills_25 rfl ?_
            refine gf_X12_40 (pc := 26) rfl dX12_fills_26 (by (try dsimp only); (repeat (first | rw [up_s] | rw [up_n (by omega)])) <;> first | rfl | assumption) ?_
            refine ev_iload_n (pc := 29) dX12_fills_29 rfl ?_
            refine ev_dup2 (pc := 30) dX12_fills_30 rfl rfl ?_
            refine ev_iald (pc := 31) dX12_fills_31 (by (try dsimp only); (repeat (first | rw [up_s] | rw [up_n (by omega)])) <;> first | rfl | assumption) (nI_toInt (by omega)) (xg (by omega) g2) ?_
            refine ev_iconst (pc := 32) (v := nI 1) dX12_fills_32 kc_1 ?_
            refine ev_iadd (pc := 33) dX12_fills_33 ?_
            (try rw [nI_add])
            refine ev_iast (pc := 34) dX12_fills_34 (by (try dsimp only); (repeat (first | rw [up_s] | rw [up_n (by omega)])) <;> first | rfl | assumption) (nI_toInt (by omega)) (by rw [ar_len]; omega) ?_
            rw [ar_set (by omega)]
            refine ev_goto (pc := 35) 17 dX12_fills_35 (by decide) ?_
            exact ih2 (t + 1) _ (by omega) (by omega) (by intro q a; (try dsimp only); rw [up_n (by omega)]; exact f2 q a) ⟨_, up_s _ _ _, fun k hk => (ru_n (by omega)).trans (g1 k hk), ru_s⟩
      refine ev_iload_n (pc := 2) dX12_fills_2 rfl ?_
      refine ev_aload_n (pc := 3) dX12_fills_3 rfl ?_
      refine gf_X12_199 (pc := 4) rfl dX12_fills_4 (by (try dsimp only); (repeat (first | rw [up_s] | rw [up_n (by omega)])) <;> first | rfl | assumption) ?_
      refine ev_icmp_ge (pc := 7) 44 dX12_fills_7 (by decide) (fun c_7 => ?_) (fun c_7 => ?_)
      · exfalso; (try simp (disch := omega) only [i32_lti, i32_lei, i32_eqi, nI_toInt, i32z] at c_7); omega
      · (try simp (disch := omega) only [i32_lti, i32_lei, i32_eqi, nI_toInt, i32z] at c_7)
        refine ev_aload_n (pc := 10) dX12_fills_10 rfl ?_
        refine gf_X12_40 (pc := 11) rfl dX12_fills_11 (by (try dsimp only); (repeat (first | rw [up_s] | rw [up_n (by omega)])) <;> first | rfl | assumption) ?_
        refine ev_iload_n (pc := 14) dX12_fills_14 rfl ?_
        refine ev_iconst (pc := 15) (v := nI 0) dX12_fills_15 kc_0 ?_
        refine ev_iast (pc := 16) dX12_fills_16 (by (try dsimp only); (repeat (first | rw [up_s] | rw [up_n (by omega)])) <;> first | rfl | assumption) (nI_toInt (by omega)) (by rw [ar_len]; omega) ?_
        rw [ar_set (by omega)]
        exact inner (Fr u n 0) 0 _ (by omega) rfl (by intro q a; (try dsimp only); rw [up_n (by omega)]; exact f1 q a) ⟨_, up_s _ _ _, fun k hk => (ru_n (by omega)).trans (hf k hk), ru_s⟩
  refine ev_iload_n (pc := 0) dX12_fills_0 rfl ?_
  refine ev_istore_n (pc := 1) (L' := [_, _, _]) dX12_fills_1 (Nat.le_of_ble_eq_true rfl) rfl ?_
  exact loop (c - v.length) v h (by omega) hnd hvn rfl (fun _ _ => rfl) od
theorem c_mTurns (po : pMO h m sz at_ bg tk td rt rn rm rd (nI n) nt me de lo sa un (nI w.length) bd br he tr) (hn6 : n ≤ 6) (od : mOd h m w) (hwl : w.length ≤ n) (hnd : w.Nodup) (hwn : ∀ x ∈ w, x < n) : Ct X 2 mt_X12_turns [.ref m] (h, z) 0 0 (Qi (fun r S' => r = b2i (nxL n w.length w).isSome ∧ S'.2 = z ∧ (∀ q : Nat, q ≠ m + 11 → S'.1 q = h q) ∧ (∃ f : Nat → Int32, S'.1 (m + 11) = some (.inr (0, .inl (ar 6 f)))) ∧ ∀ w' : List Nat, nxL n w.length w = some w' → mOd S'.1 m w')) := by
  have po' := po
  unfold pMO at po'
  refine mk_X12_turns (Nat.le_of_ble_eq_true rfl) (L := [.ref m, .retAddr 0]) rfl ?_
  have loop : ∀ (k : Nat) (h1 : Hp), k ≤ w.length → nxL n w.length w = (nxL n k w).map (rf n (w.length - k)) → (∀ q : Nat, q ≠ m + 11 → h1 q = h q) → (∃ f : Nat → Int32, h1 (m + 11) = some (.inr (0, .inl (ar 6 f))) ∧ ∀ j : Nat, j < k → f j = nI (gN w j)) → Ev X (mi_X12_turns 2 0 0) (Qi (fun r S' => r = b2i (nxL n w.length w).isSome ∧ S'.2 = z ∧ (∀ q : Nat, q ≠ m + 11 → S'.1 q = h q) ∧ (∃ f : Nat → Int32, S'.1 (m + 11) = some (.inr (0, .inl (ar 6 f)))) ∧ ∀ w' : List Nat, nxL n w.length w = some w' → mOd S'.1 m w')) 0 0 (h1, z) 7 [.ref m, .int (iM k)] [] := by
    intro k
    induction k with
    | zero =>
      intro h1 hk en f1 od1
      obtain ⟨f, od1, hf⟩ := od1
      have e0 : nxL n w.length w = none := by rw [en]; rfl
      show Ev X _ _ _ _ _ _ [.ref m, .int (-1)] []
      refine ev_iload_n (pc := 7) dX12_turns_7 rfl ?_
      refine ev_if_lt (pc := 8) 82 dX12_turns_8 (by decide) (fun c_8 => ?_) (fun c_8 => ?_)
      · (try simp (disch := omega) only [i32_lti, i32_lei, i32_eqi, nI_toInt, i32z] at c_8)
        refine ev_iconst (pc := 82) (v := nI 0) dX12_turns_82 kc_0 ?_
        refine ev_iret (pc := 83) dX12_turns_83 rfl rfl (Nat.le_of_ble_eq_true rfl) (Nat.le_of_ble_eq_true rfl) ?_
        exact ⟨_, rfl, by rw [e0]; rfl, rfl, f1, ⟨f, od1⟩, fun w' hw => by rw [e0] at hw; cases hw⟩
      · exfalso; revert c_8; decide
    | succ k ih =>
      intro h1 hk en f1 od1
      obtain ⟨f, od1, hf⟩ := od1
      have po1 := (f1 m (by omega)).trans po'
      have hkw : k < w.length := by omega
      have hgn := hwn _ (gN_mem hkw)
      have lu : (w.take k).length = k := by rw [List.length_take]; omega
      have hu2 : ∀ x ∈ w.take k, x < n := fun x hx => hwn x (List.mem_of_mem_take hx)
      have gu : ∀ j : Nat, j < k → gN (w.take k) j = gN w j := by
        intro j hj
        simp only [gN, List.getD_eq_getElem?_getD, List.getElem?_take]
        rw [if_pos hj]
      have enx : nxL n (k + 1) w = if Fr (w.take k) n (gN w k + 1) < n then some (w.take k ++ [Fr (w.take k) n (gN w k + 1)]) else (nxL n k w).map (fun v => v ++ [Fr v n 0]) := rfl
      rw [enx] at en
      have hFge := Fr_ge (w := w.take k) (n := n) (t := gN w k + 1) (by omega)
      show Ev X _ _ _ _ _ _ [.ref m, .int (nI k)] []
      have out : ∀ h2 : Hp, (∀ q : Nat, q ≠ m + 11 → h2 q = h q) → (∃ f2 : Nat → Int32, h2 (m + 11) = some (.inr (0, .inl (ar 6 f2))) ∧ (∀ j : Nat, j < k → f2 j = nI (gN w j)) ∧ f2 k = nI (Fr (w.take k) n (gN w k + 1))) → Ev X (mi_X12_turns 2 0 0) (Qi (fun r S' => r = b2i (nxL n w.length w).isSome ∧ S'.2 = z ∧ (∀ q : Nat, q ≠ m + 11 → S'.1 q = h q) ∧ (∃ f : Nat → Int32, S'.1 (m + 11) = some (.inr (0, .inl (ar 6 f)))) ∧ ∀ w' : List Nat, nxL n w.length w = some w' → mOd S'.1 m w')) 0 0 (h2, z) 55 [.ref m, .int (nI k)] [] := by
        intro h2 f2 od2
        have po2 := (f2 m (by omega)).trans po'
        have o2 : pMO h2 m sz at_ bg tk td rt rn rm rd (nI n) nt me de lo sa un (nI w.length) bd br he tr := (f2 m (by omega)).trans po
        obtain ⟨fo, od2, g1, g2⟩ := od2
        by_cases hF : Fr (w.take k) n (gN w k + 1) < n
        · rw [if_pos hF] at en
          have hFn := Fr_not (w := w.take k) (n := n) (t := gN w k + 1) (by omega) hF
          have el : (w.take k ++ [Fr (w.take k) n (gN w k + 1)]).length = k + 1 := by rw [List.length_append, lu]; rfl
          have en2 : nxL n w.length w = some (rf n (w.length - (k + 1)) (w.take k ++ [Fr (w.take k) n (gN w k + 1)])) := en
          have cf := fun z => c_mFills (X := X) (h := h2) (z := z) (n := n) (v := w.take k ++ [Fr (w.take k) n (gN w k + 1)]) (c := w.length) o2 hn6 hwl ⟨fo, od2, fun j hj => by rw [el] at hj; rw [gN_app (by rw [lu]; exact hj), lu]; by_cases q : j = k; rw [if_pos q, q]; exact g2; rw [if_neg q, gu j (by omega)]; exact g1 j (by omega)⟩ (by rw [el]; omega) (by rw [List.nodup_append]; exact ⟨List.Sublist.nodup (List.take_sublist _ _) hnd, by simp, fun x hx y hy q => hFn (by rw [← List.mem_singleton.mp hy, ← q]; exact hx)⟩) (fun x hx => by rcases List.mem_append.mp hx with q | q; exact hu2 x q; rw [List.mem_singleton.mp q]; exact hF)
          rw [el] at cf
          refine ev_aload_n (pc := 55) dX12_turns_55 rfl ?_
          refine gf_X12_40 (pc := 56) rfl dX12_turns_56 (by (try dsimp only); (repeat (first | rw [up_s] | rw [up_n (by omega)])) <;> first | rfl | assumption) ?_
          refine ev_iload_n (pc := 59) dX12_turns_59 rfl ?_
          refine ev_iald (pc := 60) dX12_turns_60 (by (try dsimp only); (repeat (first | rw [up_s] | rw [up_n (by omega)])) <;> first | rfl | assumption) (nI_toInt (by omega)) (xg (by omega) g2) ?_
          refine ev_aload_n (pc := 61) dX12_turns_61 rfl ?_
          refine gf_X12_137 (pc := 62) rfl dX12_turns_62 (by (try dsimp only); (repeat (first | rw [up_s] | rw [up_n (by omega)])) <;> first | rfl | assumption) ?_
          refine ev_icmp_ge (pc := 65) 76 dX12_turns_65 (by decide) (fun c_65 => ?_) (fun c_65 => ?_)
          · exfalso; (try simp (disch := omega) only [i32_lti, i32_lei, i32_eqi, nI_toInt, i32z] at c_65); omega
          · (try simp (disch := omega) only [i32_lti, i32_lei, i32_eqi, nI_toInt, i32z] at c_65)
            refine ev_aload_n (pc := 68) dX12_turns_68 rfl ?_
            refine ev_iload_n (pc := 69) dX12_turns_69 rfl ?_
            refine ev_iconst (pc := 70) (v := nI 1) dX12_turns_70 kc_1 ?_
            refine ev_iadd (pc := 71) dX12_turns_71 ?_
            (try rw [nI_add])
            refine iv_X12_210 (pc := 72) rfl dX12_turns_72 (by (try dsimp only); (repeat (first | rw [up_s] | rw [up_n (by omega)])) <;> first | rfl | assumption) (Nat.le_of_ble_eq_true rfl) (Nat.le_of_ble_eq_true rfl) (Nat.le_of_ble_eq_true rfl) (Nat.le_of_ble_eq_true rfl) (cf z) (ki (fun r S' hS => ?_))
            obtain ⟨h3, z'⟩ := S'
            obtain ⟨rfl, rfl, f3, od3⟩ := hS
            refine ev_iret (pc := 75) dX12_turns_75 rfl rfl (Nat.le_of_ble_eq_true rfl) (Nat.le_of_ble_eq_true rfl) ?_
            exact ⟨_, rfl, by rw [en2]; rfl, rfl, (fun q a => (f3 q a).trans (f2 q a)), ⟨od3.choose, od3.choose_spec.1⟩, fun w' hw => by rw [en2] at hw; cases hw; exact od3⟩
        · rw [if_neg hF] at en
          have en2 : nxL n w.length w = (nxL n k w).map (rf n (w.length - k)) := by
            rw [en, Option.map_map]
            congr 1
            funext v
            show rf n (w.length - (k + 1)) (v ++ [Fr v n 0]) = rf n (w.length - k) v
            rw [show w.length - k = (w.length - (k + 1)) + 1 by omega]
            rfl
          refine ev_aload_n (pc := 55) dX12_turns_55 rfl ?_
          refine gf_X12_40 (pc := 56) rfl dX12_turns_56 (by (try dsimp only); (repeat (first | rw [up_s] | rw [up_n (by omega)])) <;> first | rfl | assumption) ?_
          refine ev_iload_n (pc := 59) dX12_turns_59 rfl ?_
          refine ev_iald (pc := 60) dX12_turns_60 (by (try dsimp only); (repeat (first | rw [up_s] | rw [up_n (by omega)])) <;> first | rfl | assumption) (nI_toInt (by omega)) (xg (by omega) g2) ?_
          refine ev_aload_n (pc := 61) dX12_turns_61 rfl ?_
          refine gf_X12_137 (pc := 62) rfl dX12_turns_62 (by (try dsimp only); (repeat (first | rw [up_s] | rw [up_n (by omega)])) <;> first | rfl | assumption) ?_
          refine ev_icmp_ge (pc := 65) 76 dX12_turns_65 (by decide) (fun c_65 => ?_) (fun c_65 => ?_)
          · (try simp (disch := omega) only [i32_lti, i32_lei, i32_eqi, nI_toInt, i32z] at c_65)
            refine ev_iinc (pc := 76) (L' := [_, _]) dX12_turns_76 rfl (iM_i k) rfl ?_
            refine ev_goto (pc := 79) 7 dX12_turns_79 (by decide) ?_
            exact ih h2 (by omega) en2 f2 ⟨fo, od2, g1⟩
          · exfalso; (try simp (disch := omega) only [i32_lti, i32_lei, i32_eqi, nI_toInt, i32z] at c_65); omega
      have inner : ∀ (e t : Nat) (h2 : Hp), t + e = Fr (w.take k) n (gN w k + 1) → t ≤ n → Fr (w.take k) n t = Fr (w.take k) n (gN w k + 1) → (∀ q : Nat, q ≠ m + 11 → h2 q = h q) → (∃ f2 : Nat → Int32, h2 (m + 11) = some (.inr (0, .inl (ar 6 f2))) ∧ (∀ j : Nat, j < k → f2 j = nI (gN w j)) ∧ f2 k = nI t) → Ev X (mi_X12_turns 2 0 0) (Qi (fun r S' => r = b2i (nxL n w.length w).isSome ∧ S'.2 = z ∧ (∀ q : Nat, q ≠ m + 11 → S'.1 q = h q) ∧ (∃ f : Nat → Int32, S'.1 (m + 11) = some (.inr (0, .inl (ar 6 f)))) ∧ ∀ w' : List Nat, nxL n w.length w = some w' → mOd S'.1 m w')) 0 0 (h2, z) 21 [.ref m, .int (nI k)] [] := by
        intro e
        induction e with
        | zero =>
          intro t h2 hee htn ef f2 od2
          have po2 := (f2 m (by omega)).trans po'
          have o2 : pMO h2 m sz at_ bg tk td rt rn rm rd (nI n) nt me de lo sa un (nI w.length) bd br he tr := (f2 m (by omega)).trans po
          have od2' := od2
          obtain ⟨fo, od2, g1, g2⟩ := od2
          have et : t = Fr (w.take k) n (gN w k + 1) := by omega
          rw [et] at od2'
          have cm := fun z (hq : t < n) => c_mIsMet (X := X) (h := h2) (z := z) (v := w.take k) (t := t) o2 od2 (fun j hj => by rw [lu] at hj; rw [gu j hj]; exact g1 j hj) (by rw [lu]; exact g2) (fun x hx => by have := hu2 x hx; omega) (by omega) (by rw [lu]; omega)
          rw [lu] at cm
          have htm : t < n → t ∉ w.take k := fun q => by rw [et]; exact Fr_not (by omega) (by omega)
          refine ev_aload_n (pc := 21) dX12_turns_21 rfl ?_
          refine gf_X12_40 (pc := 22) rfl dX12_turns_22 (by (try dsimp only); (repeat (first | rw [up_s] | rw [up_n (by omega)])) <;> first | rfl | assumption) ?_
          refine ev_iload_n (pc := 25) dX12_turns_25 rfl ?_
          refine ev_iald (pc := 26) dX12_turns_26 (by (try dsimp only); (repeat (first | rw [up_s] | rw [up_n (by omega)])) <;> first | rfl | assumption) (nI_toInt (by omega)) (xg (by omega) g2) ?_
          refine ev_aload_n (pc := 27) dX12_turns_27 rfl ?_
          refine gf_X12_137 (pc := 28) rfl dX12_turns_28 (by (try dsimp only); (repeat (first | rw [up_s] | rw [up_n (by omega)])) <;> first | rfl | assumption) ?_
          refine ev_icmp_ge (pc := 31) 55 dX12_turns_31 (by decide) (fun c_31 => ?_) (fun c_31 => ?_)
          · (try simp (disch := omega) only [i32_lti, i32_lei, i32_eqi, nI_toInt, i32z] at c_31)
            exact out h2 f2 od2'
          · (try simp (disch := omega) only [i32_lti, i32_lei, i32_eqi, nI_toInt, i32z] at c_31)
            refine ev_aload_n (pc := 34) dX12_turns_34 rfl ?_
            refine ev_iload_n (pc := 35) dX12_turns_35 rfl ?_
            refine iv_X12_207 (pc := 36) rfl dX12_turns_36 (by (try dsimp only); (repeat (first | rw [up_s] | rw [up_n (by omega)])) <;> first | rfl | assumption) (Nat.le_of_ble_eq_true rfl) (Nat.le_of_ble_eq_true rfl) (Nat.le_of_ble_eq_true rfl) (Nat.le_of_ble_eq_true rfl) (cm z (by omega)) (kp ?_)
            rw [decide_eq_false (htm (by omega))]
            refine ev_if_eq (pc := 39) 55 dX12_turns_39 (by decide) (fun c_39 => ?_) (fun c_39 => ?_)
            · (try simp (disch := omega) only [i32_lti, i32_lei, i32_eqi, nI_toInt, i32z] at c_39)
              exact out h2 f2 od2'
            · exact absurd rfl c_39
        | succ e ih2 =>
          intro t h2 hee htn ef f2 od2
          have po2 := (f2 m (by omega)).trans po'
          have o2 : pMO h2 m sz at_ bg tk td rt rn rm rd (nI n) nt me de lo sa un (nI w.length) bd br he tr := (f2 m (by omega)).trans po
          obtain ⟨fo, od2, g1, g2⟩ := od2
          have hlt : t < n := by omega
          have htm : t ∈ w.take k := by
            by_cases q : t ∈ w.take k
            · exact q
            · have := Fr_out (w := w.take k) (n := n) (t := t) hlt q
              omega
          have e2 := Fr_in (w := w.take k) (n := n) (t := t) hlt htm
          have cm := fun z => c_mIsMet (X := X) (h := h2) (z := z) (v := w.take k) (t := t) o2 od2 (fun j hj => by rw [lu] at hj; rw [gu j hj]; exact g1 j hj) (by rw [lu]; exact g2) (fun x hx => by have := hu2 x hx; omega) (by omega) (by rw [lu]; omega)
          rw [lu] at cm
          refine ev_aload_n (pc := 21) dX12_turns_21 rfl ?_
          refine gf_X12_40 (pc := 22) rfl dX12_turns_22 (by (try dsimp only); (repeat (first | rw [up_s] | rw [up_n (by omega)])) <;> first | rfl | assumption) ?_
          refine ev_iload_n (pc := 25) dX12_turns_25 rfl ?_
          refine ev_iald (pc := 26) dX12_turns_26 (by (try dsimp only); (repeat (first | rw [up_s] | rw [up_n (by omega)])) <;> first | rfl | assumption) (nI_toInt (by omega)) (xg (by omega) g2) ?_
          refine ev_aload_n (pc := 27) dX12_turns_27 rfl ?_
          refine gf_X12_137 (pc := 28) rfl dX12_turns_28 (by (try dsimp only); (repeat (first | rw [up_s] | rw [up_n (by omega)])) <;> first | rfl | assumption) ?_
          refine ev_icmp_ge (pc := 31) 55 dX12_turns_31 (by decide) (fun c_31 => ?_) (fun c_31 => ?_)
          · exfalso; (try simp (disch := omega) only [i32_lti, i32_lei, i32_eqi, nI_toInt, i32z] at c_31); omega
          · (try simp (disch := omega) only [i32_lti, i32_lei, i32_eqi, nI_toInt, i32z] at c_31)
            refine ev_aload_n (pc := 34) dX12_turns_34 rfl ?_
            refine ev_iload_n (pc := 35) dX12_turns_35 rfl ?_
            refine iv_X12_207 (pc := 36) rfl dX12_turns_36 (by (try dsimp only); (repeat (first | rw [up_s] | rw [up_n (by omega)])) <;> first | rfl | assumption) (Nat.le_of_ble_eq_true rfl) (Nat.le_of_ble_eq_true rfl) (Nat.le_of_ble_eq_true rfl) (Nat.le_of_ble_eq_true rfl) (cm z) (kp ?_)
            rw [decide_eq_true htm]
            refine ev_if_eq (pc := 39) 55 dX12_turns_39 (by decide) (fun c_39 => ?_) (fun c_39 => ?_)
            · exact absurd c_39 (by decide)
            · (try simp (disch := omega) only [i32_lti, i32_lei, i32_eqi, nI_toInt, i32z] at c_39)
              refine ev_aload_n (pc := 42) dX12_turns_42 rfl ?_
              refine gf_X12_40 (pc := 43) rfl dX12_turns_43 (by (try dsimp only); (repeat (first | rw [up_s] | rw [up_n (by omega)])) <;> first | rfl | assumption) ?_
              refine ev_iload_n (pc := 46) dX12_turns_46 rfl ?_
              refine ev_dup2 (pc := 47) dX12_turns_47 rfl rfl ?_
              refine ev_iald (pc := 48) dX12_turns_48 (by (try dsimp only); (repeat (first | rw [up_s] | rw [up_n (by omega)])) <;> first | rfl | assumption) (nI_toInt (by omega)) (xg (by omega) g2) ?_
              refine ev_iconst (pc := 49) (v := nI 1) dX12_turns_49 kc_1 ?_
              refine ev_iadd (pc := 50) dX12_turns_50 ?_
              (try rw [nI_add])
              refine ev_iast (pc := 51) dX12_turns_51 (by (try dsimp only); (repeat (first | rw [up_s] | rw [up_n (by omega)])) <;> first | rfl | assumption) (nI_toInt (by omega)) (by rw [ar_len]; omega) ?_
              rw [ar_set (by omega)]
              refine ev_goto (pc := 52) 21 dX12_turns_52 (by decide) ?_
              exact ih2 (t + 1) _ (by omega) (by omega) (by omega) (by intro q a; (try dsimp only); rw [up_n (by omega)]; exact f2 q a) ⟨_, up_s _ _ _, fun j hj => (ru_n (by omega)).trans (g1 j hj), ru_s⟩
      refine ev_iload_n (pc := 7) dX12_turns_7 rfl ?_
      refine ev_if_lt (pc := 8) 82 dX12_turns_8 (by decide) (fun c_8 => ?_) (fun c_8 => ?_)
      · exfalso; (try simp (disch := omega) only [i32_lti, i32_lei, i32_eqi, nI_toInt, i32z] at c_8); omega
      · (try simp (disch := omega) only [i32_lti, i32_lei, i32_eqi, nI_toInt, i32z] at c_8)
        refine ev_aload_n (pc := 11) dX12_turns_11 rfl ?_
        refine gf_X12_40 (pc := 12) rfl dX12_turns_12 (by (try dsimp only); (repeat (first | rw [up_s] | rw [up_n (by omega)])) <;> first | rfl | assumption) ?_
        refine ev_iload_n (pc := 15) dX12_turns_15 rfl ?_
        refine ev_dup2 (pc := 16) dX12_turns_16 rfl rfl ?_
        refine ev_iald (pc := 17) dX12_turns_17 (by (try dsimp only); (repeat (first | rw [up_s] | rw [up_n (by omega)])) <;> first | rfl | assumption) (nI_toInt (by omega)) (xg (by omega) (hf k (by omega))) ?_
        refine ev_iconst (pc := 18) (v := nI 1) dX12_turns_18 kc_1 ?_
        refine ev_iadd (pc := 19) dX12_turns_19 ?_
        (try rw [nI_add])
        refine ev_iast (pc := 20) dX12_turns_20 (by (try dsimp only); (repeat (first | rw [up_s] | rw [up_n (by omega)])) <;> first | rfl | assumption) (nI_toInt (by omega)) (by rw [ar_len]; omega) ?_
        rw [ar_set (by omega)]
        exact inner (Fr (w.take k) n (gN w k + 1) - (gN w k + 1)) (gN w k + 1) _ (by omega) (by omega) rfl (by intro q a; (try dsimp only); rw [up_n (by omega)]; exact f1 q a) ⟨_, up_s _ _ _, fun j hj => (ru_n (by omega)).trans (hf j (by omega)), ru_s⟩
  obtain ⟨f, od1, hf⟩ := id od
  refine ev_aload_n (pc := 0) dX12_turns_0 rfl ?_
  refine gf_X12_199 (pc := 1) rfl dX12_turns_1 (by (try dsimp only); (repeat (first | rw [up_s] | rw [up_n (by omega)])) <;> first | rfl | assumption) ?_
  refine ev_iconst (pc := 4) (v := nI 1) dX12_turns_4 kc_1 ?_
  refine ev_isub (pc := 5) dX12_turns_5 ?_
  rw [iM_s]
  refine ev_istore_n (pc := 6) (L' := [_, _]) dX12_turns_6 (Nat.le_of_ble_eq_true rfl) rfl ?_
  exact loop w.length h (Nat.le_refl _) (by rw [Nat.sub_self]; cases nxL n w.length w <;> rfl) (fun _ _ => rfl) ⟨f, od1, hf⟩
theorem c_mStarts {k : Nat} (po : pMO h m sz at_ bg tk td rt rn rm rd (nI n) nt me de lo sa un mn bd br he tr) (hn6 : n ≤ 6) (hk : k ≤ n) (od : ∃ f : Nat → Int32, h (m + 11) = some (.inr (0, .inl (ar 6 f)))) : Ct X 2 mt_X12_starts [.ref m, .int (nI k)] (h, z) 0 0 (Qi (fun r S' => r = nI 1 ∧ S'.2 = z ∧ (∀ q : Nat, q ≠ m → q ≠ m + 11 → S'.1 q = h q) ∧ pMO S'.1 m sz at_ bg tk td rt rn rm rd (nI n) nt me de lo sa un (nI k) bd br he tr ∧ mOd S'.1 m (rf n k []))) := by
  unfold pMO at po
  obtain ⟨f, od⟩ := od
  refine mk_X12_starts (Nat.le_of_ble_eq_true rfl) (L := [.ref m, .int (nI k)]) rfl ?_
  refine ev_aload_n (pc := 0) dX12_starts_0 rfl ?_
  refine ev_iload_n (pc := 1) dX12_starts_1 rfl ?_
  refine pf_X12_199 (pc := 2) rfl dX12_starts_2 (by (try dsimp only); (repeat (first | rw [up_s] | rw [up_n (by omega)])) <;> first | rfl | assumption) ?_
  refine ev_iload_n (pc := 5) dX12_starts_5 rfl ?_
  refine ev_aload_n (pc := 6) dX12_starts_6 rfl ?_
  refine gf_X12_137 (pc := 7) rfl dX12_starts_7 (by (try dsimp only); (repeat (first | rw [up_s] | rw [up_n (by omega)])) <;> first | rfl | assumption) ?_
  refine ev_icmp_gt (pc := 10) 25 dX12_starts_10 (by decide) (fun c_10 => ?_) (fun c_10 => ?_)
  · exfalso; (try simp (disch := omega) only [i32_lti, i32_lei, i32_eqi, nI_toInt, i32z] at c_10); omega
  · (try simp (disch := omega) only [i32_lti, i32_lei, i32_eqi, nI_toInt, i32z] at c_10)
    refine ev_aload_n (pc := 13) dX12_starts_13 rfl ?_
    refine ev_iconst (pc := 14) (v := nI 0) dX12_starts_14 kc_0 ?_
    refine iv_X12_210 (pc := 15) rfl dX12_starts_15 (by (try dsimp only); (repeat (first | rw [up_s] | rw [up_n (by omega)])) <;> first | rfl | assumption) (Nat.le_of_ble_eq_true rfl) (Nat.le_of_ble_eq_true rfl) (Nat.le_of_ble_eq_true rfl) (Nat.le_of_ble_eq_true rfl) (c_mFills (n := n) (v := []) (c := k) (by unfold pMO; exact (by (try dsimp only); (repeat (first | rw [up_s] | rw [up_n (by omega)])) <;> first | rfl | assumption)) hn6 hk ⟨f, (by (try dsimp only); (repeat (first | rw [up_s] | rw [up_n (by omega)])) <;> first | rfl | assumption), fun j hj => (nomatch hj)⟩ (Nat.zero_le _) List.nodup_nil (fun x hx => (nomatch hx))) (ki (fun r S' hS => ?_))
    obtain ⟨h1, z'⟩ := S'
    obtain ⟨rfl, rfl, f1, od1⟩ := hS
    refine ev_if_eq (pc := 18) 25 dX12_starts_18 (by decide) (fun c_18 => ?_) (fun c_18 => ?_)
    · exact absurd c_18 (by decide)
    · (try simp (disch := omega) only [i32_lti, i32_lei, i32_eqi, nI_toInt, i32z] at c_18)
      refine ev_iconst (pc := 21) (v := nI 1) dX12_starts_21 kc_1 ?_
      refine ev_goto (pc := 22) 26 dX12_starts_22 (by decide) ?_
      refine ev_iret (pc := 26) dX12_starts_26 rfl rfl (Nat.le_of_ble_eq_true rfl) (Nat.le_of_ble_eq_true rfl) ?_
      exact ⟨_, rfl, rfl, rfl, (by intro q a b; refine (f1 q b).trans ?_; (try dsimp only); rw [up_n (by omega)]), (by unfold pMO; refine (f1 m (by omega)).trans ?_; exact (by (try dsimp only); (repeat (first | rw [up_s] | rw [up_n (by omega)])) <;> first | rfl | assumption)), od1⟩
theorem c_mCode (po : pMO h m sz at_ bg tk td rt rn rm rd tl nt me de lo sa un (nI w.length) bd br he tr) (od : mOd h m w) (hw : ∀ x ∈ w, x < 6) (h6 : w.length ≤ 6) : Ct X 0 mt_X12_code [.ref m] (h, z) 0 0 (QP (.int (nI (cod w))) (h, z)) := by
  unfold pMO at po
  obtain ⟨f, od1, hf⟩ := od
  refine mk_X12_code (Nat.le_of_ble_eq_true rfl) (L := [.ref m, .retAddr 0, .retAddr 0]) rfl ?_
  have loop : ∀ (c k : Nat), k + c = w.length → Ev X (mi_X12_code 0 0 0) (QP (.int (nI (cod w))) (h, z)) 0 0 (h, z) 4 [.ref m, .int (nI (cod (w.take k))), .int (nI k)] [] := by
    intro c
    induction c with
    | zero =>
      intro k hk
      have ek : k = w.length := by omega
      subst ek
      rw [List.take_length]
      refine ev_iload_n (pc := 4) dX12_code_4 rfl ?_
      refine ev_aload_n (pc := 5) dX12_code_5 rfl ?_
      refine gf_X12_199 (pc := 6) rfl dX12_code_6 (by (try dsimp only); (repeat (first | rw [up_s] | rw [up_n (by omega)])) <;> first | rfl | assumption) ?_
      refine ev_icmp_ge (pc := 9) 32 dX12_code_9 (by decide) (fun c_9 => ?_) (fun c_9 => ?_)
      · (try simp (disch := omega) only [i32_lti, i32_lei, i32_eqi, nI_toInt, i32z] at c_9)
        refine ev_iload_n (pc := 32) dX12_code_32 rfl ?_
        refine ev_iret (pc := 33) dX12_code_33 rfl rfl (Nat.le_of_ble_eq_true rfl) (Nat.le_of_ble_eq_true rfl) ?_
        exact ⟨rfl, rfl⟩
      · exfalso; (try simp (disch := omega) only [i32_lti, i32_lei, i32_eqi, nI_toInt, i32z] at c_9); omega
    | succ c ih =>
      intro k hk
      have es : cod (w.take (k + 1)) = 10 * cod (w.take k) + gN w k + 1 := by
        rw [List.take_succ, List.getElem?_eq_getElem (by omega), gN_eq (by omega)]
        show cod (w.take k ++ [w[k]]) = _
        rw [cod_app]
        omega
      refine ev_iload_n (pc := 4) dX12_code_4 rfl ?_
      refine ev_aload_n (pc := 5) dX12_code_5 rfl ?_
      refine gf_X12_199 (pc := 6) rfl dX12_code_6 (by (try dsimp only); (repeat (first | rw [up_s] | rw [up_n (by omega)])) <;> first | rfl | assumption) ?_
      refine ev_icmp_ge (pc := 9) 32 dX12_code_9 (by decide) (fun c_9 => ?_) (fun c_9 => ?_)
      · exfalso; (try simp (disch := omega) only [i32_lti, i32_lei, i32_eqi, nI_toInt, i32z] at c_9); omega
      · (try simp (disch := omega) only [i32_lti, i32_lei, i32_eqi, nI_toInt, i32z] at c_9)
        refine ev_bipush (pc := 12) (v := nI 10) dX12_code_12 kb_10 ?_
        refine ev_iload_n (pc := 14) dX12_code_14 rfl ?_
        refine ev_imul (pc := 15) dX12_code_15 ?_
        rw [pk_mul]
        refine ev_aload_n (pc := 16) dX12_code_16 rfl ?_
        refine gf_X12_40 (pc := 17) rfl dX12_code_17 (by (try dsimp only); (repeat (first | rw [up_s] | rw [up_n (by omega)])) <;> first | rfl | assumption) ?_
        refine ev_iload_n (pc := 20) dX12_code_20 rfl ?_
        refine ev_iald (pc := 21) dX12_code_21 (by (try dsimp only); (repeat (first | rw [up_s] | rw [up_n (by omega)])) <;> first | rfl | assumption) (nI_toInt (by omega)) (xg (by omega) (hf k (by omega))) ?_
        refine ev_iadd (pc := 22) dX12_code_22 ?_
        (try rw [nI_add])
        refine ev_iconst (pc := 23) (v := nI 1) dX12_code_23 kc_1 ?_
        refine ev_iadd (pc := 24) dX12_code_24 ?_
        (try rw [nI_add])
        refine ev_istore_n (pc := 25) (L' := [_, _, _]) dX12_code_25 (Nat.le_of_ble_eq_true rfl) rfl ?_
        refine ev_iinc (pc := 26) (L' := [_, _, _]) dX12_code_26 rfl (nI_1 _) rfl ?_
        refine ev_goto (pc := 29) 4 dX12_code_29 (by decide) ?_
        have q := ih (k + 1) (by omega); rw [es] at q; exact q
  refine ev_iconst (pc := 0) (v := nI 0) dX12_code_0 kc_0 ?_
  refine ev_istore_n (pc := 1) (L' := [_, _, _]) dX12_code_1 (Nat.le_of_ble_eq_true rfl) rfl ?_
  refine ev_iconst (pc := 2) (v := nI 0) dX12_code_2 kc_0 ?_
  refine ev_istore_n (pc := 3) (L' := [_, _, _]) dX12_code_3 (Nat.le_of_ble_eq_true rfl) rfl ?_
  exact loop w.length 0 (by omega)
end MODO
