/-! ===== DawnTales: commonDivisor ===== -/
def cdN : Nat → Nat → Nat → Nat
  | 0, a, _ => a
  | n + 1, a, b => if b = 0 then a else cdN n b (a % b)
section GCD
variable {X : Cx} {h : Hp} {z : Nat}
theorem c_commonDivisor {a b : Nat} (ha : a < 2 ^ 31) (hb : b < 2 ^ 31) : Ct X 0 mt_X11_commonDivisor [.int (nI a), .int (nI b)] (h, z) 0 0 (QP (.int (nI (cdN 32 a b))) (h, z)) := by
  refine mk_X11_commonDivisor (Nat.le_of_ble_eq_true rfl) (L := [.int (nI a), .int (nI b), .retAddr 0, .retAddr 0, .retAddr 0, .retAddr 0]) rfl ?_
  have loop : ∀ (n j x y : Nat) (v : Value), j + n = 32 → x < 2 ^ 31 → y < 2 ^ 31 → Ev X (mi_X11_commonDivisor 0 0 0) (QP (.int (nI (cdN n x y))) (h, z)) 0 0 (h, z) 7 [.int (nI a), .int (nI b), .int (nI x), .int (nI y), .int (nI j), v] [] := by
    intro n
    induction n with
    | zero =>
      intro j x y v hn hx hy
      refine ev_iload (pc := 7) dX11_commonDivisor_7 rfl ?_
      refine ev_bipush (pc := 9) (v := nI 32) dX11_commonDivisor_9 kb_32 ?_
      refine ev_icmp_ge (pc := 11) 34 dX11_commonDivisor_11 (by decide) (fun c_11 => ?_) (fun c_11 => ?_)
      · (try simp (disch := omega) only [i32_lti, i32_lei, i32_eqi, nI_toInt, i32z] at c_11)
        refine ev_iload_n (pc := 34) dX11_commonDivisor_34 rfl ?_
        refine ev_iret (pc := 35) dX11_commonDivisor_35 rfl rfl (Nat.le_of_ble_eq_true rfl) (Nat.le_of_ble_eq_true rfl) ?_
        exact ⟨rfl, rfl⟩
      · exfalso; (try simp (disch := omega) only [i32_lti, i32_lei, i32_eqi, nI_toInt, i32z] at c_11); omega
    | succ n ih =>
      intro j x y v hn hx hy
      have es : cdN (n + 1) x y = if y = 0 then x else cdN n y (x % y) := rfl
      have hm : y ≠ 0 → x % y < y := fun q => Nat.mod_lt _ (by omega)
      rw [es]
      by_cases h0 : y = 0
      · rw [if_pos h0]
        refine ev_iload (pc := 7) dX11_commonDivisor_7 rfl ?_
        refine ev_bipush (pc := 9) (v := nI 32) dX11_commonDivisor_9 kb_32 ?_
        refine ev_icmp_ge (pc := 11) 34 dX11_commonDivisor_11 (by decide) (fun c_11 => ?_) (fun c_11 => ?_)
        · exfalso; (try simp (disch := omega) only [i32_lti, i32_lei, i32_eqi, nI_toInt, i32z] at c_11); omega
        · (try simp (disch := omega) only [i32_lti, i32_lei, i32_eqi, nI_toInt, i32z] at c_11)
          refine ev_iload_n (pc := 14) dX11_commonDivisor_14 rfl ?_
          refine ev_if_eq (pc := 15) 34 dX11_commonDivisor_15 (by decide) (fun c_15 => ?_) (fun c_15 => ?_)
          · (try simp (disch := omega) only [i32_lti, i32_lei, i32_eqi, nI_toInt, i32z] at c_15)
            refine ev_iload_n (pc := 34) dX11_commonDivisor_34 rfl ?_
            refine ev_iret (pc := 35) dX11_commonDivisor_35 rfl rfl (Nat.le_of_ble_eq_true rfl) (Nat.le_of_ble_eq_true rfl) ?_
            exact ⟨rfl, rfl⟩
          · exfalso; (try simp (disch := omega) only [i32_lti, i32_lei, i32_eqi, nI_toInt, i32z] at c_15); omega
      · rw [if_neg h0]
        have h1 := hm h0
        refine ev_iload (pc := 7) dX11_commonDivisor_7 rfl ?_
        refine ev_bipush (pc := 9) (v := nI 32) dX11_commonDivisor_9 kb_32 ?_
        refine ev_icmp_ge (pc := 11) 34 dX11_commonDivisor_11 (by decide) (fun c_11 => ?_) (fun c_11 => ?_)
        · exfalso; (try simp (disch := omega) only [i32_lti, i32_lei, i32_eqi, nI_toInt, i32z] at c_11); omega
        · (try simp (disch := omega) only [i32_lti, i32_lei, i32_eqi, nI_toInt, i32z] at c_11)
          refine ev_iload_n (pc := 14) dX11_commonDivisor_14 rfl ?_
          refine ev_if_eq (pc := 15) 34 dX11_commonDivisor_15 (by decide) (fun c_15 => ?_) (fun c_15 => ?_)
          · exfalso; (try simp (disch := omega) only [i32_lti, i32_lei, i32_eqi, nI_toInt, i32z] at c_15); omega
          · (try simp (disch := omega) only [i32_lti, i32_lei, i32_eqi, nI_toInt, i32z] at c_15)
            refine ev_iload_n (pc := 18) dX11_commonDivisor_18 rfl ?_
            refine ev_iload_n (pc := 19) dX11_commonDivisor_19 rfl ?_
            refine ev_irem (pc := 20) dX11_commonDivisor_20 (fun q => h0 ((nI_e0 hy).mp q)) ?_
            rw [pk_rem (by omega) (by omega) (by omega)]
            refine ev_istore (pc := 21) (L' := [_, _, _, _, _, _]) dX11_commonDivisor_21 (Nat.le_of_ble_eq_true rfl) rfl ?_
            refine ev_iload_n (pc := 23) dX11_commonDivisor_23 rfl ?_
            refine ev_istore_n (pc := 24) (L' := [_, _, _, _, _, _]) dX11_commonDivisor_24 (Nat.le_of_ble_eq_true rfl) rfl ?_
            refine ev_iload (pc := 25) dX11_commonDivisor_25 rfl ?_
            refine ev_istore_n (pc := 27) (L' := [_, _, _, _, _, _]) dX11_commonDivisor_27 (Nat.le_of_ble_eq_true rfl) rfl ?_
            refine ev_iinc (pc := 28) (L' := [_, _, _, _, _, _]) dX11_commonDivisor_28 rfl (nI_1 _) rfl ?_
            refine ev_goto (pc := 31) 7 dX11_commonDivisor_31 (by decide) ?_
            exact ih (j + 1) y (x % y) _ (by omega) hy (by omega)
  refine ev_iload_n (pc := 0) dX11_commonDivisor_0 rfl ?_
  refine ev_istore_n (pc := 1) (L' := [_, _, _, _, _, _]) dX11_commonDivisor_1 (Nat.le_of_ble_eq_true rfl) rfl ?_
  refine ev_iload_n (pc := 2) dX11_commonDivisor_2 rfl ?_
  refine ev_istore_n (pc := 3) (L' := [_, _, _, _, _, _]) dX11_commonDivisor_3 (Nat.le_of_ble_eq_true rfl) rfl ?_
  refine ev_iconst (pc := 4) (v := nI 0) dX11_commonDivisor_4 kc_0 ?_
  refine ev_istore (pc := 5) (L' := [_, _, _, _, _, _]) dX11_commonDivisor_5 (Nat.le_of_ble_eq_true rfl) rfl ?_
  exact loop 32 0 a b _ rfl ha hb
end GCD
