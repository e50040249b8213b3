/-! ===== Rows: what comes if she just goes on; one row's outcome taken over; the list's parts ===== -/
def quietT : Nat → Tl → Tl
  | 0, T => T
  | n + 1, T => if (tV T && decide (0 < tH T)) = true then quietT n (goT T) else T
theorem wT.quiet : ∀ (n : Nat) {T : Tl}, wT T → wT (quietT n T) ∧ tN (quietT n T) = tN T
  | 0, T, w => ⟨w, rfl⟩
  | n + 1, T, w => by
    simp only [quietT]
    split
    · have h := wT.quiet n w.go
      rw [goT_N] at h
      exact h
    · exact ⟨w, rfl⟩
def dawns99 (B : Bk) (T : Tl) : Bool := (tV T && (decide (tH T = 0) && decide (tN T < 99))) && dawnOk B T
def onW (B : Bk) : Nat → Tl → Nat
  | 0, _ => 0
  | n + 1, T => if dawns99 B (quietT 10 T) = true then onW B n (dawnT B (quietT 10 T)) + 1 else 0
section ON
variable {X : Cx} {h : Hp} {z r size full k b m a : Nat} {kn : Bool} {lb osz nx : Int32} {B : Bk} {T : Tl} {W : List (List Nat)} {O : List Nat → List Nat}
theorem onW_le (B : Bk) : ∀ (n : Nat) (T : Tl), onW B n T ≤ n
  | 0, _ => Nat.le_refl _
  | n + 1, T => by
    have := onW_le B n (dawnT B (quietT 10 T))
    simp only [onW]
    split <;> omega
theorem c_walkOn (b9 : wB m B) (hm : m < 100) (q : pBook h b B) (d : b + 4 ≤ r ∨ r + 11 ≤ b) (p : pRO h r size full kn lb osz nx) (pt : rTel h (r + 5)) (pn : pTel h a T) (w : wT T) (hN : tN T ≤ 200) (da : a + 4 ≤ r ∨ r + 11 ≤ a) : Ct X 3 mt_X5_walkOn [.ref r, .ref b, .ref a] (h, z) 0 0 (Qi (fun v S' => v = nI (onW B 30 T) ∧ S'.2 = z ∧ hfr h S'.1 (r + 5) 4 ∧ rTel S'.1 (r + 5))) := by
  obtain ⟨b1, b2, b3, b4, b5, b6, b7⟩ := id b9
  unfold pRO at p
  refine mk_X5_walkOn (Nat.le_of_ble_eq_true rfl) (L := [.ref r, .ref b, .ref a, .retAddr 0, .retAddr 0]) rfl ?_
  have inner : ∀ (n i : Nat) (dd : Nat) (T1 : Tl) (h1 : Hp), i + n = 10 → wT T1 → hfr h h1 (r + 5) 4 → pTel h1 (r + 5) T1 → (∀ (h2 : Hp) (x : Value), hfr h h2 (r + 5) 4 → pTel h2 (r + 5) (quietT n T1) → Ev X (mi_X5_walkOn 3 0 0) (Qi (fun v S' => v = nI (onW B 30 T) ∧ S'.2 = z ∧ hfr h S'.1 (r + 5) 4 ∧ rTel S'.1 (r + 5))) 0 0 (h2, z) 49 [.ref r, .ref b, .ref a, .int (nI dd), x] []) → Ev X (mi_X5_walkOn 3 0 0) (Qi (fun v S' => v = nI (onW B 30 T) ∧ S'.2 = z ∧ hfr h S'.1 (r + 5) 4 ∧ rTel S'.1 (r + 5))) 0 0 (h1, z) 19 [.ref r, .ref b, .ref a, .int (nI dd), .int (nI i)] [] := by
    intro n
    induction n with
    | zero =>
      intro i dd T1 h1 hi w1 f1 p1 kk
      refine ev_iload (pc := 19) dX5_walkOn_19 rfl ?_
      refine ev_bipush (pc := 21) (v := nI 10) dX5_walkOn_21 kb_10 ?_
      refine ev_icmp_ge (pc := 23) 49 dX5_walkOn_23 (by decide) (fun c_23 => ?_) (fun c_23 => ?_)
      · (try simp (disch := omega) only [i32_lti, i32_lei, i32_eqi, nI_toInt, i32z] at c_23)
        exact kk h1 _ f1 p1
      · exfalso; (try simp (disch := omega) only [i32_lti, i32_lei, i32_eqi, nI_toInt, i32z] at c_23); omega
    | succ n ih =>
      intro i dd T1 h1 hi w1 f1 p1 kk
      have pr := (f1 r (by omega)).trans p
      obtain ⟨ha, -⟩ := id p1
      have hH : tH T1 < 100 := w1.2.2.2.2.2.1
      have es : quietT (n + 1) T1 = if (tV T1 && decide (0 < tH T1)) = true then quietT n (goT T1) else T1 := rfl
      rw [es] at kk
      refine ev_iload (pc := 19) dX5_walkOn_19 rfl ?_
      refine ev_bipush (pc := 21) (v := nI 10) dX5_walkOn_21 kb_10 ?_
      refine ev_icmp_ge (pc := 23) 49 dX5_walkOn_23 (by decide) (fun c_23 => ?_) (fun c_23 => ?_)
      · exfalso; (try simp (disch := omega) only [i32_lti, i32_lei, i32_eqi, nI_toInt, i32z] at c_23); omega
      · (try simp (disch := omega) only [i32_lti, i32_lei, i32_eqi, nI_toInt, i32z] at c_23)
        refine ev_aload_n (pc := 26) dX5_walkOn_26 rfl ?_
        refine gf_X5_30 (pc := 27) rfl dX5_walkOn_27 (by (try dsimp only); (repeat (first | rw [up_s] | rw [up_n (by omega)])) <;> first | rfl | assumption) ?_
        refine iv_X5_106 (pc := 30) rfl dX5_walkOn_30 (by (try dsimp only); (repeat (first | rw [up_s] | rw [up_n (by omega)])) <;> first | rfl | assumption) (Nat.le_of_ble_eq_true rfl) (Nat.le_of_ble_eq_true rfl) (Nat.le_of_ble_eq_true rfl) (Nat.le_of_ble_eq_true rfl) (c_hasHour p1 hH) (kp ?_)
        refine ev_if_eq (pc := 33) 49 dX5_walkOn_33 (by decide) (fun c_33 => ?_) (fun c_33 => ?_)
        · rw [b2i_e0] at c_33; rw [if_neg (by rw [c_33]; decide)] at kk; exact kk h1 _ f1 p1
        · simp only [b2i_e0, Bool.not_eq_false] at c_33
          refine ev_aload_n (pc := 36) dX5_walkOn_36 rfl ?_
          refine gf_X5_30 (pc := 37) rfl dX5_walkOn_37 (by (try dsimp only); (repeat (first | rw [up_s] | rw [up_n (by omega)])) <;> first | rfl | assumption) ?_
          refine iv_X5_99 (pc := 40) rfl dX5_walkOn_40 (by (try dsimp only); (repeat (first | rw [up_s] | rw [up_n (by omega)])) <;> first | rfl | assumption) (Nat.le_of_ble_eq_true rfl) (Nat.le_of_ble_eq_true rfl) (Nat.le_of_ble_eq_true rfl) (Nat.le_of_ble_eq_true rfl) (c_goOn p1 w1 (by have h9 := c_33; simp at h9; omega)) (kv (fun S' hS => ?_))
          obtain ⟨h2, z'⟩ := S'
          obtain ⟨rfl, f2, p2⟩ := hS
          rw [if_pos c_33] at kk
          refine ev_iinc (pc := 43) (L' := [_, _, _, _, _]) dX5_walkOn_43 rfl (nI_1 _) rfl ?_
          refine ev_goto (pc := 46) 19 dX5_walkOn_46 (by decide) ?_
          exact ih (i + 1) dd (goT T1) h2 (by omega) w1.go (fun y e => (f2 y e).trans (f1 y e)) p2 kk
  have loop : ∀ (n dd : Nat) (T1 : Tl) (h1 : Hp) (x : Value), dd + n = 30 → wT T1 → tN T1 ≤ 200 + dd → onW B 30 T = dd + onW B n T1 → hfr h h1 (r + 5) 4 → pTel h1 (r + 5) T1 → Ev X (mi_X5_walkOn 3 0 0) (Qi (fun v S' => v = nI (onW B 30 T) ∧ S'.2 = z ∧ hfr h S'.1 (r + 5) 4 ∧ rTel S'.1 (r + 5))) 0 0 (h1, z) 10 [.ref r, .ref b, .ref a, .int (nI dd), x] [] := by
    intro n
    induction n with
    | zero =>
      intro dd T1 h1 x hd w1 hN1 es f1 p1
      have es2 : onW B 0 T1 = 0 := rfl
      rw [es2] at es
      have e30 : onW B 30 T = 30 := by omega
      rw [e30]
      refine ev_iload_n (pc := 10) dX5_walkOn_10 rfl ?_
      refine ev_bipush (pc := 11) (v := nI 30) dX5_walkOn_11 kb_30 ?_
      refine ev_icmp_ge (pc := 13) 78 dX5_walkOn_13 (by decide) (fun c_13 => ?_) (fun c_13 => ?_)
      · (try simp (disch := omega) only [i32_lti, i32_lei, i32_eqi, nI_toInt, i32z] at c_13)
        refine ev_bipush (pc := 78) (v := nI 30) dX5_walkOn_78 kb_30 ?_
        refine ev_iret (pc := 80) dX5_walkOn_80 rfl rfl (Nat.le_of_ble_eq_true rfl) (Nat.le_of_ble_eq_true rfl) ?_
        exact ⟨_, rfl, rfl, rfl, f1, p1.raw⟩
      · exfalso; (try simp (disch := omega) only [i32_lti, i32_lei, i32_eqi, nI_toInt, i32z] at c_13); omega
    | succ n ih =>
      intro dd T1 h1 x hd w1 hN1 es f1 p1
      have es2 : onW B (n + 1) T1 = if dawns99 B (quietT 10 T1) = true then onW B n (dawnT B (quietT 10 T1)) + 1 else 0 := rfl
      rw [es2] at es
      obtain ⟨wq, eq⟩ := wT.quiet 10 w1
      have mid : ∀ (T2 : Tl) (h2 : Hp) (x2 : Value), wT T2 → tN T2 ≤ 200 + dd → hfr h h2 (r + 5) 4 → pTel h2 (r + 5) T2 → (∀ c, dawns99 B T2 = c → onW B 30 T = dd + (if c = true then onW B n (dawnT B T2) + 1 else 0)) → Ev X (mi_X5_walkOn 3 0 0) (Qi (fun v S' => v = nI (onW B 30 T) ∧ S'.2 = z ∧ hfr h S'.1 (r + 5) 4 ∧ rTel S'.1 (r + 5))) 0 0 (h2, z) 49 [.ref r, .ref b, .ref a, .int (nI dd), x2] [] := by
        intro T2 h2 x2 wq hN2 f2 p2 hon
        have hH : tH T2 < 100 := wq.2.2.2.2.2.1
        have pr := (f2 r (by omega)).trans p
        obtain ⟨ha, -⟩ := id p2
        have hdl := dawnT_N B T2
        have q2 : pBook h2 b B := q.fr (fun x e1 e2 => f2 x (by omega))
        refine ev_aload_n (pc := 49) dX5_walkOn_49 rfl ?_
        refine gf_X5_30 (pc := 50) rfl dX5_walkOn_50 (by (try dsimp only); (repeat (first | rw [up_s] | rw [up_n (by omega)])) <;> first | rfl | assumption) ?_
        refine iv_X5_109 (pc := 53) rfl dX5_walkOn_53 (by (try dsimp only); (repeat (first | rw [up_s] | rw [up_n (by omega)])) <;> first | rfl | assumption) (Nat.le_of_ble_eq_true rfl) (Nat.le_of_ble_eq_true rfl) (Nat.le_of_ble_eq_true rfl) (Nat.le_of_ble_eq_true rfl) (c_mayDawn p2 hH (by omega)) (kp ?_)
        refine ev_if_eq (pc := 56) 70 dX5_walkOn_56 (by decide) (fun c_56 => ?_) (fun c_56 => ?_)
        · simp only [b2i_e0, Bool.not_eq_false] at c_56
          refine ev_iload_n (pc := 70) dX5_walkOn_70 rfl ?_
          refine ev_iret (pc := 71) dX5_walkOn_71 rfl rfl (Nat.le_of_ble_eq_true rfl) (Nat.le_of_ble_eq_true rfl) ?_
          first
          | (have hd9 : dawns99 B T2 = false := by unfold dawns99; rw [c_56]; rfl
             have ho := hon false hd9
             rw [if_neg (by decide)] at ho
             rw [ho]
             exact ⟨_, rfl, rfl, rfl, f2, p2.raw⟩)
          | (have hd9 : dawns99 B T2 = false := by unfold dawns99; rw [c_67, Bool.and_false]
             have ho := hon false hd9
             rw [if_neg (by decide)] at ho
             rw [ho]
             exact ⟨_, rfl, rfl, rfl, (fun y e => (f3 y e).trans (f2 y e)), p3.raw⟩)
        · simp only [b2i_e0, Bool.not_eq_false] at c_56
          refine ev_aload_n (pc := 59) dX5_walkOn_59 rfl ?_
          refine gf_X5_30 (pc := 60) rfl dX5_walkOn_60 (by (try dsimp only); (repeat (first | rw [up_s] | rw [up_n (by omega)])) <;> first | rfl | assumption) ?_
          refine ev_aload_n (pc := 63) dX5_walkOn_63 rfl ?_
          refine iv_X5_76 (pc := 64) rfl dX5_walkOn_64 (by (try dsimp only); (repeat (first | rw [up_s] | rw [up_n (by omega)])) <;> first | rfl | assumption) (Nat.le_of_ble_eq_true rfl) (Nat.le_of_ble_eq_true rfl) (Nat.le_of_ble_eq_true rfl) (Nat.le_of_ble_eq_true rfl) (c_meetDawn p2 wq q2 b4 b2 b3 (by omega)) (ki (fun v S' hS => ?_))
          obtain ⟨h3, z'⟩ := S'
          obtain ⟨rfl, rfl, f3, p3⟩ := hS
          refine ev_if_ne (pc := 67) 72 dX5_walkOn_67 (by decide) (fun c_67 => ?_) (fun c_67 => ?_)
          · simp only [b2i_e0, Bool.not_eq_false] at c_67
            refine ev_iinc (pc := 72) (L' := [_, _, _, _, _]) dX5_walkOn_72 rfl (nI_1 _) rfl ?_
            refine ev_goto (pc := 75) 10 dX5_walkOn_75 (by decide) ?_
            have hd9 : dawns99 B T2 = true := by unfold dawns99; rw [c_56, c_67]; rfl
            have ho := hon true hd9
            rw [if_pos rfl] at ho
            exact ih (dd + 1) (dawnT B T2) h3 x2 (by omega) (wq.dawn b9 hm (by omega)) (by omega) (by omega) (fun y e => (f3 y e).trans (f2 y e)) p3
          · simp only [b2i_e0, Bool.not_eq_false] at c_67
            refine ev_iload_n (pc := 70) dX5_walkOn_70 rfl ?_
            refine ev_iret (pc := 71) dX5_walkOn_71 rfl rfl (Nat.le_of_ble_eq_true rfl) (Nat.le_of_ble_eq_true rfl) ?_
            first
            | (have hd9 : dawns99 B T2 = false := by unfold dawns99; rw [c_56]; rfl
               have ho := hon false hd9
               rw [if_neg (by decide)] at ho
               rw [ho]
               exact ⟨_, rfl, rfl, rfl, f2, p2.raw⟩)
            | (have hd9 : dawns99 B T2 = false := by unfold dawns99; rw [c_67, Bool.and_false]
               have ho := hon false hd9
               rw [if_neg (by decide)] at ho
               rw [ho]
               exact ⟨_, rfl, rfl, rfl, (fun y e => (f3 y e).trans (f2 y e)), p3.raw⟩)
      refine ev_iload_n (pc := 10) dX5_walkOn_10 rfl ?_
      refine ev_bipush (pc := 11) (v := nI 30) dX5_walkOn_11 kb_30 ?_
      refine ev_icmp_ge (pc := 13) 78 dX5_walkOn_13 (by decide) (fun c_13 => ?_) (fun c_13 => ?_)
      · exfalso; (try simp (disch := omega) only [i32_lti, i32_lei, i32_eqi, nI_toInt, i32z] at c_13); omega
      · (try simp (disch := omega) only [i32_lti, i32_lei, i32_eqi, nI_toInt, i32z] at c_13)
        refine ev_iconst (pc := 16) (v := nI 0) dX5_walkOn_16 kc_0 ?_
        refine ev_istore (pc := 17) (L' := [_, _, _, _, _]) dX5_walkOn_17 (Nat.le_of_ble_eq_true rfl) rfl ?_
        refine inner 10 0 dd T1 h1 (by omega) w1 f1 p1 ?_
        intro h2 x2 f2 p2
        clear inner
        generalize quietT 10 T1 = T2 at es wq eq p2
        have hon : ∀ c, dawns99 B T2 = c → onW B 30 T = dd + (if c = true then onW B n (dawnT B T2) + 1 else 0) := fun c hc => by rw [← hc]; exact es
        exact mid T2 h2 x2 wq (by omega) f2 p2 hon
  obtain ⟨fs0, hfs0⟩ := pt.obj
  refine ev_aload_n (pc := 0) dX5_walkOn_0 rfl ?_
  refine gf_X5_30 (pc := 1) rfl dX5_walkOn_1 (by (try dsimp only); (repeat (first | rw [up_s] | rw [up_n (by omega)])) <;> first | rfl | assumption) ?_
  refine ev_aload_n (pc := 4) dX5_walkOn_4 rfl ?_
  refine iv_X5_102 (pc := 5) rfl dX5_walkOn_5 (by (try dsimp only); (repeat (first | rw [up_s] | rw [up_n (by omega)])) <;> first | rfl | assumption) (Nat.le_of_ble_eq_true rfl) (Nat.le_of_ble_eq_true rfl) (Nat.le_of_ble_eq_true rfl) (Nat.le_of_ble_eq_true rfl) (c_Tel_copy pt pn.raw (by omega)) (kv (fun S' hS => ?_))
  obtain ⟨h2, z'⟩ := S'
  obtain ⟨rfl, f2, r2, p2⟩ := hS
  refine ev_iconst (pc := 8) (v := nI 0) dX5_walkOn_8 kc_0 ?_
  refine ev_istore_n (pc := 9) (L' := [_, _, _, _, _]) dX5_walkOn_9 (Nat.le_of_ble_eq_true rfl) rfl ?_
  exact loop 30 0 T h2 _ rfl w (by omega) (by omega) f2 (p2 T pn)
end ON
