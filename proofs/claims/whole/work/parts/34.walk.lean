/-! ===== Rows: a row walked ===== -/
def wFr (h h1 : Hp) (r : Nat) : Prop := ∀ q : Nat, q ≠ r → (q < r + 5 ∨ r + 9 ≤ q) → h1 q = h q
theorem iTn_9 (n : Nat) : iTn n (-9) = false := by
  unfold iTn
  refine decide_eq_false ?_
  rw [show (-9 : Int32).toInt = -9 from rfl]
  omega
section WALK2
variable {X : Cx} {h : Hp} {z r size full k d b m : Nat} {kn : Bool} {lb osz nx : Int32} {B : Bk} {T : Tl} {w : List Nat}
theorem c_walkNight (b9 : wB m B) (hm : m < 100) (q : pBook h b B) (d : b + 4 ≤ r ∨ r + 11 ≤ b) (p : pRO h r size full kn lb (nI w.length) (nI k)) (po : pOrd h r w) (hw : ∀ t ∈ w, t < bT B) (hl : w.length ≤ 6) (pt : pTel h (r + 5) T) (s : wS B w (T, k)) : Ct X 2 mt_X5_walkNight [.ref r, .ref b] (h, z) 0 0 (Qv (fun S' => S'.2 = z ∧ wFr h S'.1 r ∧ pTel S'.1 (r + 5) (nightW B w 10 (T, k)).1 ∧ pRO S'.1 r size full kn lb (nI w.length) (nI (nightW B w 10 (T, k)).2))) := by
  obtain ⟨os, o1, o2, o3⟩ := po
  obtain ⟨b1, b2, b3, b4, b5, b6, b7⟩ := id b9
  refine mk_X5_walkNight (Nat.le_of_ble_eq_true rfl) (L := [.ref r, .ref b, .retAddr 0, .retAddr 0]) rfl ?_
  have loop : ∀ (n i : Nat) (T1 : Tl) (k1 : Nat) (h1 : Hp) (x3 : Value), i + n = 10 → wS B w (T1, k1) → nightW B w 10 (T, k) = nightW B w n (T1, k1) → wFr h h1 r → pTel h1 (r + 5) T1 → pRO h1 r size full kn lb (nI w.length) (nI k1) → Ev X (mi_X5_walkNight 2 0 0) (Qv (fun S' => S'.2 = z ∧ wFr h S'.1 r ∧ pTel S'.1 (r + 5) (nightW B w 10 (T, k)).1 ∧ pRO S'.1 r size full kn lb (nI w.length) (nI (nightW B w 10 (T, k)).2))) 0 0 (h1, z) 2 [.ref r, .ref b, .int (nI i), x3] [] := by
    intro n
    induction n with
    | zero =>
      intro i T1 k1 h1 x3 hi s1 es f1 pt1 p1
      obtain ⟨ha, -⟩ := id pt1
      have p1' := p1
      unfold pRO at p1'
      have es2 : nightW B w 0 (T1, k1) = (T1, k1) := rfl
      rw [es2] at es
      rw [es]
      refine ev_iload_n (pc := 2) dX5_walkNight_2 rfl ?_
      refine ev_bipush (pc := 3) (v := nI 10) dX5_walkNight_3 kb_10 ?_
      refine ev_icmp_ge (pc := 5) 116 dX5_walkNight_5 (by decide) (fun c_5 => ?_) (fun c_5 => ?_)
      · (try simp (disch := omega) only [i32_lti, i32_lei, i32_eqi, nI_toInt, i32z] at c_5)
        refine ev_ret (pc := 116) dX5_walkNight_116 rfl (Nat.le_of_ble_eq_true rfl) (Nat.le_of_ble_eq_true rfl) ?_
        exact ⟨rfl, rfl, f1, pt1, p1⟩
      · exfalso; (try simp (disch := omega) only [i32_lti, i32_lei, i32_eqi, nI_toInt, i32z] at c_5); omega
    | succ n ih =>
      intro i T1 k1 h1 x3 hi s1 es f1 pt1 p1
      obtain ⟨ha, -⟩ := id pt1
      have p1' := p1
      unfold pRO at p1'
      obtain ⟨s2, s3, s4⟩ := id s1
      have hH := s2.2.2.2.2.2.1
      have q1 : pBook h1 b B := q.fr (fun x e1 e2 => f1 x (by omega) (by omega))
      have o1' : h1 (r + 10) = some (.inr (0, .inl (os.map nI))) := (f1 _ (by omega) (by omega)).trans o1
      have es2 : nightW B w (n + 1) (T1, k1) = if tH T1 = 0 then (T1, k1) else nightW B w n (stepW B w (T1, k1)) := rfl
      rw [es2] at es
      dsimp only at s2 s3 s4 hH
      by_cases h0 : tH T1 = 0
      · rw [if_pos h0] at es
        rw [es]
        refine ev_iload_n (pc := 2) dX5_walkNight_2 rfl ?_
        refine ev_bipush (pc := 3) (v := nI 10) dX5_walkNight_3 kb_10 ?_
        refine ev_icmp_ge (pc := 5) 116 dX5_walkNight_5 (by decide) (fun c_5 => ?_) (fun c_5 => ?_)
        · exfalso; (try simp (disch := omega) only [i32_lti, i32_lei, i32_eqi, nI_toInt, i32z] at c_5); omega
        · (try simp (disch := omega) only [i32_lti, i32_lei, i32_eqi, nI_toInt, i32z] at c_5)
          refine ev_aload_n (pc := 8) dX5_walkNight_8 rfl ?_
          refine gf_X5_30 (pc := 9) rfl dX5_walkNight_9 (by (try dsimp only); (repeat (first | rw [up_s] | rw [up_n (by omega)])) <;> first | rfl | assumption) ?_
          refine gf_X5_84 (pc := 12) rfl dX5_walkNight_12 (by (try dsimp only); (repeat (first | rw [up_s] | rw [up_n (by omega)])) <;> first | rfl | assumption) ?_
          refine ev_if_le (pc := 15) 116 dX5_walkNight_15 (by decide) (fun c_15 => ?_) (fun c_15 => ?_)
          · (try simp (disch := omega) only [i32_lti, i32_lei, i32_eqi, nI_toInt, i32z] at c_15)
            refine ev_ret (pc := 116) dX5_walkNight_116 rfl (Nat.le_of_ble_eq_true rfl) (Nat.le_of_ble_eq_true rfl) ?_
            exact ⟨rfl, rfl, f1, pt1, p1⟩
          · exfalso; (try simp (disch := omega) only [i32_lti, i32_lei, i32_eqi, nI_toInt, i32z] at c_15); omega
      · rw [if_neg h0] at es
        have go : ∀ (x : Value), stepW B w (T1, k1) = (goT T1, k1) → Ev X (mi_X5_walkNight 2 0 0) (Qv (fun S' => S'.2 = z ∧ wFr h S'.1 r ∧ pTel S'.1 (r + 5) (nightW B w 10 (T, k)).1 ∧ pRO S'.1 r size full kn lb (nI w.length) (nI (nightW B w 10 (T, k)).2))) 0 0 (h1, z) 103 [.ref r, .ref b, .int (nI i), x] [] := by
          intro x eg
          rw [eg] at es
          refine ev_aload_n (pc := 103) dX5_walkNight_103 rfl ?_
          refine gf_X5_30 (pc := 104) rfl dX5_walkNight_104 (by (try dsimp only); (repeat (first | rw [up_s] | rw [up_n (by omega)])) <;> first | rfl | assumption) ?_
          refine iv_X5_99 (pc := 107) rfl dX5_walkNight_107 (by (try dsimp only); (repeat (first | rw [up_s] | rw [up_n (by omega)])) <;> first | rfl | assumption) (Nat.le_of_ble_eq_true rfl) (Nat.le_of_ble_eq_true rfl) (Nat.le_of_ble_eq_true rfl) (Nat.le_of_ble_eq_true rfl) (c_goOn pt1 s2 (by omega)) (kv (fun S' hS => ?_))
          obtain ⟨h', z'⟩ := S'
          obtain ⟨rfl, fg, pg⟩ := hS
          refine ev_iinc (pc := 110) (L' := [_, _, _, _]) dX5_walkNight_110 rfl (nI_1 _) rfl ?_
          refine ev_goto (pc := 113) 2 dX5_walkNight_113 (by decide) ?_
          exact ih (i + 1) (goT T1) k1 h' x (by omega) ⟨s2.go, s3.go s2, s4⟩ es (fun y e1 e2 => (fg y (by omega)).trans (f1 y e1 e2)) pg ((fg r (by omega)).trans p1)
        by_cases hk : k1 < w.length
        · have ht := hw _ (gN_mem hk)
          have hi6 : gN w k1 < 6 := by omega
          generalize eg : gN w k1 = t at ht hi6
          refine ev_iload_n (pc := 2) dX5_walkNight_2 rfl ?_
          refine ev_bipush (pc := 3) (v := nI 10) dX5_walkNight_3 kb_10 ?_
          refine ev_icmp_ge (pc := 5) 116 dX5_walkNight_5 (by decide) (fun c_5 => ?_) (fun c_5 => ?_)
          · exfalso; (try simp (disch := omega) only [i32_lti, i32_lei, i32_eqi, nI_toInt, i32z] at c_5); omega
          · (try simp (disch := omega) only [i32_lti, i32_lei, i32_eqi, nI_toInt, i32z] at c_5)
            refine ev_aload_n (pc := 8) dX5_walkNight_8 rfl ?_
            refine gf_X5_30 (pc := 9) rfl dX5_walkNight_9 (by (try dsimp only); (repeat (first | rw [up_s] | rw [up_n (by omega)])) <;> first | rfl | assumption) ?_
            refine gf_X5_84 (pc := 12) rfl dX5_walkNight_12 (by (try dsimp only); (repeat (first | rw [up_s] | rw [up_n (by omega)])) <;> first | rfl | assumption) ?_
            refine ev_if_le (pc := 15) 116 dX5_walkNight_15 (by decide) (fun c_15 => ?_) (fun c_15 => ?_)
            · exfalso; (try simp (disch := omega) only [i32_lti, i32_lei, i32_eqi, nI_toInt, i32z] at c_15); omega
            · (try simp (disch := omega) only [i32_lti, i32_lei, i32_eqi, nI_toInt, i32z] at c_15)
              refine ev_aload_n (pc := 18) dX5_walkNight_18 rfl ?_
              refine gf_X5_67 (pc := 19) rfl dX5_walkNight_19 (by (try dsimp only); (repeat (first | rw [up_s] | rw [up_n (by omega)])) <;> first | rfl | assumption) ?_
              refine ev_if_lt (pc := 22) 57 dX5_walkNight_22 (by decide) (fun c_22 => ?_) (fun c_22 => ?_)
              · exfalso; (try simp (disch := omega) only [i32_lti, i32_lei, i32_eqi, nI_toInt, i32z] at c_22); omega
              · (try simp (disch := omega) only [i32_lti, i32_lei, i32_eqi, nI_toInt, i32z] at c_22)
                refine ev_aload_n (pc := 25) dX5_walkNight_25 rfl ?_
                refine gf_X5_67 (pc := 26) rfl dX5_walkNight_26 (by (try dsimp only); (repeat (first | rw [up_s] | rw [up_n (by omega)])) <;> first | rfl | assumption) ?_
                refine ev_aload_n (pc := 29) dX5_walkNight_29 rfl ?_
                refine gf_X5_47 (pc := 30) rfl dX5_walkNight_30 (by (try dsimp only); (repeat (first | rw [up_s] | rw [up_n (by omega)])) <;> first | rfl | assumption) ?_
                refine ev_icmp_ge (pc := 33) 57 dX5_walkNight_33 (by decide) (fun c_33 => ?_) (fun c_33 => ?_)
                · exfalso; (try simp (disch := omega) only [i32_lti, i32_lei, i32_eqi, nI_toInt, i32z] at c_33); omega
                · (try simp (disch := omega) only [i32_lti, i32_lei, i32_eqi, nI_toInt, i32z] at c_33)
                  refine ev_aload_n (pc := 36) dX5_walkNight_36 rfl ?_
                  refine gf_X5_67 (pc := 37) rfl dX5_walkNight_37 (by (try dsimp only); (repeat (first | rw [up_s] | rw [up_n (by omega)])) <;> first | rfl | assumption) ?_
                  refine ev_bipush (pc := 40) (v := nI 6) dX5_walkNight_40 kb_6 ?_
                  refine ev_icmp_ge (pc := 42) 57 dX5_walkNight_42 (by decide) (fun c_42 => ?_) (fun c_42 => ?_)
                  · exfalso; (try simp (disch := omega) only [i32_lti, i32_lei, i32_eqi, nI_toInt, i32z] at c_42); omega
                  · (try simp (disch := omega) only [i32_lti, i32_lei, i32_eqi, nI_toInt, i32z] at c_42)
                    refine ev_aload_n (pc := 45) dX5_walkNight_45 rfl ?_
                    refine gf_X5_37 (pc := 46) rfl dX5_walkNight_46 (by (try dsimp only); (repeat (first | rw [up_s] | rw [up_n (by omega)])) <;> first | rfl | assumption) ?_
                    refine ev_aload_n (pc := 49) dX5_walkNight_49 rfl ?_
                    refine gf_X5_67 (pc := 50) rfl dX5_walkNight_50 (by (try dsimp only); (repeat (first | rw [up_s] | rw [up_n (by omega)])) <;> first | rfl | assumption) ?_
                    refine ev_iald (pc := 53) dX5_walkNight_53 (by (try dsimp only); (repeat (first | rw [up_s] | rw [up_n (by omega)])) <;> first | rfl | assumption) (nI_toInt (by omega)) (gm (by omega)) ?_
                    rw [o3 k1 hk, eg]
                    refine ev_goto (pc := 54) 59 dX5_walkNight_54 (by decide) ?_
                    refine ev_istore_n (pc := 59) (L' := [_, _, _, _]) dX5_walkNight_59 (Nat.le_of_ble_eq_true rfl) rfl ?_
                    refine ev_aload_n (pc := 60) dX5_walkNight_60 rfl ?_
                    refine gf_X5_30 (pc := 61) rfl dX5_walkNight_61 (by (try dsimp only); (repeat (first | rw [up_s] | rw [up_n (by omega)])) <;> first | rfl | assumption) ?_
                    refine iv_X5_87 (pc := 64) rfl dX5_walkNight_64 (by (try dsimp only); (repeat (first | rw [up_s] | rw [up_n (by omega)])) <;> first | rfl | assumption) (Nat.le_of_ble_eq_true rfl) (Nat.le_of_ble_eq_true rfl) (Nat.le_of_ble_eq_true rfl) (Nat.le_of_ble_eq_true rfl) (c_isPause pt1 s2) (kp ?_)
                    refine ev_if_eq (pc := 67) 103 dX5_walkNight_67 (by decide) (fun c_67 => ?_) (fun c_67 => ?_)
                    · simp only [b2i_e0, Bool.not_eq_false] at c_67
                      refine go _ ?_
                      refine if_neg (fun hq => ?_)
                      obtain ⟨hq1, hq2, hq3⟩ := hq
                      dsimp only at hq1 hq2 hq3
                      rw [eg] at hq3
                      first | (rw [c_67] at hq2; cases hq2; done) | (rw [c_79] at hq3; cases hq3; done)
                    · simp only [b2i_e0, Bool.not_eq_false] at c_67
                      refine ev_aload_n (pc := 70) dX5_walkNight_70 rfl ?_
                      refine gf_X5_30 (pc := 71) rfl dX5_walkNight_71 (by (try dsimp only); (repeat (first | rw [up_s] | rw [up_n (by omega)])) <;> first | rfl | assumption) ?_
                      refine ev_aload_n (pc := 74) dX5_walkNight_74 rfl ?_
                      refine ev_iload_n (pc := 75) dX5_walkNight_75 rfl ?_
                      refine iv_X5_91 (pc := 76) rfl dX5_walkNight_76 (by (try dsimp only); (repeat (first | rw [up_s] | rw [up_n (by omega)])) <;> first | rfl | assumption) (Nat.le_of_ble_eq_true rfl) (Nat.le_of_ble_eq_true rfl) (Nat.le_of_ble_eq_true rfl) (Nat.le_of_ble_eq_true rfl) (c_mayBegin pt1 s2 q1 b1 b5 (fun i hi => (b6 i hi).2.2) ht) (kp ?_)
                      refine ev_if_eq (pc := 79) 103 dX5_walkNight_79 (by decide) (fun c_79 => ?_) (fun c_79 => ?_)
                      · simp only [b2i_e0, Bool.not_eq_false] at c_79
                        refine go _ ?_
                        refine if_neg (fun hq => ?_)
                        obtain ⟨hq1, hq2, hq3⟩ := hq
                        dsimp only at hq1 hq2 hq3
                        rw [eg] at hq3
                        first | (rw [c_67] at hq2; cases hq2; done) | (rw [c_79] at hq3; cases hq3; done)
                      · simp only [b2i_e0, Bool.not_eq_false] at c_79
                        refine ev_aload_n (pc := 82) dX5_walkNight_82 rfl ?_
                        refine gf_X5_30 (pc := 83) rfl dX5_walkNight_83 (by (try dsimp only); (repeat (first | rw [up_s] | rw [up_n (by omega)])) <;> first | rfl | assumption) ?_
                        refine ev_iload_n (pc := 86) dX5_walkNight_86 rfl ?_
                        refine iv_X5_95 (pc := 87) rfl dX5_walkNight_87 (by (try dsimp only); (repeat (first | rw [up_s] | rw [up_n (by omega)])) <;> first | rfl | assumption) (Nat.le_of_ble_eq_true rfl) (Nat.le_of_ble_eq_true rfl) (Nat.le_of_ble_eq_true rfl) (Nat.le_of_ble_eq_true rfl) (c_beginTale pt1 s2 hi6 (mayN_t c_79).2.2.1 (s2.len hi6 (mayN_t c_79).2.2.1) (s3 t ht (mayN_t c_79).2.2.1) (by omega)) (kv (fun S' hS => ?_))
                        obtain ⟨h', z'⟩ := S'
                        obtain ⟨rfl, fg, pg⟩ := hS
                        have p2 := (fg r (by omega)).trans p1'
                        refine ev_aload_n (pc := 90) dX5_walkNight_90 rfl ?_
                        refine ev_dup (pc := 91) dX5_walkNight_91 rfl ?_
                        refine gf_X5_67 (pc := 92) rfl dX5_walkNight_92 (by (try dsimp only); (repeat (first | rw [up_s] | rw [up_n (by omega)])) <;> first | rfl | assumption) ?_
                        refine ev_iconst (pc := 95) (v := nI 1) dX5_walkNight_95 kc_1 ?_
                        refine ev_iadd (pc := 96) dX5_walkNight_96 ?_
                        rw [nI_add]
                        refine pf_X5_67 (pc := 97) rfl dX5_walkNight_97 (by (try dsimp only); (repeat (first | rw [up_s] | rw [up_n (by omega)])) <;> first | rfl | assumption) ?_
                        refine ev_goto (pc := 100) 110 dX5_walkNight_100 (by decide) ?_
                        refine ev_iinc (pc := 110) (L' := [_, _, _, _]) dX5_walkNight_110 rfl (nI_1 _) rfl ?_
                        refine ev_goto (pc := 113) 2 dX5_walkNight_113 (by decide) ?_
                        have eb : stepW B w (T1, k1) = (tBeg T1 t, k1 + 1) := by
                          rw [← eg]; exact if_pos ⟨hk, c_67, by dsimp only; rw [eg]; exact c_79⟩
                        rw [eb] at es
                        refine ih (i + 1) (tBeg T1 t) (k1 + 1) _ _ (by omega) ⟨s2.beg hi6 (mayN_t c_79).2.2.1, s3.beg, hk⟩ es (by intro y e1 e2; rw [up_n (by omega)]; exact (fg y (by omega)).trans (f1 y e1 e2)) ?_ (by unfold pRO; (try dsimp only); (repeat (first | rw [up_s] | rw [up_n (by omega)])) <;> first | rfl | assumption)
                        exact pg.fr (fun y e1 e2 => by rw [up_n (by omega)])
        · skip
          refine ev_iload_n (pc := 2) dX5_walkNight_2 rfl ?_
          refine ev_bipush (pc := 3) (v := nI 10) dX5_walkNight_3 kb_10 ?_
          refine ev_icmp_ge (pc := 5) 116 dX5_walkNight_5 (by decide) (fun c_5 => ?_) (fun c_5 => ?_)
          · exfalso; (try simp (disch := omega) only [i32_lti, i32_lei, i32_eqi, nI_toInt, i32z] at c_5); omega
          · (try simp (disch := omega) only [i32_lti, i32_lei, i32_eqi, nI_toInt, i32z] at c_5)
            refine ev_aload_n (pc := 8) dX5_walkNight_8 rfl ?_
            refine gf_X5_30 (pc := 9) rfl dX5_walkNight_9 (by (try dsimp only); (repeat (first | rw [up_s] | rw [up_n (by omega)])) <;> first | rfl | assumption) ?_
            refine gf_X5_84 (pc := 12) rfl dX5_walkNight_12 (by (try dsimp only); (repeat (first | rw [up_s] | rw [up_n (by omega)])) <;> first | rfl | assumption) ?_
            refine ev_if_le (pc := 15) 116 dX5_walkNight_15 (by decide) (fun c_15 => ?_) (fun c_15 => ?_)
            · exfalso; (try simp (disch := omega) only [i32_lti, i32_lei, i32_eqi, nI_toInt, i32z] at c_15); omega
            · (try simp (disch := omega) only [i32_lti, i32_lei, i32_eqi, nI_toInt, i32z] at c_15)
              refine ev_aload_n (pc := 18) dX5_walkNight_18 rfl ?_
              refine gf_X5_67 (pc := 19) rfl dX5_walkNight_19 (by (try dsimp only); (repeat (first | rw [up_s] | rw [up_n (by omega)])) <;> first | rfl | assumption) ?_
              refine ev_if_lt (pc := 22) 57 dX5_walkNight_22 (by decide) (fun c_22 => ?_) (fun c_22 => ?_)
              · exfalso; (try simp (disch := omega) only [i32_lti, i32_lei, i32_eqi, nI_toInt, i32z] at c_22); omega
              · (try simp (disch := omega) only [i32_lti, i32_lei, i32_eqi, nI_toInt, i32z] at c_22)
                refine ev_aload_n (pc := 25) dX5_walkNight_25 rfl ?_
                refine gf_X5_67 (pc := 26) rfl dX5_walkNight_26 (by (try dsimp only); (repeat (first | rw [up_s] | rw [up_n (by omega)])) <;> first | rfl | assumption) ?_
                refine ev_aload_n (pc := 29) dX5_walkNight_29 rfl ?_
                refine gf_X5_47 (pc := 30) rfl dX5_walkNight_30 (by (try dsimp only); (repeat (first | rw [up_s] | rw [up_n (by omega)])) <;> first | rfl | assumption) ?_
                refine ev_icmp_ge (pc := 33) 57 dX5_walkNight_33 (by decide) (fun c_33 => ?_) (fun c_33 => ?_)
                · (try simp (disch := omega) only [i32_lti, i32_lei, i32_eqi, nI_toInt, i32z] at c_33)
                  refine ev_bipush (pc := 57) (v := (-9)) dX5_walkNight_57 kb_m9 ?_
                  refine ev_istore_n (pc := 59) (L' := [_, _, _, _]) dX5_walkNight_59 (Nat.le_of_ble_eq_true rfl) rfl ?_
                  refine ev_aload_n (pc := 60) dX5_walkNight_60 rfl ?_
                  refine gf_X5_30 (pc := 61) rfl dX5_walkNight_61 (by (try dsimp only); (repeat (first | rw [up_s] | rw [up_n (by omega)])) <;> first | rfl | assumption) ?_
                  refine iv_X5_87 (pc := 64) rfl dX5_walkNight_64 (by (try dsimp only); (repeat (first | rw [up_s] | rw [up_n (by omega)])) <;> first | rfl | assumption) (Nat.le_of_ble_eq_true rfl) (Nat.le_of_ble_eq_true rfl) (Nat.le_of_ble_eq_true rfl) (Nat.le_of_ble_eq_true rfl) (c_isPause pt1 s2) (kp ?_)
                  refine ev_if_eq (pc := 67) 103 dX5_walkNight_67 (by decide) (fun c_67 => ?_) (fun c_67 => ?_)
                  · simp only [b2i_e0, Bool.not_eq_false] at c_67
                    refine go _ ?_
                    refine if_neg (fun hq => hk hq.1)
                  · simp only [b2i_e0, Bool.not_eq_false] at c_67
                    refine ev_aload_n (pc := 70) dX5_walkNight_70 rfl ?_
                    refine gf_X5_30 (pc := 71) rfl dX5_walkNight_71 (by (try dsimp only); (repeat (first | rw [up_s] | rw [up_n (by omega)])) <;> first | rfl | assumption) ?_
                    refine ev_aload_n (pc := 74) dX5_walkNight_74 rfl ?_
                    refine ev_iload_n (pc := 75) dX5_walkNight_75 rfl ?_
                    refine iv_X5_91 (pc := 76) rfl dX5_walkNight_76 (by (try dsimp only); (repeat (first | rw [up_s] | rw [up_n (by omega)])) <;> first | rfl | assumption) (Nat.le_of_ble_eq_true rfl) (Nat.le_of_ble_eq_true rfl) (Nat.le_of_ble_eq_true rfl) (Nat.le_of_ble_eq_true rfl) (c_mayBegin_no pt1 hH q1 b1 (iTn_9 _)) (kp ?_)
                    refine ev_if_eq (pc := 79) 103 dX5_walkNight_79 (by decide) (fun c_79 => ?_) (fun c_79 => ?_)
                    · simp only [b2i_e0, Bool.not_eq_false] at c_79
                      refine go _ ?_
                      refine if_neg (fun hq => hk hq.1)
                    · exact absurd rfl c_79
                · exfalso; (try simp (disch := omega) only [i32_lti, i32_lei, i32_eqi, nI_toInt, i32z] at c_33); omega
  refine ev_iconst (pc := 0) (v := nI 0) dX5_walkNight_0 kc_0 ?_
  refine ev_istore_n (pc := 1) (L' := [_, _, _, _]) dX5_walkNight_1 (Nat.le_of_ble_eq_true rfl) rfl ?_
  exact loop 10 0 T k h _ (by omega) s rfl (fun y e1 e2 => rfl) pt p
def wFs (h h1 : Hp) (r : Nat) : Prop := ∀ q : Nat, q ≠ r → (q < r + 5 ∨ r + 10 ≤ q) → h1 q = h q
def pWo (h : Hp) (r : Nat) (ms : List Nat) : Prop := h (r + 9) = some (.inr (3, .inr (.inl ([wds ms 0, wds ms 1, wds ms 2].map lN))))
theorem wds_nil (k : Nat) : wds [] k = 0 := by simp [wds, wordL]
theorem wds_last {ms : List Nat} (h : ∀ m ∈ ms, m < 64) : wds ms (ms.length / 10) < 2 ^ (ms.length % 10 * 6) := by
  have h1 : ∀ m ∈ (ms.drop (10 * (ms.length / 10))).take 10, m < 64 := fun m hm => h m (List.mem_of_mem_drop (List.mem_of_mem_take hm))
  have h2 := wordL_lt _ h1
  have h3 : ((ms.drop (10 * (ms.length / 10))).take 10).length = ms.length % 10 := by rw [List.length_take, List.length_drop]; omega
  rw [h3] at h2
  rw [Nat.mul_comm, Nat.pow_mul]
  exact h2
theorem wds_g3 {ms : List Nat} {k : Nat} (hk : k < 3) : gN [wds ms 0, wds ms 1, wds ms 2] k = wds ms k := by
  have h3 : k = 0 ∨ k = 1 ∨ k = 2 := by omega
  rcases h3 with e | e | e <;> subst e <;> rfl
theorem wo_set {ms : List Nat} (h : ∀ m ∈ ms, m < 64) (m : Nat) (hk : ms.length / 10 < 3) : [wds ms 0, wds ms 1, wds ms 2].set (ms.length / 10) (wds ms (ms.length / 10) + m * 2 ^ (ms.length % 10 * 6)) = [wds (ms ++ [m]) 0, wds (ms ++ [m]) 1, wds (ms ++ [m]) 2] := by
  rw [wds_app h, wds_app h, wds_app h]
  generalize ms.length % 10 * 6 = s
  have h3 : ms.length / 10 = 0 ∨ ms.length / 10 = 1 ∨ ms.length / 10 = 2 := by omega
  rcases h3 with e | e | e <;> rw [e] <;> simp
theorem c_walk (b9 : wB m B) (hm : m < 100) (q : pBook h b B) (d : b + 4 ≤ r ∨ r + 11 ≤ b) (p : pRO h r size full kn lb (nI w.length) nx) (po : pOrd h r w) (hw : ∀ t ∈ w, t < bT B) (hl : w.length ≤ 6) (pt : rTel h (r + 5)) (pw : ∃ xs : List Int64, h (r + 9) = some (.inr (3, .inr (.inl xs))) ∧ xs.length = 3) : Ct X 3 mt_X5_walk [.ref r, .ref b] (h, z) 0 0 (Qi (fun v S' => v = nI (outW B w).length ∧ S'.2 = z ∧ wFs h S'.1 r ∧ rTel S'.1 (r + 5) ∧ pWo S'.1 r (outW B w) ∧ pRO S'.1 r size full kn lb (nI w.length) (nI (nxtW B w)))) := by
  obtain ⟨xs, x1, x2⟩ := pw
  obtain ⟨b1, b2, b3, b4, b5, b6, b7⟩ := id b9
  have p' := p
  unfold pRO at p'
  refine mk_X5_walk (Nat.le_of_ble_eq_true rfl) (L := [.ref r, .ref b, .retAddr 0, .retAddr 0, .retAddr 0, .retAddr 0]) rfl ?_
  have loop : ∀ (n : Nat) (ms : List Nat) (dd : Nat) (T : Tl) (k : Nat) (h1 : Hp) (x3 x4 x5 : Value), dd = ms.length → n + ms.length = 30 → wS B w (T, k) → tN T ≤ ms.length → (∀ x ∈ ms, x < 64) → walkW B w 30 (startT B, 0) = (ms ++ (walkW B w n (T, k)).1, (walkW B w n (T, k)).2) → wFs h h1 r → pTel h1 (r + 5) T → pWo h1 r ms → pRO h1 r size full kn lb (nI w.length) (nI k) → Ev X (mi_X5_walk 3 0 0) (Qi (fun v S' => v = nI (outW B w).length ∧ S'.2 = z ∧ wFs h S'.1 r ∧ rTel S'.1 (r + 5) ∧ pWo S'.1 r (outW B w) ∧ pRO S'.1 r size full kn lb (nI w.length) (nI (nxtW B w)))) 0 0 (h1, z) 23 [.ref r, .ref b, .int (nI dd), x3, x4, x5] [] := by
    intro n
    induction n with
    | zero =>
      intro ms dd T k h1 x3 x4 x5 hdd hi s1 hN h64 es f1 pt1 pw1 p1
      subst hdd
      have es2 : walkW B w 0 (T, k) = ([], k) := rfl
      rw [es2, List.append_nil] at es
      have eo : outW B w = ms := by unfold outW; rw [es]
      have en : nxtW B w = k := by unfold nxtW; rw [es]
      have e30 : ms.length = 30 := by omega
      rw [eo, en]
      refine ev_iload_n (pc := 23) dX5_walk_23 rfl ?_
      refine ev_bipush (pc := 24) (v := nI 30) dX5_walk_24 kb_30 ?_
      refine ev_icmp_ge (pc := 26) 90 dX5_walk_26 (by decide) (fun c_26 => ?_) (fun c_26 => ?_)
      · (try simp (disch := omega) only [i32_lti, i32_lei, i32_eqi, nI_toInt, i32z] at c_26)
        refine ev_bipush (pc := 90) (v := nI 30) dX5_walk_90 kb_30 ?_
        refine ev_iret (pc := 92) dX5_walk_92 rfl rfl (Nat.le_of_ble_eq_true rfl) (Nat.le_of_ble_eq_true rfl) ?_
        exact ⟨_, rfl, by rw [e30], rfl, f1, pt1.raw, pw1, p1⟩
      · exfalso; (try simp (disch := omega) only [i32_lti, i32_lei, i32_eqi, nI_toInt, i32z] at c_26); omega
    | succ n ih =>
      intro ms dd T k h1 x3 x4 x5 hdd hi s1 hN h64 es f1 pt1 pw1 p1
      subst hdd
      have p1' := p1
      unfold pRO at p1'
      have q1 : pBook h1 b B := q.fr (fun x e1 e2 => f1 x (by omega) (by omega))
      have po1 : pOrd h1 r w := by
        obtain ⟨os, o1, o2, o3⟩ := po
        exact ⟨os, (f1 _ (by omega) (by omega)).trans o1, o2, o3⟩
      obtain ⟨sn, eN⟩ := wS.night b1 hw 10 s1
      have es2 : walkW B w (n + 1) (T, k) = if dawnOk B (nightW B w 10 (T, k)).1 = true then (mk (tO (nightW B w 10 (T, k)).1) :: (walkW B w n (dawnT B (nightW B w 10 (T, k)).1, (nightW B w 10 (T, k)).2)).1, (walkW B w n (dawnT B (nightW B w 10 (T, k)).1, (nightW B w 10 (T, k)).2)).2) else ([], (nightW B w 10 (T, k)).2) := rfl
      rw [es2] at es
      have cN := c_walkNight (X := X) (z := z) b9 hm q1 d p1 po1 hw hl pt1 s1
      clear es2
      generalize nightW B w 10 (T, k) = Y at es sn eN cN
      obtain ⟨T', k'⟩ := Y
      dsimp only at es sn eN cN
      have hm64 := mk_lt (l := tO T') (fun t ht => (sn.1.2.1 t ht).1)
      have hb := wds_last h64
      have hb2 := wds_lt (ms := ms ++ [mk (tO T')]) (fun x hx => by
        rcases List.mem_append.mp hx with e | e
        · exact h64 x e
        · rw [List.mem_singleton.mp e]; exact hm64) (ms.length / 10)
      rw [wds_app h64, if_pos rfl] at hb2
      refine ev_iload_n (pc := 23) dX5_walk_23 rfl ?_
      refine ev_bipush (pc := 24) (v := nI 30) dX5_walk_24 kb_30 ?_
      refine ev_icmp_ge (pc := 26) 90 dX5_walk_26 (by decide) (fun c_26 => ?_) (fun c_26 => ?_)
      · exfalso; (try simp (disch := omega) only [i32_lti, i32_lei, i32_eqi, nI_toInt, i32z] at c_26); omega
      · (try simp (disch := omega) only [i32_lti, i32_lei, i32_eqi, nI_toInt, i32z] at c_26)
        refine ev_aload_n (pc := 29) dX5_walk_29 rfl ?_
        refine ev_aload_n (pc := 30) dX5_walk_30 rfl ?_
        refine iv_X5_70 (pc := 31) rfl dX5_walk_31 (by (try dsimp only); (repeat (first | rw [up_s] | rw [up_n (by omega)])) <;> first | rfl | assumption) (Nat.le_of_ble_eq_true rfl) (Nat.le_of_ble_eq_true rfl) (Nat.le_of_ble_eq_true rfl) (Nat.le_of_ble_eq_true rfl) cN (kv (fun S' hS => ?_))
        obtain ⟨h2, z'⟩ := S'
        obtain ⟨rfl, f2, pt2, p2⟩ := hS
        have p2' := p2
        unfold pRO at p2'
        obtain ⟨ht2, -⟩ := id pt2
        have q2 : pBook h2 b B := q1.fr (fun x e1 e2 => f2 x (by omega) (by omega))
        refine ev_aload_n (pc := 34) dX5_walk_34 rfl ?_
        refine gf_X5_30 (pc := 35) rfl dX5_walk_35 (by (try dsimp only); (repeat (first | rw [up_s] | rw [up_n (by omega)])) <;> first | rfl | assumption) ?_
        refine gf_X5_73 (pc := 38) rfl dX5_walk_38 (by (try dsimp only); (repeat (first | rw [up_s] | rw [up_n (by omega)])) <;> first | rfl | assumption) ?_
        refine ev_i2l (pc := 41) dX5_walk_41 ?_
        rw [nI_l (by omega)]
        refine ev_lstore_n (pc := 42) (L' := [_, _, _, _, _, _]) dX5_walk_42 (Nat.le_of_ble_eq_true rfl) rfl ?_
        refine ev_aload_n (pc := 43) dX5_walk_43 rfl ?_
        refine gf_X5_30 (pc := 44) rfl dX5_walk_44 (by (try dsimp only); (repeat (first | rw [up_s] | rw [up_n (by omega)])) <;> first | rfl | assumption) ?_
        refine ev_aload_n (pc := 47) dX5_walk_47 rfl ?_
        refine iv_X5_76 (pc := 48) rfl dX5_walk_48 (by (try dsimp only); (repeat (first | rw [up_s] | rw [up_n (by omega)])) <;> first | rfl | assumption) (Nat.le_of_ble_eq_true rfl) (Nat.le_of_ble_eq_true rfl) (Nat.le_of_ble_eq_true rfl) (Nat.le_of_ble_eq_true rfl) (c_meetDawn pt2 sn.1 q2 b4 b2 b3 (by omega)) (ki (fun v S' hS => ?_))
        obtain ⟨h3, z'⟩ := S'
        obtain ⟨rfl, rfl, f3, pt3⟩ := hS
        have p3 := (f3 r (by omega)).trans p2'
        have pw3 : h3 (r + 9) = _ := (f3 (r + 9) (by omega)).trans ((f2 (r + 9) (by omega) (by omega)).trans pw1)
        have f13 : wFs h h3 r := fun x e1 e2 => (f3 x (by omega)).trans ((f2 x e1 (by omega)).trans (f1 x e1 e2))
        refine ev_if_ne (pc := 51) 56 dX5_walk_51 (by decide) (fun c_51 => ?_) (fun c_51 => ?_)
        · simp only [b2i_e0, Bool.not_eq_false] at c_51
          refine ev_iload_n (pc := 56) dX5_walk_56 rfl ?_
          refine ev_bipush (pc := 57) (v := nI 10) dX5_walk_57 kb_10 ?_
          refine ev_idiv (pc := 59) dX5_walk_59 (by decide) ?_
          rw [pk_div (by omega) (by omega) (by omega)]
          refine ev_istore (pc := 60) (L' := [_, _, _, _, _, _]) dX5_walk_60 (Nat.le_of_ble_eq_true rfl) rfl ?_
          refine ev_iload (pc := 62) dX5_walk_62 rfl ?_
          refine ev_iconst (pc := 64) (v := nI 3) dX5_walk_64 kc_3 ?_
          refine ev_icmp_ge (pc := 65) 84 dX5_walk_65 (by decide) (fun c_65 => ?_) (fun c_65 => ?_)
          · exfalso; (try simp (disch := omega) only [i32_lti, i32_lei, i32_eqi, nI_toInt, i32z] at c_65); omega
          · (try simp (disch := omega) only [i32_lti, i32_lei, i32_eqi, nI_toInt, i32z] at c_65)
            refine ev_aload_n (pc := 68) dX5_walk_68 rfl ?_
            refine gf_X5_34 (pc := 69) rfl dX5_walk_69 (by (try dsimp only); (repeat (first | rw [up_s] | rw [up_n (by omega)])) <;> first | rfl | assumption) ?_
            refine ev_iload (pc := 72) dX5_walk_72 rfl ?_
            refine ev_dup2 (pc := 74) dX5_walk_74 rfl rfl ?_
            refine ev_lald (pc := 75) dX5_walk_75 (by (try dsimp only); (repeat (first | rw [up_s] | rw [up_n (by omega)])) <;> first | rfl | assumption) (nI_toInt (by omega)) (lgm (by simp only [List.length_cons, List.length_nil]; omega)) ?_
            rw [wds_g3 (by omega)]
            refine ev_lload_n (pc := 76) dX5_walk_76 rfl ?_
            refine ev_iload_n (pc := 77) dX5_walk_77 rfl ?_
            refine iv_X5_80 (pc := 78) rfl dX5_walk_78 (Nat.le_of_ble_eq_true rfl) (Nat.le_of_ble_eq_true rfl) (Nat.le_of_ble_eq_true rfl) (Nat.le_of_ble_eq_true rfl) (c_shiftOf (by omega)) (kp ?_)
            refine ev_lshl (pc := 81) dX5_walk_81 (wb_shl _ (by omega)) ?_
            refine ev_lor (pc := 82) dX5_walk_82 ?_
            rw [g_or' rfl hb (by omega)]
            refine ev_last (pc := 83) dX5_walk_83 (by (try dsimp only); (repeat (first | rw [up_s] | rw [up_n (by omega)])) <;> first | rfl | assumption) (nI_toInt (by omega)) (by simp only [List.length_map, List.length_set, List.length_replicate, List.length_cons, List.length_nil]; omega) ?_
            refine ev_iinc (pc := 84) (L' := [_, _, _, _, _, _]) dX5_walk_84 rfl (nI_1 _) rfl ?_
            refine ev_goto (pc := 87) 23 dX5_walk_87 (by decide) ?_
            rw [lgs, wo_set h64 _ (by omega)]
            rw [if_pos c_51] at es
            have hdl := dawnT_N B T'
            refine ih (ms ++ [mk (tO T')]) (ms.length + 1) (dawnT B T') k' _ _ _ _ (by simp) (by simp; omega) (sn.dawn b9 hm (by omega)) (by simp; omega) ?_ (by rw [es]; simp) (by intro y e1 e2; rw [up_n (by omega)]; exact f13 y e1 e2) (pt3.fr (fun y e1 e2 => by rw [up_n (by omega)])) (by unfold pWo; rw [up_s]) (by unfold pRO; rw [up_n (by omega)]; exact p3)
            intro x hx
            rcases List.mem_append.mp hx with e | e
            · exact h64 x e
            · rw [List.mem_singleton.mp e]; exact hm64
        · simp only [b2i_e0, Bool.not_eq_false] at c_51
          refine ev_iload_n (pc := 54) dX5_walk_54 rfl ?_
          refine ev_iret (pc := 55) dX5_walk_55 rfl rfl (Nat.le_of_ble_eq_true rfl) (Nat.le_of_ble_eq_true rfl) ?_
          rw [if_neg (by rw [c_51]; decide), List.append_nil] at es
          have eo : outW B w = ms := by unfold outW; rw [es]
          have en : nxtW B w = k' := by unfold nxtW; rw [es]
          rw [eo, en]
          exact ⟨_, rfl, rfl, rfl, f13, pt3.raw, pw3, p3⟩
  refine ev_aload_n (pc := 0) dX5_walk_0 rfl ?_
  refine gf_X5_34 (pc := 1) rfl dX5_walk_1 (by (try dsimp only); (repeat (first | rw [up_s] | rw [up_n (by omega)])) <;> first | rfl | assumption) ?_
  refine ev_lconst (pc := 4) (v := 0) dX5_walk_4 kl_0 ?_
  refine iv_X5_57 (pc := 5) rfl dX5_walk_5 (Nat.le_of_ble_eq_true rfl) (Nat.le_of_ble_eq_true rfl) (Nat.le_of_ble_eq_true rfl) (Nat.le_of_ble_eq_true rfl) (c_fill x1 (by omega) 0) (kv (fun S' hS => ?_))
  obtain ⟨h2, z'⟩ := S'
  obtain ⟨rfl, f2, e2⟩ := hS
  have p2 := (f2 r (by omega)).trans p'
  rw [x2] at e2
  have pt2 : rTel h2 (r + 5) := pt.fr (fun y e1 e3 => f2 y (by omega))
  obtain ⟨fs2, hfs2⟩ := pt2.obj
  refine ev_aload_n (pc := 8) dX5_walk_8 rfl ?_
  refine gf_X5_30 (pc := 9) rfl dX5_walk_9 (by (try dsimp only); (repeat (first | rw [up_s] | rw [up_n (by omega)])) <;> first | rfl | assumption) ?_
  refine ev_aload_n (pc := 12) dX5_walk_12 rfl ?_
  refine iv_X5_63 (pc := 13) rfl dX5_walk_13 (by (try dsimp only); (repeat (first | rw [up_s] | rw [up_n (by omega)])) <;> first | rfl | assumption) (Nat.le_of_ble_eq_true rfl) (Nat.le_of_ble_eq_true rfl) (Nat.le_of_ble_eq_true rfl) (Nat.le_of_ble_eq_true rfl) (c_Tel_start pt2 (q.fr (fun y e1 e3 => f2 y (by omega))) b1 b2 b3 (by omega)) (kv (fun S' hS => ?_))
  obtain ⟨h3, z'⟩ := S'
  obtain ⟨rfl, f3, pt3⟩ := hS
  have p3 := (f3 r (by omega)).trans p2
  have e3 := (f3 (r + 9) (by omega)).trans e2
  refine ev_aload_n (pc := 16) dX5_walk_16 rfl ?_
  refine ev_iconst (pc := 17) (v := nI 0) dX5_walk_17 kc_0 ?_
  refine pf_X5_67 (pc := 18) rfl dX5_walk_18 (by (try dsimp only); (repeat (first | rw [up_s] | rw [up_n (by omega)])) <;> first | rfl | assumption) ?_
  refine ev_iconst (pc := 21) (v := nI 0) dX5_walk_21 kc_0 ?_
  refine ev_istore_n (pc := 22) (L' := [_, _, _, _, _, _]) dX5_walk_22 (Nat.le_of_ble_eq_true rfl) rfl ?_
  refine loop 30 [] 0 (startT B) 0 _ _ _ _ rfl rfl ⟨wT.start b9 hm, wF.start b9, Nat.zero_le _⟩ (Nat.le_refl _) (fun x hx => (nomatch hx)) rfl (by intro y e4 e5; rw [up_n (by omega)]; exact (f3 y (by omega)).trans (f2 y (by omega))) (pt3.fr (fun y e4 e5 => by rw [up_n (by omega)])) (by unfold pWo; rw [up_n (by omega), wds_nil, wds_nil, wds_nil]; exact e3) (by unfold pRO; (try dsimp only); (repeat (first | rw [up_s] | rw [up_n (by omega)])) <;> first | rfl | assumption)
end WALK2
