/-! ===== the model: now, mark, images ===== -/
section MTHR
variable {X : Cx} {h : Hp} {z m n mx : Nat} {cs : List Nat} {B : Bk} {N : Tl} {P : List Tl} {I J : Im} {wn op : List Nat} {tr : Int64}
theorem c_M_now (p : pM h m cs B N P I J wn op n tr) (b9 : wB mx B) (g : gT B mx N) (x : Int32) : Ct X 2 mt_X12_now [.ref m, .int x] (h, z) 0 0 (QP (.int (aNow B N x)) (h, z)) := by
  obtain ⟨⟨at_, bg, tk, td, rt, rn, rm, rd, mn, bd, br, po⟩, px, pr, pb, pn, -⟩ := id p
  have po' := po
  unfold pMO at po'
  have pn' := pn
  unfold pRw at pn'
  have w := g.1
  have h6 := b9.1
  have hl6 := w.2.2.2.1
  have eE : endN N 6 = endN N (bT B) := by
    have := endN_ext (T := N) g.2.2.2 (6 - bT B)
    rw [show bT B + (6 - bT B) = 6 by omega] at this
    exact this
  refine mk_X12_now (Nat.le_of_ble_eq_true rfl) (L := [.ref m, .int x, .retAddr 0, .retAddr 0, .retAddr 0]) rfl ?_
  have loop : ∀ (c t : Nat), t + c = bT B → Ev X (mi_X12_now 2 0 0) (QP (.int (aNow B N x)) (h, z)) 0 0 (h, z) 7 [.ref m, .int x, .int (nI (endN N t)), .int (nI (mayBN B N t)), .int (nI t)] [] := by
    intro c
    induction c with
    | zero =>
      intro t ht
      have et : t = bT B := by omega
      subst et
      rw [← eE]
      unfold aNow
      refine ev_iload (pc := 7) dX12_now_7 rfl ?_
      refine ev_aload_n (pc := 9) dX12_now_9 rfl ?_
      refine gf_X12_137 (pc := 10) rfl dX12_now_10 (by (try dsimp only); (repeat (first | rw [up_s] | rw [up_n (by omega)])) <;> first | rfl | assumption) ?_
      refine ev_icmp_ge (pc := 13) 91 dX12_now_13 (by decide) (fun c_13 => ?_) (fun c_13 => ?_)
      · (try simp (disch := omega) only [i32_lti, i32_lei, i32_eqi, nI_toInt, i32z] at c_13)
        refine ev_iload_n (pc := 91) dX12_now_91 rfl ?_
        by_cases s92_0 : (x).toInt = 0
        · refine ev_tableIn (pc := 92) 140 dX12_now_92 (by omega) (by omega) (by rw [s92_0]; rfl) (by decide) ?_
          refine ev_aload_n (pc := 140) dX12_now_140 rfl ?_
          refine gf_X12_31 (pc := 141) rfl dX12_now_141 (by (try dsimp only); (repeat (first | rw [up_s] | rw [up_n (by omega)])) <;> first | rfl | assumption) ?_
          refine ev_iconst (pc := 144) (v := nI 0) dX12_now_144 kc_0 ?_
          refine ev_iald (pc := 145) dX12_now_145 (by (try dsimp only); (repeat (first | rw [up_s] | rw [up_n (by omega)])) <;> first | rfl | assumption) (nI_toInt (by omega)) (x_0 _) ?_
          refine ev_iret (pc := 146) dX12_now_146 rfl rfl (Nat.le_of_ble_eq_true rfl) (Nat.le_of_ble_eq_true rfl) ?_
          exact ⟨by (repeat (first | rw [if_pos ‹x.toInt = _›] | rw [if_neg ‹¬ x.toInt = 0›] | rw [if_neg ‹¬ x.toInt = 1›] | rw [if_neg ‹¬ x.toInt = 2›] | rw [if_neg ‹¬ x.toInt = 3›] | rw [if_neg ‹¬ x.toInt = 4›] | rw [if_neg ‹¬ x.toInt = 5›] | rw [if_neg ‹¬ x.toInt = 6›] | rw [if_neg ‹¬ x.toInt = 7›])), rfl⟩
        by_cases s92_1 : (x).toInt = 1
        · refine ev_tableIn (pc := 92) 147 dX12_now_92 (by omega) (by omega) (by rw [s92_1]; rfl) (by decide) ?_
          refine ev_aload_n (pc := 147) dX12_now_147 rfl ?_
          refine gf_X12_31 (pc := 148) rfl dX12_now_148 (by (try dsimp only); (repeat (first | rw [up_s] | rw [up_n (by omega)])) <;> first | rfl | assumption) ?_
          refine ev_iconst (pc := 151) (v := nI 1) dX12_now_151 kc_1 ?_
          refine ev_iald (pc := 152) dX12_now_152 (by (try dsimp only); (repeat (first | rw [up_s] | rw [up_n (by omega)])) <;> first | rfl | assumption) (nI_toInt (by omega)) (x_1 _) ?_
          refine ev_iret (pc := 153) dX12_now_153 rfl rfl (Nat.le_of_ble_eq_true rfl) (Nat.le_of_ble_eq_true rfl) ?_
          exact ⟨by (repeat (first | rw [if_pos ‹x.toInt = _›] | rw [if_neg ‹¬ x.toInt = 0›] | rw [if_neg ‹¬ x.toInt = 1›] | rw [if_neg ‹¬ x.toInt = 2›] | rw [if_neg ‹¬ x.toInt = 3›] | rw [if_neg ‹¬ x.toInt = 4›] | rw [if_neg ‹¬ x.toInt = 5›] | rw [if_neg ‹¬ x.toInt = 6›] | rw [if_neg ‹¬ x.toInt = 7›])), rfl⟩
        by_cases s92_2 : (x).toInt = 2
        · refine ev_tableIn (pc := 92) 154 dX12_now_92 (by omega) (by omega) (by rw [s92_2]; rfl) (by decide) ?_
          refine ev_aload_n (pc := 154) dX12_now_154 rfl ?_
          refine gf_X12_31 (pc := 155) rfl dX12_now_155 (by (try dsimp only); (repeat (first | rw [up_s] | rw [up_n (by omega)])) <;> first | rfl | assumption) ?_
          refine ev_iconst (pc := 158) (v := nI 2) dX12_now_158 kc_2 ?_
          refine ev_iald (pc := 159) dX12_now_159 (by (try dsimp only); (repeat (first | rw [up_s] | rw [up_n (by omega)])) <;> first | rfl | assumption) (nI_toInt (by omega)) (x_2 _) ?_
          refine ev_iret (pc := 160) dX12_now_160 rfl rfl (Nat.le_of_ble_eq_true rfl) (Nat.le_of_ble_eq_true rfl) ?_
          exact ⟨by (repeat (first | rw [if_pos ‹x.toInt = _›] | rw [if_neg ‹¬ x.toInt = 0›] | rw [if_neg ‹¬ x.toInt = 1›] | rw [if_neg ‹¬ x.toInt = 2›] | rw [if_neg ‹¬ x.toInt = 3›] | rw [if_neg ‹¬ x.toInt = 4›] | rw [if_neg ‹¬ x.toInt = 5›] | rw [if_neg ‹¬ x.toInt = 6›] | rw [if_neg ‹¬ x.toInt = 7›])), rfl⟩
        by_cases s92_3 : (x).toInt = 3
        · refine ev_tableIn (pc := 92) 161 dX12_now_92 (by omega) (by omega) (by rw [s92_3]; rfl) (by decide) ?_
          refine ev_aload_n (pc := 161) dX12_now_161 rfl ?_
          refine gf_X12_31 (pc := 162) rfl dX12_now_162 (by (try dsimp only); (repeat (first | rw [up_s] | rw [up_n (by omega)])) <;> first | rfl | assumption) ?_
          refine iv_X12_168 (pc := 165) rfl dX12_now_165 (Nat.le_of_ble_eq_true rfl) (Nat.le_of_ble_eq_true rfl) (Nat.le_of_ble_eq_true rfl) (Nat.le_of_ble_eq_true rfl) (c_inner pn hl6) (kp ?_)
          refine ev_iret (pc := 168) dX12_now_168 rfl rfl (Nat.le_of_ble_eq_true rfl) (Nat.le_of_ble_eq_true rfl) ?_
          exact ⟨by (repeat (first | rw [if_pos ‹x.toInt = _›] | rw [if_neg ‹¬ x.toInt = 0›] | rw [if_neg ‹¬ x.toInt = 1›] | rw [if_neg ‹¬ x.toInt = 2›] | rw [if_neg ‹¬ x.toInt = 3›] | rw [if_neg ‹¬ x.toInt = 4›] | rw [if_neg ‹¬ x.toInt = 5›] | rw [if_neg ‹¬ x.toInt = 6›] | rw [if_neg ‹¬ x.toInt = 7›])), rfl⟩
        by_cases s92_4 : (x).toInt = 4
        · refine ev_tableIn (pc := 92) 169 dX12_now_92 (by omega) (by omega) (by rw [s92_4]; rfl) (by decide) ?_
          refine ev_aload_n (pc := 169) dX12_now_169 rfl ?_
          refine gf_X12_31 (pc := 170) rfl dX12_now_170 (by (try dsimp only); (repeat (first | rw [up_s] | rw [up_n (by omega)])) <;> first | rfl | assumption) ?_
          refine ev_iconst (pc := 173) (v := nI 3) dX12_now_173 kc_3 ?_
          refine ev_iald (pc := 174) dX12_now_174 (by (try dsimp only); (repeat (first | rw [up_s] | rw [up_n (by omega)])) <;> first | rfl | assumption) (nI_toInt (by omega)) (x_3 _) ?_
          refine ev_iret (pc := 175) dX12_now_175 rfl rfl (Nat.le_of_ble_eq_true rfl) (Nat.le_of_ble_eq_true rfl) ?_
          exact ⟨by (repeat (first | rw [if_pos ‹x.toInt = _›] | rw [if_neg ‹¬ x.toInt = 0›] | rw [if_neg ‹¬ x.toInt = 1›] | rw [if_neg ‹¬ x.toInt = 2›] | rw [if_neg ‹¬ x.toInt = 3›] | rw [if_neg ‹¬ x.toInt = 4›] | rw [if_neg ‹¬ x.toInt = 5›] | rw [if_neg ‹¬ x.toInt = 6›] | rw [if_neg ‹¬ x.toInt = 7›])), rfl⟩
        by_cases s92_5 : (x).toInt = 5
        · refine ev_tableIn (pc := 92) 176 dX12_now_92 (by omega) (by omega) (by rw [s92_5]; rfl) (by decide) ?_
          refine ev_aload_n (pc := 176) dX12_now_176 rfl ?_
          refine gf_X12_152 (pc := 177) rfl dX12_now_177 (by (try dsimp only); (repeat (first | rw [up_s] | rw [up_n (by omega)])) <;> first | rfl | assumption) ?_
          refine ev_iret (pc := 180) dX12_now_180 rfl rfl (Nat.le_of_ble_eq_true rfl) (Nat.le_of_ble_eq_true rfl) ?_
          exact ⟨by (repeat (first | rw [if_pos ‹x.toInt = _›] | rw [if_neg ‹¬ x.toInt = 0›] | rw [if_neg ‹¬ x.toInt = 1›] | rw [if_neg ‹¬ x.toInt = 2›] | rw [if_neg ‹¬ x.toInt = 3›] | rw [if_neg ‹¬ x.toInt = 4›] | rw [if_neg ‹¬ x.toInt = 5›] | rw [if_neg ‹¬ x.toInt = 6›] | rw [if_neg ‹¬ x.toInt = 7›])), rfl⟩
        by_cases s92_6 : (x).toInt = 6
        · refine ev_tableIn (pc := 92) 181 dX12_now_92 (by omega) (by omega) (by rw [s92_6]; rfl) (by decide) ?_
          refine ev_iload_n (pc := 181) dX12_now_181 rfl ?_
          refine ev_iret (pc := 182) dX12_now_182 rfl rfl (Nat.le_of_ble_eq_true rfl) (Nat.le_of_ble_eq_true rfl) ?_
          exact ⟨by (repeat (first | rw [if_pos ‹x.toInt = _›] | rw [if_neg ‹¬ x.toInt = 0›] | rw [if_neg ‹¬ x.toInt = 1›] | rw [if_neg ‹¬ x.toInt = 2›] | rw [if_neg ‹¬ x.toInt = 3›] | rw [if_neg ‹¬ x.toInt = 4›] | rw [if_neg ‹¬ x.toInt = 5›] | rw [if_neg ‹¬ x.toInt = 6›] | rw [if_neg ‹¬ x.toInt = 7›])), rfl⟩
        by_cases s92_7 : (x).toInt = 7
        · refine ev_tableIn (pc := 92) 183 dX12_now_92 (by omega) (by omega) (by rw [s92_7]; rfl) (by decide) ?_
          refine ev_iload_n (pc := 183) dX12_now_183 rfl ?_
          refine ev_iret (pc := 184) dX12_now_184 rfl rfl (Nat.le_of_ble_eq_true rfl) (Nat.le_of_ble_eq_true rfl) ?_
          exact ⟨by (repeat (first | rw [if_pos ‹x.toInt = _›] | rw [if_neg ‹¬ x.toInt = 0›] | rw [if_neg ‹¬ x.toInt = 1›] | rw [if_neg ‹¬ x.toInt = 2›] | rw [if_neg ‹¬ x.toInt = 3›] | rw [if_neg ‹¬ x.toInt = 4›] | rw [if_neg ‹¬ x.toInt = 5›] | rw [if_neg ‹¬ x.toInt = 6›] | rw [if_neg ‹¬ x.toInt = 7›])), rfl⟩
        refine ev_tableOut (pc := 92) 185 dX12_now_92 (by omega) (by decide) ?_
        refine ev_iconst (pc := 185) (v := (-1)) dX12_now_185 kc_m1 ?_
        refine ev_iret (pc := 186) dX12_now_186 rfl rfl (Nat.le_of_ble_eq_true rfl) (Nat.le_of_ble_eq_true rfl) ?_
        exact ⟨by (repeat (first | rw [if_pos ‹x.toInt = _›] | rw [if_neg ‹¬ x.toInt = 0›] | rw [if_neg ‹¬ x.toInt = 1›] | rw [if_neg ‹¬ x.toInt = 2›] | rw [if_neg ‹¬ x.toInt = 3›] | rw [if_neg ‹¬ x.toInt = 4›] | rw [if_neg ‹¬ x.toInt = 5›] | rw [if_neg ‹¬ x.toInt = 6›] | rw [if_neg ‹¬ x.toInt = 7›])), rfl⟩
      · exfalso; (try simp (disch := omega) only [i32_lti, i32_lei, i32_eqi, nI_toInt, i32z] at c_13); omega
    | succ c ih =>
      intro t ht
      have q := ih (t + 1) (by omega)
      have e1 : endN N (t + 1) = endN N t ||| (if (tB N).testBit t = true ∧ gN (tF N) t = 0 then 1 <<< t else 0) := rfl
      have e2 : mayBN B N (t + 1) = mayBN B N t ||| (if mayN B N t = true then 1 <<< t else 0) := rfl
      have l1 := endN_lt N t (by omega)
      have l2 := mayBN_lt B N t (by omega)
      have l3 := bt_shl64 t (by omega)
      have hF := w.2.2.2.2.1 t
      rw [mayN_M] at e2
      by_cases hb : (tB N).testBit t = false
      · skip
        rw [if_neg (by rw [hb]; simp)] at e1
        refine ev_iload (pc := 7) dX12_now_7 rfl ?_
        refine ev_aload_n (pc := 9) dX12_now_9 rfl ?_
        refine gf_X12_137 (pc := 10) rfl dX12_now_10 (by (try dsimp only); (repeat (first | rw [up_s] | rw [up_n (by omega)])) <;> first | rfl | assumption) ?_
        refine ev_icmp_ge (pc := 13) 91 dX12_now_13 (by decide) (fun c_13 => ?_) (fun c_13 => ?_)
        · exfalso; (try simp (disch := omega) only [i32_lti, i32_lei, i32_eqi, nI_toInt, i32z] at c_13); omega
        · (try simp (disch := omega) only [i32_lti, i32_lei, i32_eqi, nI_toInt, i32z] at c_13)
          refine ev_iload_n (pc := 16) dX12_now_16 rfl ?_
          refine ev_aload_n (pc := 17) dX12_now_17 rfl ?_
          refine gf_X12_31 (pc := 18) rfl dX12_now_18 (by (try dsimp only); (repeat (first | rw [up_s] | rw [up_n (by omega)])) <;> first | rfl | assumption) ?_
          refine ev_bipush (pc := 21) (v := nI 16) dX12_now_21 kb_16 ?_
          refine ev_iload (pc := 23) dX12_now_23 rfl ?_
          refine ev_iadd (pc := 25) dX12_now_25 ?_
          (try rw [nI_add])
          refine ev_iald (pc := 26) dX12_now_26 (by (try dsimp only); (repeat (first | rw [up_s] | rw [up_n (by omega)])) <;> first | rfl | assumption) (nI_toInt (by omega)) (xg (by omega) ((eT_B _ (by omega)).trans (congrArg b2i hb))) ?_
          refine ev_iconst (pc := 27) (v := nI 1) dX12_now_27 kc_1 ?_
          refine ev_icmp_ne (pc := 28) 51 dX12_now_28 (by decide) (fun c_28 => ?_) (fun c_28 => ?_)
          · (try simp (disch := omega) only [i32_lti, i32_lei, i32_eqi, nI_toInt, i32z] at c_28)
            refine ev_iconst (pc := 51) (v := nI 0) dX12_now_51 kc_0 ?_
            refine ev_ior (pc := 52) dX12_now_52 ?_
            first | rw [bt_or _ l1 _ l3, ← e1] | rw [bt_or _ l1 0 (by omega), ← e1]
            refine ev_istore_n (pc := 53) (L' := [_, _, _, _, _]) dX12_now_53 (Nat.le_of_ble_eq_true rfl) rfl ?_
            refine ev_iload_n (pc := 54) dX12_now_54 rfl ?_
            refine ev_aload_n (pc := 55) dX12_now_55 rfl ?_
            refine iv_X12_181 (pc := 56) rfl dX12_now_56 (by (try dsimp only); (repeat (first | rw [up_s] | rw [up_n (by omega)])) <;> first | rfl | assumption) (Nat.le_of_ble_eq_true rfl) (Nat.le_of_ble_eq_true rfl) (Nat.le_of_ble_eq_true rfl) (Nat.le_of_ble_eq_true rfl) (c_mHas po pn w.2.2.2.2.2.1) (kp ?_)
            refine ev_if_eq (pc := 59) 82 dX12_now_59 (by decide) (fun c_59 => ?_) (fun c_59 => ?_)
            · simp only [b2i_e0, Bool.not_eq_false] at c_59
              rw [c_59, Bool.false_and, if_neg (by decide)] at e2
              refine ev_iconst (pc := 82) (v := nI 0) dX12_now_82 kc_0 ?_
              refine ev_ior (pc := 83) dX12_now_83 ?_
              first | rw [bt_or _ l2 _ l3, ← e2] | rw [bt_or _ l2 0 (by omega), ← e2]
              refine ev_istore_n (pc := 84) (L' := [_, _, _, _, _]) dX12_now_84 (Nat.le_of_ble_eq_true rfl) rfl ?_
              refine ev_iinc (pc := 85) (L' := [_, _, _, _, _]) dX12_now_85 rfl (nI_1 _) rfl ?_
              refine ev_goto (pc := 88) 7 dX12_now_88 (by decide) ?_
              exact q
            · simp only [b2i_e0, Bool.not_eq_false] at c_59
              rw [c_59, Bool.true_and] at e2
              refine ev_aload_n (pc := 62) dX12_now_62 rfl ?_
              refine ev_aload_n (pc := 63) dX12_now_63 rfl ?_
              refine gf_X12_31 (pc := 64) rfl dX12_now_64 (by (try dsimp only); (repeat (first | rw [up_s] | rw [up_n (by omega)])) <;> first | rfl | assumption) ?_
              refine ev_iload (pc := 67) dX12_now_67 rfl ?_
              refine iv_X12_184 (pc := 69) rfl dX12_now_69 (by (try dsimp only); (repeat (first | rw [up_s] | rw [up_n (by omega)])) <;> first | rfl | assumption) (Nat.le_of_ble_eq_true rfl) (Nat.le_of_ble_eq_true rfl) (Nat.le_of_ble_eq_true rfl) (Nat.le_of_ble_eq_true rfl) (c_mMayBegin po pb pn w h6 b9.2.2.2.2.1 b9.w (by omega)) (kp ?_)
              refine ev_if_eq (pc := 72) 82 dX12_now_72 (by decide) (fun c_72 => ?_) (fun c_72 => ?_)
              · simp only [b2i_e0, Bool.not_eq_false] at c_72
                rw [c_72, if_neg (by decide)] at e2
                refine ev_iconst (pc := 82) (v := nI 0) dX12_now_82 kc_0 ?_
                refine ev_ior (pc := 83) dX12_now_83 ?_
                first | rw [bt_or _ l2 _ l3, ← e2] | rw [bt_or _ l2 0 (by omega), ← e2]
                refine ev_istore_n (pc := 84) (L' := [_, _, _, _, _]) dX12_now_84 (Nat.le_of_ble_eq_true rfl) rfl ?_
                refine ev_iinc (pc := 85) (L' := [_, _, _, _, _]) dX12_now_85 rfl (nI_1 _) rfl ?_
                refine ev_goto (pc := 88) 7 dX12_now_88 (by decide) ?_
                exact q
              · simp only [b2i_e0, Bool.not_eq_false] at c_72
                rw [c_72, if_pos rfl] at e2
                refine ev_iconst (pc := 75) (v := nI 1) dX12_now_75 kc_1 ?_
                refine ev_iload (pc := 76) dX12_now_76 rfl ?_
                refine ev_ishl (pc := 78) dX12_now_78 ?_
                rw [bt_shl t (by omega)]
                refine ev_goto (pc := 79) 83 dX12_now_79 (by decide) ?_
                refine ev_ior (pc := 83) dX12_now_83 ?_
                first | rw [bt_or _ l2 _ l3, ← e2] | rw [bt_or _ l2 0 (by omega), ← e2]
                refine ev_istore_n (pc := 84) (L' := [_, _, _, _, _]) dX12_now_84 (Nat.le_of_ble_eq_true rfl) rfl ?_
                refine ev_iinc (pc := 85) (L' := [_, _, _, _, _]) dX12_now_85 rfl (nI_1 _) rfl ?_
                refine ev_goto (pc := 88) 7 dX12_now_88 (by decide) ?_
                exact q
          · exact absurd c_28 (by decide)
      · have hb2 : (tB N).testBit t = true := by simpa using hb
        refine ev_iload (pc := 7) dX12_now_7 rfl ?_
        refine ev_aload_n (pc := 9) dX12_now_9 rfl ?_
        refine gf_X12_137 (pc := 10) rfl dX12_now_10 (by (try dsimp only); (repeat (first | rw [up_s] | rw [up_n (by omega)])) <;> first | rfl | assumption) ?_
        refine ev_icmp_ge (pc := 13) 91 dX12_now_13 (by decide) (fun c_13 => ?_) (fun c_13 => ?_)
        · exfalso; (try simp (disch := omega) only [i32_lti, i32_lei, i32_eqi, nI_toInt, i32z] at c_13); omega
        · (try simp (disch := omega) only [i32_lti, i32_lei, i32_eqi, nI_toInt, i32z] at c_13)
          refine ev_iload_n (pc := 16) dX12_now_16 rfl ?_
          refine ev_aload_n (pc := 17) dX12_now_17 rfl ?_
          refine gf_X12_31 (pc := 18) rfl dX12_now_18 (by (try dsimp only); (repeat (first | rw [up_s] | rw [up_n (by omega)])) <;> first | rfl | assumption) ?_
          refine ev_bipush (pc := 21) (v := nI 16) dX12_now_21 kb_16 ?_
          refine ev_iload (pc := 23) dX12_now_23 rfl ?_
          refine ev_iadd (pc := 25) dX12_now_25 ?_
          (try rw [nI_add])
          refine ev_iald (pc := 26) dX12_now_26 (by (try dsimp only); (repeat (first | rw [up_s] | rw [up_n (by omega)])) <;> first | rfl | assumption) (nI_toInt (by omega)) (xg (by omega) ((eT_B _ (by omega)).trans (congrArg b2i hb2))) ?_
          refine ev_iconst (pc := 27) (v := nI 1) dX12_now_27 kc_1 ?_
          refine ev_icmp_ne (pc := 28) 51 dX12_now_28 (by decide) (fun c_28 => ?_) (fun c_28 => ?_)
          · exact absurd rfl c_28
          · (try simp (disch := omega) only [i32_lti, i32_lei, i32_eqi, nI_toInt, i32z] at c_28)
            refine ev_aload_n (pc := 31) dX12_now_31 rfl ?_
            refine gf_X12_31 (pc := 32) rfl dX12_now_32 (by (try dsimp only); (repeat (first | rw [up_s] | rw [up_n (by omega)])) <;> first | rfl | assumption) ?_
            refine ev_bipush (pc := 35) (v := nI 10) dX12_now_35 kb_10 ?_
            refine ev_iload (pc := 37) dX12_now_37 rfl ?_
            refine ev_iadd (pc := 39) dX12_now_39 ?_
            (try rw [nI_add])
            refine ev_iald (pc := 40) dX12_now_40 (by (try dsimp only); (repeat (first | rw [up_s] | rw [up_n (by omega)])) <;> first | rfl | assumption) (nI_toInt (by omega)) (x_F (by omega)) ?_
            refine ev_if_ne (pc := 41) 51 dX12_now_41 (by decide) (fun c_41 => ?_) (fun c_41 => ?_)
            · (try simp (disch := omega) only [i32_lti, i32_lei, i32_eqi, nI_toInt, i32z] at c_41)
              rw [if_neg (fun q9 => by omega)] at e1
              refine ev_iconst (pc := 51) (v := nI 0) dX12_now_51 kc_0 ?_
              refine ev_ior (pc := 52) dX12_now_52 ?_
              first | rw [bt_or _ l1 _ l3, ← e1] | rw [bt_or _ l1 0 (by omega), ← e1]
              refine ev_istore_n (pc := 53) (L' := [_, _, _, _, _]) dX12_now_53 (Nat.le_of_ble_eq_true rfl) rfl ?_
              refine ev_iload_n (pc := 54) dX12_now_54 rfl ?_
              refine ev_aload_n (pc := 55) dX12_now_55 rfl ?_
              refine iv_X12_181 (pc := 56) rfl dX12_now_56 (by (try dsimp only); (repeat (first | rw [up_s] | rw [up_n (by omega)])) <;> first | rfl | assumption) (Nat.le_of_ble_eq_true rfl) (Nat.le_of_ble_eq_true rfl) (Nat.le_of_ble_eq_true rfl) (Nat.le_of_ble_eq_true rfl) (c_mHas po pn w.2.2.2.2.2.1) (kp ?_)
              refine ev_if_eq (pc := 59) 82 dX12_now_59 (by decide) (fun c_59 => ?_) (fun c_59 => ?_)
              · simp only [b2i_e0, Bool.not_eq_false] at c_59
                rw [c_59, Bool.false_and, if_neg (by decide)] at e2
                refine ev_iconst (pc := 82) (v := nI 0) dX12_now_82 kc_0 ?_
                refine ev_ior (pc := 83) dX12_now_83 ?_
                first | rw [bt_or _ l2 _ l3, ← e2] | rw [bt_or _ l2 0 (by omega), ← e2]
                refine ev_istore_n (pc := 84) (L' := [_, _, _, _, _]) dX12_now_84 (Nat.le_of_ble_eq_true rfl) rfl ?_
                refine ev_iinc (pc := 85) (L' := [_, _, _, _, _]) dX12_now_85 rfl (nI_1 _) rfl ?_
                refine ev_goto (pc := 88) 7 dX12_now_88 (by decide) ?_
                exact q
              · simp only [b2i_e0, Bool.not_eq_false] at c_59
                rw [c_59, Bool.true_and] at e2
                refine ev_aload_n (pc := 62) dX12_now_62 rfl ?_
                refine ev_aload_n (pc := 63) dX12_now_63 rfl ?_
                refine gf_X12_31 (pc := 64) rfl dX12_now_64 (by (try dsimp only); (repeat (first | rw [up_s] | rw [up_n (by omega)])) <;> first | rfl | assumption) ?_
                refine ev_iload (pc := 67) dX12_now_67 rfl ?_
                refine iv_X12_184 (pc := 69) rfl dX12_now_69 (by (try dsimp only); (repeat (first | rw [up_s] | rw [up_n (by omega)])) <;> first | rfl | assumption) (Nat.le_of_ble_eq_true rfl) (Nat.le_of_ble_eq_true rfl) (Nat.le_of_ble_eq_true rfl) (Nat.le_of_ble_eq_true rfl) (c_mMayBegin po pb pn w h6 b9.2.2.2.2.1 b9.w (by omega)) (kp ?_)
                refine ev_if_eq (pc := 72) 82 dX12_now_72 (by decide) (fun c_72 => ?_) (fun c_72 => ?_)
                · simp only [b2i_e0, Bool.not_eq_false] at c_72
                  rw [c_72, if_neg (by decide)] at e2
                  refine ev_iconst (pc := 82) (v := nI 0) dX12_now_82 kc_0 ?_
                  refine ev_ior (pc := 83) dX12_now_83 ?_
                  first | rw [bt_or _ l2 _ l3, ← e2] | rw [bt_or _ l2 0 (by omega), ← e2]
                  refine ev_istore_n (pc := 84) (L' := [_, _, _, _, _]) dX12_now_84 (Nat.le_of_ble_eq_true rfl) rfl ?_
                  refine ev_iinc (pc := 85) (L' := [_, _, _, _, _]) dX12_now_85 rfl (nI_1 _) rfl ?_
                  refine ev_goto (pc := 88) 7 dX12_now_88 (by decide) ?_
                  exact q
                · simp only [b2i_e0, Bool.not_eq_false] at c_72
                  rw [c_72, if_pos rfl] at e2
                  refine ev_iconst (pc := 75) (v := nI 1) dX12_now_75 kc_1 ?_
                  refine ev_iload (pc := 76) dX12_now_76 rfl ?_
                  refine ev_ishl (pc := 78) dX12_now_78 ?_
                  rw [bt_shl t (by omega)]
                  refine ev_goto (pc := 79) 83 dX12_now_79 (by decide) ?_
                  refine ev_ior (pc := 83) dX12_now_83 ?_
                  first | rw [bt_or _ l2 _ l3, ← e2] | rw [bt_or _ l2 0 (by omega), ← e2]
                  refine ev_istore_n (pc := 84) (L' := [_, _, _, _, _]) dX12_now_84 (Nat.le_of_ble_eq_true rfl) rfl ?_
                  refine ev_iinc (pc := 85) (L' := [_, _, _, _, _]) dX12_now_85 rfl (nI_1 _) rfl ?_
                  refine ev_goto (pc := 88) 7 dX12_now_88 (by decide) ?_
                  exact q
            · (try simp (disch := omega) only [i32_lti, i32_lei, i32_eqi, nI_toInt, i32z] at c_41)
              rw [if_pos ⟨hb2, by omega⟩] at e1
              refine ev_iconst (pc := 44) (v := nI 1) dX12_now_44 kc_1 ?_
              refine ev_iload (pc := 45) dX12_now_45 rfl ?_
              refine ev_ishl (pc := 47) dX12_now_47 ?_
              rw [bt_shl t (by omega)]
              refine ev_goto (pc := 48) 52 dX12_now_48 (by decide) ?_
              refine ev_ior (pc := 52) dX12_now_52 ?_
              first | rw [bt_or _ l1 _ l3, ← e1] | rw [bt_or _ l1 0 (by omega), ← e1]
              refine ev_istore_n (pc := 53) (L' := [_, _, _, _, _]) dX12_now_53 (Nat.le_of_ble_eq_true rfl) rfl ?_
              refine ev_iload_n (pc := 54) dX12_now_54 rfl ?_
              refine ev_aload_n (pc := 55) dX12_now_55 rfl ?_
              refine iv_X12_181 (pc := 56) rfl dX12_now_56 (by (try dsimp only); (repeat (first | rw [up_s] | rw [up_n (by omega)])) <;> first | rfl | assumption) (Nat.le_of_ble_eq_true rfl) (Nat.le_of_ble_eq_true rfl) (Nat.le_of_ble_eq_true rfl) (Nat.le_of_ble_eq_true rfl) (c_mHas po pn w.2.2.2.2.2.1) (kp ?_)
              refine ev_if_eq (pc := 59) 82 dX12_now_59 (by decide) (fun c_59 => ?_) (fun c_59 => ?_)
              · simp only [b2i_e0, Bool.not_eq_false] at c_59
                rw [c_59, Bool.false_and, if_neg (by decide)] at e2
                refine ev_iconst (pc := 82) (v := nI 0) dX12_now_82 kc_0 ?_
                refine ev_ior (pc := 83) dX12_now_83 ?_
                first | rw [bt_or _ l2 _ l3, ← e2] | rw [bt_or _ l2 0 (by omega), ← e2]
                refine ev_istore_n (pc := 84) (L' := [_, _, _, _, _]) dX12_now_84 (Nat.le_of_ble_eq_true rfl) rfl ?_
                refine ev_iinc (pc := 85) (L' := [_, _, _, _, _]) dX12_now_85 rfl (nI_1 _) rfl ?_
                refine ev_goto (pc := 88) 7 dX12_now_88 (by decide) ?_
                exact q
              · simp only [b2i_e0, Bool.not_eq_false] at c_59
                rw [c_59, Bool.true_and] at e2
                refine ev_aload_n (pc := 62) dX12_now_62 rfl ?_
                refine ev_aload_n (pc := 63) dX12_now_63 rfl ?_
                refine gf_X12_31 (pc := 64) rfl dX12_now_64 (by (try dsimp only); (repeat (first | rw [up_s] | rw [up_n (by omega)])) <;> first | rfl | assumption) ?_
                refine ev_iload (pc := 67) dX12_now_67 rfl ?_
                refine iv_X12_184 (pc := 69) rfl dX12_now_69 (by (try dsimp only); (repeat (first | rw [up_s] | rw [up_n (by omega)])) <;> first | rfl | assumption) (Nat.le_of_ble_eq_true rfl) (Nat.le_of_ble_eq_true rfl) (Nat.le_of_ble_eq_true rfl) (Nat.le_of_ble_eq_true rfl) (c_mMayBegin po pb pn w h6 b9.2.2.2.2.1 b9.w (by omega)) (kp ?_)
                refine ev_if_eq (pc := 72) 82 dX12_now_72 (by decide) (fun c_72 => ?_) (fun c_72 => ?_)
                · simp only [b2i_e0, Bool.not_eq_false] at c_72
                  rw [c_72, if_neg (by decide)] at e2
                  refine ev_iconst (pc := 82) (v := nI 0) dX12_now_82 kc_0 ?_
                  refine ev_ior (pc := 83) dX12_now_83 ?_
                  first | rw [bt_or _ l2 _ l3, ← e2] | rw [bt_or _ l2 0 (by omega), ← e2]
                  refine ev_istore_n (pc := 84) (L' := [_, _, _, _, _]) dX12_now_84 (Nat.le_of_ble_eq_true rfl) rfl ?_
                  refine ev_iinc (pc := 85) (L' := [_, _, _, _, _]) dX12_now_85 rfl (nI_1 _) rfl ?_
                  refine ev_goto (pc := 88) 7 dX12_now_88 (by decide) ?_
                  exact q
                · simp only [b2i_e0, Bool.not_eq_false] at c_72
                  rw [c_72, if_pos rfl] at e2
                  refine ev_iconst (pc := 75) (v := nI 1) dX12_now_75 kc_1 ?_
                  refine ev_iload (pc := 76) dX12_now_76 rfl ?_
                  refine ev_ishl (pc := 78) dX12_now_78 ?_
                  rw [bt_shl t (by omega)]
                  refine ev_goto (pc := 79) 83 dX12_now_79 (by decide) ?_
                  refine ev_ior (pc := 83) dX12_now_83 ?_
                  first | rw [bt_or _ l2 _ l3, ← e2] | rw [bt_or _ l2 0 (by omega), ← e2]
                  refine ev_istore_n (pc := 84) (L' := [_, _, _, _, _]) dX12_now_84 (Nat.le_of_ble_eq_true rfl) rfl ?_
                  refine ev_iinc (pc := 85) (L' := [_, _, _, _, _]) dX12_now_85 rfl (nI_1 _) rfl ?_
                  refine ev_goto (pc := 88) 7 dX12_now_88 (by decide) ?_
                  exact q
  refine ev_iconst (pc := 0) (v := nI 0) dX12_now_0 kc_0 ?_
  refine ev_istore_n (pc := 1) (L' := [_, _, _, _, _]) dX12_now_1 (Nat.le_of_ble_eq_true rfl) rfl ?_
  refine ev_iconst (pc := 2) (v := nI 0) dX12_now_2 kc_0 ?_
  refine ev_istore_n (pc := 3) (L' := [_, _, _, _, _]) dX12_now_3 (Nat.le_of_ble_eq_true rfl) rfl ?_
  refine ev_iconst (pc := 4) (v := nI 0) dX12_now_4 kc_0 ?_
  refine ev_istore (pc := 5) (L' := [_, _, _, _, _]) dX12_now_5 (Nat.le_of_ble_eq_true rfl) rfl ?_
  exact loop (bT B) 0 (by omega)
theorem c_M_mark_bad (p : pM h m cs B N P I J wn op n tr) (b9 : wB mx B) {k t : Int32} (hk : ¬ ((0 ≤ k.toInt ∧ k.toInt < 6) ∧ iTn (bT B) t = true)) : Ct X 2 mt_X12_mark [.ref m, .int k, .int t] (h, z) 0 0 (QP (.int (-1000000)) (h, z)) := by
  obtain ⟨⟨at_, bg, tk, td, rt, rn, rm, rd, mn, bd, br, po⟩, -⟩ := id p
  refine mk_X12_mark (Nat.le_of_ble_eq_true rfl) (L := [.ref m, .int k, .int t, .retAddr 0, .retAddr 0, .retAddr 0]) rfl ?_
  refine ev_iload_n (pc := 0) dX12_mark_0 rfl ?_
  refine ev_i2l (pc := 1) dX12_mark_1 ?_
  refine ev_lconst (pc := 2) (v := 0) dX12_mark_2 kl_0 ?_
  refine ev_ldc2_w (pc := 3) dX12_mark_3 tw_1170 ?_
  refine iv_X12_63 (pc := 6) rfl dX12_mark_6 (Nat.le_of_ble_eq_true rfl) (Nat.le_of_ble_eq_true rfl) (Nat.le_of_ble_eq_true rfl) (Nat.le_of_ble_eq_true rfl) (c_in _ _ _) (kp ?_)
  refine ev_if_eq (pc := 9) 20 dX12_mark_9 (by decide) (fun c_9 => ?_) (fun c_9 => ?_)
  · simp only [b2i_e0, Bool.not_eq_false] at c_9
    refine ev_ldc (pc := 20) dX12_mark_20 tw_1171 ?_
    refine ev_iret (pc := 22) dX12_mark_22 rfl rfl (Nat.le_of_ble_eq_true rfl) (Nat.le_of_ble_eq_true rfl) ?_
    exact ⟨rfl, rfl⟩
  · simp only [b2i_e0, Bool.not_eq_false] at c_9
    rw [decide_eq_true_eq, Int32.toInt_toInt64] at c_9
    replace c_9 : 0 ≤ k.toInt ∧ k.toInt ≤ 5 := c_9
    refine ev_aload_n (pc := 12) dX12_mark_12 rfl ?_
    refine ev_iload_n (pc := 13) dX12_mark_13 rfl ?_
    refine iv_X12_176 (pc := 14) rfl dX12_mark_14 (by (try dsimp only); (repeat (first | rw [up_s] | rw [up_n (by omega)])) <;> first | rfl | assumption) (Nat.le_of_ble_eq_true rfl) (Nat.le_of_ble_eq_true rfl) (Nat.le_of_ble_eq_true rfl) (Nat.le_of_ble_eq_true rfl) (c_mIsTale po b9.1 t) (kp ?_)
    rw [show iTn (bT B) t = false by cases e : iTn (bT B) t with | false => rfl | true => exact absurd ⟨⟨by omega, by omega⟩, e⟩ hk]
    refine ev_if_ne (pc := 17) 23 dX12_mark_17 (by decide) (fun c_17 => ?_) (fun c_17 => ?_)
    · exact absurd rfl c_17
    · (try simp (disch := omega) only [i32_lti, i32_lei, i32_eqi, nI_toInt, i32z] at c_17)
      refine ev_ldc (pc := 20) dX12_mark_20 tw_1171 ?_
      refine ev_iret (pc := 22) dX12_mark_22 rfl rfl (Nat.le_of_ble_eq_true rfl) (Nat.le_of_ble_eq_true rfl) ?_
      exact ⟨rfl, rfl⟩
theorem pM.mo {tr' : Int64} {h' : Hp} (p : pM h m cs B N P I J wn op n tr) (e : ∀ q : Nat, q ≠ m → h' q = h q) (o : pMo h' m cs B N P n tr') : pM h' m cs B N P I J wn op n tr' := by
  obtain ⟨-, px, pr, pb, pn, pq, ⟨pu, pl⟩, por, ph, pk⟩ := p
  exact ⟨o, px.fr (e _ (by omega)), pr.fr (fun q a b => e q (by omega)), pb.fr (fun q a b => e q (by omega)), (e _ (by omega)).trans pn, pq.fr (e _ (by omega)), ⟨pu.fr (e _ (by omega)), pl⟩, por.fr (fun q a b => e q (by omega)), ph.fr (fun q a b => e q (by omega)), pk.fr (e _ (by omega))⟩
theorem tW_s (B : Bk) (t i : Nat) : tW B t (i + 1) = tW B t i + (if gN (bW B) i = t then 1 else 0) := rfl
theorem c_M_mark0 (p : pM h m cs B N P I J wn op n tr) (b9 : wB mx B) (g : wT N) {t : Nat} (ht : t < bT B) : Ct X 2 mt_X12_mark [.ref m, .int (nI 0), .int (nI t)] (h, z) 0 0 (Qi (fun r S' => r = aMark B N t 0 ∧ S'.2 = z ∧ hfr h S'.1 m 17 ∧ pM S'.1 m cs B N P I J wn op n (tr + trK 0))) := by
  obtain ⟨⟨at_, bg, tk, td, rt, rn, rm, rd, mn, bd, br, po⟩, px, pr, ⟨fp, fw, fh, b1, b2, b3, b4, b5⟩, pn, -⟩ := id p
  have po' := po
  unfold pMO at po'
  unfold pRw at pn
  have h6 := b9.1
  refine mk_X12_mark (Nat.le_of_ble_eq_true rfl) (L := [.ref m, .int (nI 0), .int (nI t), .retAddr 0, .retAddr 0, .retAddr 0]) rfl ?_
  have loop : ∀ (h1 : Hp), (∀ q : Nat, q ≠ m → h1 q = h q) → pMO h1 m (nI cs.length) at_ bg tk td rt rn rm rd (nI (bT B)) (nI (bK B)) (nI (bM B)) (nI (bD B)) (nI 0) (nI (tS N)) (nI P.length) mn bd br (nI n) (tr + trK 0) → ∀ (c i : Nat), i + c = bT B → Ev X (mi_X12_mark 2 0 0) (Qi (fun r S' => r = aMark B N t 0 ∧ S'.2 = z ∧ hfr h S'.1 m 17 ∧ pM S'.1 m cs B N P I J wn op n (tr + trK 0))) 0 0 (h1, z) 103 [.ref m, .int (nI 0), .int (nI t), .int (nI (gN (tF N) t)), .int (nI (tW B t i)), .int (nI i)] [] := by
    intro h1 f1 o1 c
    have o1' := o1
    unfold pMO at o1'
    have a1 := (f1 (m + 8) (by omega)).trans pn
    have a2 := (f1 (m + 5) (by omega)).trans b1
    have a3 := (f1 (m + 6) (by omega)).trans b2
    induction c with
    | zero =>
      intro i hi
      have ei : i = bT B := by omega
      subst ei
      refine ev_iload (pc := 103) dX12_mark_103 rfl ?_
      refine ev_aload_n (pc := 105) dX12_mark_105 rfl ?_
      refine gf_X12_137 (pc := 106) rfl dX12_mark_106 (by (try dsimp only); (repeat (first | rw [up_s] | rw [up_n (by omega)])) <;> first | rfl | assumption) ?_
      refine ev_icmp_ge (pc := 109) 139 dX12_mark_109 (by decide) (fun c_109 => ?_) (fun c_109 => ?_)
      · (try simp (disch := omega) only [i32_lti, i32_lei, i32_eqi, nI_toInt, i32z] at c_109)
        refine ev_iload_n (pc := 139) dX12_mark_139 rfl ?_
        by_cases s140_0 : (nI 0).toInt = 0
        · refine ev_tableIn (pc := 140) 176 dX12_mark_140 (by omega) (by omega) (by rw [s140_0]; rfl) (by decide) ?_
          refine ev_iload_n (pc := 176) dX12_mark_176 rfl ?_
          refine ev_iret (pc := 177) dX12_mark_177 rfl rfl (Nat.le_of_ble_eq_true rfl) (Nat.le_of_ble_eq_true rfl) ?_
          first | exact absurd rfl ‹¬ (nI 0).toInt = 0› | exact absurd ‹(nI 0).toInt = _› (by decide) | exact ⟨_, rfl, rfl, rfl, (fun q a => f1 q (by omega)), p.mo (fun q a => f1 q a) ⟨at_, bg, tk, td, rt, rn, rm, rd, mn, bd, br, o1⟩⟩
        by_cases s140_1 : (nI 0).toInt = 1
        · refine ev_tableIn (pc := 140) 178 dX12_mark_140 (by omega) (by omega) (by rw [s140_1]; rfl) (by decide) ?_
          refine ev_iload_n (pc := 178) dX12_mark_178 rfl ?_
          refine ev_aload_n (pc := 179) dX12_mark_179 rfl ?_
          refine gf_X12_22 (pc := 180) rfl dX12_mark_180 (by (try dsimp only); (repeat (first | rw [up_s] | rw [up_n (by omega)])) <;> first | rfl | assumption) ?_
          refine ev_iload_n (pc := 183) dX12_mark_183 rfl ?_
          refine ev_iald (pc := 184) dX12_mark_184 (by (try dsimp only); (repeat (first | rw [up_s] | rw [up_n (by omega)])) <;> first | rfl | assumption) (nI_toInt (by omega)) (xg (by omega) (b4 t ht).1) ?_
          refine ev_iadd (pc := 185) dX12_mark_185 ?_
          skip
          refine ev_iret (pc := 186) dX12_mark_186 rfl rfl (Nat.le_of_ble_eq_true rfl) (Nat.le_of_ble_eq_true rfl) ?_
          first | exact absurd rfl ‹¬ (nI 0).toInt = 0› | exact absurd ‹(nI 0).toInt = _› (by decide) | exact ⟨_, rfl, rfl, rfl, (fun q a => f1 q (by omega)), p.mo (fun q a => f1 q a) ⟨at_, bg, tk, td, rt, rn, rm, rd, mn, bd, br, o1⟩⟩
        by_cases s140_2 : (nI 0).toInt = 2
        · refine ev_tableIn (pc := 140) 187 dX12_mark_140 (by omega) (by omega) (by rw [s140_2]; rfl) (by decide) ?_
          refine ev_iload_n (pc := 187) dX12_mark_187 rfl ?_
          refine ev_iload (pc := 188) dX12_mark_188 rfl ?_
          refine ev_isub (pc := 190) dX12_mark_190 ?_
          refine ev_iret (pc := 191) dX12_mark_191 rfl rfl (Nat.le_of_ble_eq_true rfl) (Nat.le_of_ble_eq_true rfl) ?_
          first | exact absurd rfl ‹¬ (nI 0).toInt = 0› | exact absurd ‹(nI 0).toInt = _› (by decide) | exact ⟨_, rfl, rfl, rfl, (fun q a => f1 q (by omega)), p.mo (fun q a => f1 q a) ⟨at_, bg, tk, td, rt, rn, rm, rd, mn, bd, br, o1⟩⟩
        by_cases s140_3 : (nI 0).toInt = 3
        · refine ev_tableIn (pc := 140) 192 dX12_mark_140 (by omega) (by omega) (by rw [s140_3]; rfl) (by decide) ?_
          refine ev_iconst (pc := 192) (v := nI 2) dX12_mark_192 kc_2 ?_
          refine ev_iload_n (pc := 193) dX12_mark_193 rfl ?_
          refine ev_aload_n (pc := 194) dX12_mark_194 rfl ?_
          refine gf_X12_22 (pc := 195) rfl dX12_mark_195 (by (try dsimp only); (repeat (first | rw [up_s] | rw [up_n (by omega)])) <;> first | rfl | assumption) ?_
          refine ev_iload_n (pc := 198) dX12_mark_198 rfl ?_
          refine ev_iald (pc := 199) dX12_mark_199 (by (try dsimp only); (repeat (first | rw [up_s] | rw [up_n (by omega)])) <;> first | rfl | assumption) (nI_toInt (by omega)) (xg (by omega) (b4 t ht).1) ?_
          refine ev_iadd (pc := 200) dX12_mark_200 ?_
          skip
          refine ev_imul (pc := 201) dX12_mark_201 ?_
          refine ev_iret (pc := 202) dX12_mark_202 rfl rfl (Nat.le_of_ble_eq_true rfl) (Nat.le_of_ble_eq_true rfl) ?_
          first | exact absurd rfl ‹¬ (nI 0).toInt = 0› | exact absurd ‹(nI 0).toInt = _› (by decide) | exact ⟨_, rfl, rfl, rfl, (fun q a => f1 q (by omega)), p.mo (fun q a => f1 q a) ⟨at_, bg, tk, td, rt, rn, rm, rd, mn, bd, br, o1⟩⟩
        by_cases s140_4 : (nI 0).toInt = 4
        · refine ev_tableIn (pc := 140) 203 dX12_mark_140 (by omega) (by omega) (by rw [s140_4]; rfl) (by decide) ?_
          refine ev_iload_n (pc := 203) dX12_mark_203 rfl ?_
          refine ev_iload (pc := 204) dX12_mark_204 rfl ?_
          refine ev_isub (pc := 206) dX12_mark_206 ?_
          refine ev_aload_n (pc := 207) dX12_mark_207 rfl ?_
          refine gf_X12_31 (pc := 208) rfl dX12_mark_208 (by (try dsimp only); (repeat (first | rw [up_s] | rw [up_n (by omega)])) <;> first | rfl | assumption) ?_
          refine ev_iconst (pc := 211) (v := nI 2) dX12_mark_211 kc_2 ?_
          refine ev_iald (pc := 212) dX12_mark_212 (by (try dsimp only); (repeat (first | rw [up_s] | rw [up_n (by omega)])) <;> first | rfl | assumption) (nI_toInt (by omega)) (x_2 _) ?_
          refine ev_iadd (pc := 213) dX12_mark_213 ?_
          skip
          refine ev_iret (pc := 214) dX12_mark_214 rfl rfl (Nat.le_of_ble_eq_true rfl) (Nat.le_of_ble_eq_true rfl) ?_
          first | exact absurd rfl ‹¬ (nI 0).toInt = 0› | exact absurd ‹(nI 0).toInt = _› (by decide) | exact ⟨_, rfl, rfl, rfl, (fun q a => f1 q (by omega)), p.mo (fun q a => f1 q a) ⟨at_, bg, tk, td, rt, rn, rm, rd, mn, bd, br, o1⟩⟩
        refine ev_tableOut (pc := 140) 215 dX12_mark_140 (by omega) (by decide) ?_
        refine ev_iload_n (pc := 215) dX12_mark_215 rfl ?_
        refine ev_aload_n (pc := 216) dX12_mark_216 rfl ?_
        refine gf_X12_31 (pc := 217) rfl dX12_mark_217 (by (try dsimp only); (repeat (first | rw [up_s] | rw [up_n (by omega)])) <;> first | rfl | assumption) ?_
        refine ev_iconst (pc := 220) (v := nI 0) dX12_mark_220 kc_0 ?_
        refine ev_iald (pc := 221) dX12_mark_221 (by (try dsimp only); (repeat (first | rw [up_s] | rw [up_n (by omega)])) <;> first | rfl | assumption) (nI_toInt (by omega)) (x_0 _) ?_
        refine ev_iadd (pc := 222) dX12_mark_222 ?_
        skip
        refine ev_iret (pc := 223) dX12_mark_223 rfl rfl (Nat.le_of_ble_eq_true rfl) (Nat.le_of_ble_eq_true rfl) ?_
        first | exact absurd rfl ‹¬ (nI 0).toInt = 0› | exact absurd ‹(nI 0).toInt = _› (by decide) | exact ⟨_, rfl, rfl, rfl, (fun q a => f1 q (by omega)), p.mo (fun q a => f1 q a) ⟨at_, bg, tk, td, rt, rn, rm, rd, mn, bd, br, o1⟩⟩
      · exfalso; (try simp (disch := omega) only [i32_lti, i32_lei, i32_eqi, nI_toInt, i32z] at c_109); omega
    | succ c ih =>
      intro i hi
      have hw := (b9.2.2.2.2.2.1 i (by omega)).2.2
      have q := ih (i + 1) (by omega)
      rw [tW_s] at q
      refine ev_iload (pc := 103) dX12_mark_103 rfl ?_
      refine ev_aload_n (pc := 105) dX12_mark_105 rfl ?_
      refine gf_X12_137 (pc := 106) rfl dX12_mark_106 (by (try dsimp only); (repeat (first | rw [up_s] | rw [up_n (by omega)])) <;> first | rfl | assumption) ?_
      refine ev_icmp_ge (pc := 109) 139 dX12_mark_109 (by decide) (fun c_109 => ?_) (fun c_109 => ?_)
      · exfalso; (try simp (disch := omega) only [i32_lti, i32_lei, i32_eqi, nI_toInt, i32z] at c_109); omega
      · (try simp (disch := omega) only [i32_lti, i32_lei, i32_eqi, nI_toInt, i32z] at c_109)
        refine ev_iload (pc := 112) dX12_mark_112 rfl ?_
        refine ev_aload_n (pc := 114) dX12_mark_114 rfl ?_
        refine gf_X12_25 (pc := 115) rfl dX12_mark_115 (by (try dsimp only); (repeat (first | rw [up_s] | rw [up_n (by omega)])) <;> first | rfl | assumption) ?_
        refine ev_iload (pc := 118) dX12_mark_118 rfl ?_
        refine ev_iald (pc := 120) dX12_mark_120 (by (try dsimp only); (repeat (first | rw [up_s] | rw [up_n (by omega)])) <;> first | rfl | assumption) (nI_toInt (by omega)) (xg (by omega) (b4 i (by omega)).2) ?_
        refine ev_iload_n (pc := 121) dX12_mark_121 rfl ?_
        refine ev_icmp_ne (pc := 122) 129 dX12_mark_122 (by decide) (fun c_122 => ?_) (fun c_122 => ?_)
        · (try simp (disch := omega) only [i32_lti, i32_lei, i32_eqi, nI_toInt, i32z] at c_122)
          rw [if_neg (by omega)] at q
          refine ev_iconst (pc := 129) (v := nI 0) dX12_mark_129 kc_0 ?_
          refine ev_iadd (pc := 130) dX12_mark_130 ?_
          (try rw [nI_add])
          refine ev_istore (pc := 131) (L' := [_, _, _, _, _, _]) dX12_mark_131 (Nat.le_of_ble_eq_true rfl) rfl ?_
          refine ev_iinc (pc := 133) (L' := [_, _, _, _, _, _]) dX12_mark_133 rfl (nI_1 _) rfl ?_
          refine ev_goto (pc := 136) 103 dX12_mark_136 (by decide) ?_
          exact q
        · (try simp (disch := omega) only [i32_lti, i32_lei, i32_eqi, nI_toInt, i32z] at c_122)
          rw [if_pos (by omega)] at q
          refine ev_iconst (pc := 125) (v := nI 1) dX12_mark_125 kc_1 ?_
          refine ev_goto (pc := 126) 130 dX12_mark_126 (by decide) ?_
          refine ev_iadd (pc := 130) dX12_mark_130 ?_
          (try rw [nI_add])
          refine ev_istore (pc := 131) (L' := [_, _, _, _, _, _]) dX12_mark_131 (Nat.le_of_ble_eq_true rfl) rfl ?_
          refine ev_iinc (pc := 133) (L' := [_, _, _, _, _, _]) dX12_mark_133 rfl (nI_1 _) rfl ?_
          refine ev_goto (pc := 136) 103 dX12_mark_136 (by decide) ?_
          exact q
  refine ev_iload_n (pc := 0) dX12_mark_0 rfl ?_
  refine ev_i2l (pc := 1) dX12_mark_1 ?_
  refine ev_lconst (pc := 2) (v := 0) dX12_mark_2 kl_0 ?_
  refine ev_ldc2_w (pc := 3) dX12_mark_3 tw_1170 ?_
  refine iv_X12_63 (pc := 6) rfl dX12_mark_6 (Nat.le_of_ble_eq_true rfl) (Nat.le_of_ble_eq_true rfl) (Nat.le_of_ble_eq_true rfl) (Nat.le_of_ble_eq_true rfl) (c_in _ _ _) (kp ?_)
  rw [in_t (a := 0) (b := 5) (by omega) (by omega) _ _ rfl rfl]
  refine ev_if_eq (pc := 9) 20 dX12_mark_9 (by decide) (fun c_9 => ?_) (fun c_9 => ?_)
  · exact absurd c_9 (by decide)
  · (try simp (disch := omega) only [i32_lti, i32_lei, i32_eqi, nI_toInt, i32z] at c_9)
    refine ev_aload_n (pc := 12) dX12_mark_12 rfl ?_
    refine ev_iload_n (pc := 13) dX12_mark_13 rfl ?_
    refine iv_X12_176 (pc := 14) rfl dX12_mark_14 (by (try dsimp only); (repeat (first | rw [up_s] | rw [up_n (by omega)])) <;> first | rfl | assumption) (Nat.le_of_ble_eq_true rfl) (Nat.le_of_ble_eq_true rfl) (Nat.le_of_ble_eq_true rfl) (Nat.le_of_ble_eq_true rfl) (c_mIsTale po h6 (nI t)) (kp ?_)
    rw [iTn_nI (by omega), decide_eq_true ht]
    refine ev_if_ne (pc := 17) 23 dX12_mark_17 (by decide) (fun c_17 => ?_) (fun c_17 => ?_)
    · (try simp (disch := omega) only [i32_lti, i32_lei, i32_eqi, nI_toInt, i32z] at c_17)
      refine ev_aload_n (pc := 23) dX12_mark_23 rfl ?_
      refine ev_dup (pc := 24) dX12_mark_24 rfl ?_
      refine gf_X12_245 (pc := 25) rfl dX12_mark_25 (by (try dsimp only); (repeat (first | rw [up_s] | rw [up_n (by omega)])) <;> first | rfl | assumption) ?_
      refine ev_iload_n (pc := 28) dX12_mark_28 rfl ?_
      refine ev_if_ne (pc := 29) 36 dX12_mark_29 (by decide) (fun c_29 => ?_) (fun c_29 => ?_)
      · exact absurd c_29 (by decide)
      · (try simp (disch := omega) only [i32_lti, i32_lei, i32_eqi, nI_toInt, i32z] at c_29)
        refine ev_lconst (pc := 32) (v := 1) dX12_mark_32 kl_1 ?_
        refine ev_goto (pc := 33) 83 dX12_mark_33 (by decide) ?_
        refine ev_ladd (pc := 83) dX12_mark_83 ?_
        rw [show (1 : Int64) = trK 0 from rfl]
        refine pf_X12_245 (pc := 84) rfl dX12_mark_84 (by (try dsimp only); (repeat (first | rw [up_s] | rw [up_n (by omega)])) <;> first | rfl | assumption) ?_
        refine ev_aload_n (pc := 87) dX12_mark_87 rfl ?_
        refine gf_X12_31 (pc := 88) rfl dX12_mark_88 (by (try dsimp only); (repeat (first | rw [up_s] | rw [up_n (by omega)])) <;> first | rfl | assumption) ?_
        refine ev_bipush (pc := 91) (v := nI 10) dX12_mark_91 kb_10 ?_
        refine ev_iload_n (pc := 93) dX12_mark_93 rfl ?_
        refine ev_iadd (pc := 94) dX12_mark_94 ?_
        (try rw [nI_add])
        refine ev_iald (pc := 95) dX12_mark_95 (by (try dsimp only); (repeat (first | rw [up_s] | rw [up_n (by omega)])) <;> first | rfl | assumption) (nI_toInt (by omega)) (x_F (by omega)) ?_
        refine ev_istore_n (pc := 96) (L' := [_, _, _, _, _, _]) dX12_mark_96 (Nat.le_of_ble_eq_true rfl) rfl ?_
        refine ev_iconst (pc := 97) (v := nI 0) dX12_mark_97 kc_0 ?_
        refine ev_istore (pc := 98) (L' := [_, _, _, _, _, _]) dX12_mark_98 (Nat.le_of_ble_eq_true rfl) rfl ?_
        refine ev_iconst (pc := 100) (v := nI 0) dX12_mark_100 kc_0 ?_
        refine ev_istore (pc := 101) (L' := [_, _, _, _, _, _]) dX12_mark_101 (Nat.le_of_ble_eq_true rfl) rfl ?_
        exact loop _ (by intro q a; (try dsimp only); rw [up_n (by omega)]) (by unfold pMO; exact (by (try dsimp only); (repeat (first | rw [up_s] | rw [up_n (by omega)])) <;> first | rfl | assumption)) (bT B) 0 (by omega)
    · exact absurd c_17 (by decide)
theorem c_M_mark1 (p : pM h m cs B N P I J wn op n tr) (b9 : wB mx B) (g : wT N) {t : Nat} (ht : t < bT B) : Ct X 2 mt_X12_mark [.ref m, .int (nI 1), .int (nI t)] (h, z) 0 0 (Qi (fun r S' => r = aMark B N t 1 ∧ S'.2 = z ∧ hfr h S'.1 m 17 ∧ pM S'.1 m cs B N P I J wn op n (tr + trK 1))) := by
  obtain ⟨⟨at_, bg, tk, td, rt, rn, rm, rd, mn, bd, br, po⟩, px, pr, ⟨fp, fw, fh, b1, b2, b3, b4, b5⟩, pn, -⟩ := id p
  have po' := po
  unfold pMO at po'
  unfold pRw at pn
  have h6 := b9.1
  refine mk_X12_mark (Nat.le_of_ble_eq_true rfl) (L := [.ref m, .int (nI 1), .int (nI t), .retAddr 0, .retAddr 0, .retAddr 0]) rfl ?_
  have loop : ∀ (h1 : Hp), (∀ q : Nat, q ≠ m → h1 q = h q) → pMO h1 m (nI cs.length) at_ bg tk td rt rn rm rd (nI (bT B)) (nI (bK B)) (nI (bM B)) (nI (bD B)) (nI 0) (nI (tS N)) (nI P.length) mn bd br (nI n) (tr + trK 1) → ∀ (c i : Nat), i + c = bT B → Ev X (mi_X12_mark 2 0 0) (Qi (fun r S' => r = aMark B N t 1 ∧ S'.2 = z ∧ hfr h S'.1 m 17 ∧ pM S'.1 m cs B N P I J wn op n (tr + trK 1))) 0 0 (h1, z) 103 [.ref m, .int (nI 1), .int (nI t), .int (nI (gN (tF N) t)), .int (nI (tW B t i)), .int (nI i)] [] := by
    intro h1 f1 o1 c
    have o1' := o1
    unfold pMO at o1'
    have a1 := (f1 (m + 8) (by omega)).trans pn
    have a2 := (f1 (m + 5) (by omega)).trans b1
    have a3 := (f1 (m + 6) (by omega)).trans b2
    induction c with
    | zero =>
      intro i hi
      have ei : i = bT B := by omega
      subst ei
      refine ev_iload (pc := 103) dX12_mark_103 rfl ?_
      refine ev_aload_n (pc := 105) dX12_mark_105 rfl ?_
      refine gf_X12_137 (pc := 106) rfl dX12_mark_106 (by (try dsimp only); (repeat (first | rw [up_s] | rw [up_n (by omega)])) <;> first | rfl | assumption) ?_
      refine ev_icmp_ge (pc := 109) 139 dX12_mark_109 (by decide) (fun c_109 => ?_) (fun c_109 => ?_)
      · (try simp (disch := omega) only [i32_lti, i32_lei, i32_eqi, nI_toInt, i32z] at c_109)
        refine ev_iload_n (pc := 139) dX12_mark_139 rfl ?_
        by_cases s140_0 : (nI 1).toInt = 0
        · refine ev_tableIn (pc := 140) 176 dX12_mark_140 (by omega) (by omega) (by rw [s140_0]; rfl) (by decide) ?_
          refine ev_iload_n (pc := 176) dX12_mark_176 rfl ?_
          refine ev_iret (pc := 177) dX12_mark_177 rfl rfl (Nat.le_of_ble_eq_true rfl) (Nat.le_of_ble_eq_true rfl) ?_
          first | exact absurd rfl ‹¬ (nI 1).toInt = 1› | exact absurd ‹(nI 1).toInt = _› (by decide) | exact ⟨_, rfl, rfl, rfl, (fun q a => f1 q (by omega)), p.mo (fun q a => f1 q a) ⟨at_, bg, tk, td, rt, rn, rm, rd, mn, bd, br, o1⟩⟩
        by_cases s140_1 : (nI 1).toInt = 1
        · refine ev_tableIn (pc := 140) 178 dX12_mark_140 (by omega) (by omega) (by rw [s140_1]; rfl) (by decide) ?_
          refine ev_iload_n (pc := 178) dX12_mark_178 rfl ?_
          refine ev_aload_n (pc := 179) dX12_mark_179 rfl ?_
          refine gf_X12_22 (pc := 180) rfl dX12_mark_180 (by (try dsimp only); (repeat (first | rw [up_s] | rw [up_n (by omega)])) <;> first | rfl | assumption) ?_
          refine ev_iload_n (pc := 183) dX12_mark_183 rfl ?_
          refine ev_iald (pc := 184) dX12_mark_184 (by (try dsimp only); (repeat (first | rw [up_s] | rw [up_n (by omega)])) <;> first | rfl | assumption) (nI_toInt (by omega)) (xg (by omega) (b4 t ht).1) ?_
          refine ev_iadd (pc := 185) dX12_mark_185 ?_
          skip
          refine ev_iret (pc := 186) dX12_mark_186 rfl rfl (Nat.le_of_ble_eq_true rfl) (Nat.le_of_ble_eq_true rfl) ?_
          first | exact absurd rfl ‹¬ (nI 1).toInt = 1› | exact absurd ‹(nI 1).toInt = _› (by decide) | exact ⟨_, rfl, rfl, rfl, (fun q a => f1 q (by omega)), p.mo (fun q a => f1 q a) ⟨at_, bg, tk, td, rt, rn, rm, rd, mn, bd, br, o1⟩⟩
        by_cases s140_2 : (nI 1).toInt = 2
        · refine ev_tableIn (pc := 140) 187 dX12_mark_140 (by omega) (by omega) (by rw [s140_2]; rfl) (by decide) ?_
          refine ev_iload_n (pc := 187) dX12_mark_187 rfl ?_
          refine ev_iload (pc := 188) dX12_mark_188 rfl ?_
          refine ev_isub (pc := 190) dX12_mark_190 ?_
          refine ev_iret (pc := 191) dX12_mark_191 rfl rfl (Nat.le_of_ble_eq_true rfl) (Nat.le_of_ble_eq_true rfl) ?_
          first | exact absurd rfl ‹¬ (nI 1).toInt = 1› | exact absurd ‹(nI 1).toInt = _› (by decide) | exact ⟨_, rfl, rfl, rfl, (fun q a => f1 q (by omega)), p.mo (fun q a => f1 q a) ⟨at_, bg, tk, td, rt, rn, rm, rd, mn, bd, br, o1⟩⟩
        by_cases s140_3 : (nI 1).toInt = 3
        · refine ev_tableIn (pc := 140) 192 dX12_mark_140 (by omega) (by omega) (by rw [s140_3]; rfl) (by decide) ?_
          refine ev_iconst (pc := 192) (v := nI 2) dX12_mark_192 kc_2 ?_
          refine ev_iload_n (pc := 193) dX12_mark_193 rfl ?_
          refine ev_aload_n (pc := 194) dX12_mark_194 rfl ?_
          refine gf_X12_22 (pc := 195) rfl dX12_mark_195 (by (try dsimp only); (repeat (first | rw [up_s] | rw [up_n (by omega)])) <;> first | rfl | assumption) ?_
          refine ev_iload_n (pc := 198) dX12_mark_198 rfl ?_
          refine ev_iald (pc := 199) dX12_mark_199 (by (try dsimp only); (repeat (first | rw [up_s] | rw [up_n (by omega)])) <;> first | rfl | assumption) (nI_toInt (by omega)) (xg (by omega) (b4 t ht).1) ?_
          refine ev_iadd (pc := 200) dX12_mark_200 ?_
          skip
          refine ev_imul (pc := 201) dX12_mark_201 ?_
          refine ev_iret (pc := 202) dX12_mark_202 rfl rfl (Nat.le_of_ble_eq_true rfl) (Nat.le_of_ble_eq_true rfl) ?_
          first | exact absurd rfl ‹¬ (nI 1).toInt = 1› | exact absurd ‹(nI 1).toInt = _› (by decide) | exact ⟨_, rfl, rfl, rfl, (fun q a => f1 q (by omega)), p.mo (fun q a => f1 q a) ⟨at_, bg, tk, td, rt, rn, rm, rd, mn, bd, br, o1⟩⟩
        by_cases s140_4 : (nI 1).toInt = 4
        · refine ev_tableIn (pc := 140) 203 dX12_mark_140 (by omega) (by omega) (by rw [s140_4]; rfl) (by decide) ?_
          refine ev_iload_n (pc := 203) dX12_mark_203 rfl ?_
          refine ev_iload (pc := 204) dX12_mark_204 rfl ?_
          refine ev_isub (pc := 206) dX12_mark_206 ?_
          refine ev_aload_n (pc := 207) dX12_mark_207 rfl ?_
          refine gf_X12_31 (pc := 208) rfl dX12_mark_208 (by (try dsimp only); (repeat (first | rw [up_s] | rw [up_n (by omega)])) <;> first | rfl | assumption) ?_
          refine ev_iconst (pc := 211) (v := nI 2) dX12_mark_211 kc_2 ?_
          refine ev_iald (pc := 212) dX12_mark_212 (by (try dsimp only); (repeat (first | rw [up_s] | rw [up_n (by omega)])) <;> first | rfl | assumption) (nI_toInt (by omega)) (x_2 _) ?_
          refine ev_iadd (pc := 213) dX12_mark_213 ?_
          skip
          refine ev_iret (pc := 214) dX12_mark_214 rfl rfl (Nat.le_of_ble_eq_true rfl) (Nat.le_of_ble_eq_true rfl) ?_
          first | exact absurd rfl ‹¬ (nI 1).toInt = 1› | exact absurd ‹(nI 1).toInt = _› (by decide) | exact ⟨_, rfl, rfl, rfl, (fun q a => f1 q (by omega)), p.mo (fun q a => f1 q a) ⟨at_, bg, tk, td, rt, rn, rm, rd, mn, bd, br, o1⟩⟩
        refine ev_tableOut (pc := 140) 215 dX12_mark_140 (by omega) (by decide) ?_
        refine ev_iload_n (pc := 215) dX12_mark_215 rfl ?_
        refine ev_aload_n (pc := 216) dX12_mark_216 rfl ?_
        refine gf_X12_31 (pc := 217) rfl dX12_mark_217 (by (try dsimp only); (repeat (first | rw [up_s] | rw [up_n (by omega)])) <;> first | rfl | assumption) ?_
        refine ev_iconst (pc := 220) (v := nI 0) dX12_mark_220 kc_0 ?_
        refine ev_iald (pc := 221) dX12_mark_221 (by (try dsimp only); (repeat (first | rw [up_s] | rw [up_n (by omega)])) <;> first | rfl | assumption) (nI_toInt (by omega)) (x_0 _) ?_
        refine ev_iadd (pc := 222) dX12_mark_222 ?_
        skip
        refine ev_iret (pc := 223) dX12_mark_223 rfl rfl (Nat.le_of_ble_eq_true rfl) (Nat.le_of_ble_eq_true rfl) ?_
        first | exact absurd rfl ‹¬ (nI 1).toInt = 1› | exact absurd ‹(nI 1).toInt = _› (by decide) | exact ⟨_, rfl, rfl, rfl, (fun q a => f1 q (by omega)), p.mo (fun q a => f1 q a) ⟨at_, bg, tk, td, rt, rn, rm, rd, mn, bd, br, o1⟩⟩
      · exfalso; (try simp (disch := omega) only [i32_lti, i32_lei, i32_eqi, nI_toInt, i32z] at c_109); omega
    | succ c ih =>
      intro i hi
      have hw := (b9.2.2.2.2.2.1 i (by omega)).2.2
      have q := ih (i + 1) (by omega)
      rw [tW_s] at q
      refine ev_iload (pc := 103) dX12_mark_103 rfl ?_
      refine ev_aload_n (pc := 105) dX12_mark_105 rfl ?_
      refine gf_X12_137 (pc := 106) rfl dX12_mark_106 (by (try dsimp only); (repeat (first | rw [up_s] | rw [up_n (by omega)])) <;> first | rfl | assumption) ?_
      refine ev_icmp_ge (pc := 109) 139 dX12_mark_109 (by decide) (fun c_109 => ?_) (fun c_109 => ?_)
      · exfalso; (try simp (disch := omega) only [i32_lti, i32_lei, i32_eqi, nI_toInt, i32z] at c_109); omega
      · (try simp (disch := omega) only [i32_lti, i32_lei, i32_eqi, nI_toInt, i32z] at c_109)
        refine ev_iload (pc := 112) dX12_mark_112 rfl ?_
        refine ev_aload_n (pc := 114) dX12_mark_114 rfl ?_
        refine gf_X12_25 (pc := 115) rfl dX12_mark_115 (by (try dsimp only); (repeat (first | rw [up_s] | rw [up_n (by omega)])) <;> first | rfl | assumption) ?_
        refine ev_iload (pc := 118) dX12_mark_118 rfl ?_
        refine ev_iald (pc := 120) dX12_mark_120 (by (try dsimp only); (repeat (first | rw [up_s] | rw [up_n (by omega)])) <;> first | rfl | assumption) (nI_toInt (by omega)) (xg (by omega) (b4 i (by omega)).2) ?_
        refine ev_iload_n (pc := 121) dX12_mark_121 rfl ?_
        refine ev_icmp_ne (pc := 122) 129 dX12_mark_122 (by decide) (fun c_122 => ?_) (fun c_122 => ?_)
        · (try simp (disch := omega) only [i32_lti, i32_lei, i32_eqi, nI_toInt, i32z] at c_122)
          rw [if_neg (by omega)] at q
          refine ev_iconst (pc := 129) (v := nI 0) dX12_mark_129 kc_0 ?_
          refine ev_iadd (pc := 130) dX12_mark_130 ?_
          (try rw [nI_add])
          refine ev_istore (pc := 131) (L' := [_, _, _, _, _, _]) dX12_mark_131 (Nat.le_of_ble_eq_true rfl) rfl ?_
          refine ev_iinc (pc := 133) (L' := [_, _, _, _, _, _]) dX12_mark_133 rfl (nI_1 _) rfl ?_
          refine ev_goto (pc := 136) 103 dX12_mark_136 (by decide) ?_
          exact q
        · (try simp (disch := omega) only [i32_lti, i32_lei, i32_eqi, nI_toInt, i32z] at c_122)
          rw [if_pos (by omega)] at q
          refine ev_iconst (pc := 125) (v := nI 1) dX12_mark_125 kc_1 ?_
          refine ev_goto (pc := 126) 130 dX12_mark_126 (by decide) ?_
          refine ev_iadd (pc := 130) dX12_mark_130 ?_
          (try rw [nI_add])
          refine ev_istore (pc := 131) (L' := [_, _, _, _, _, _]) dX12_mark_131 (Nat.le_of_ble_eq_true rfl) rfl ?_
          refine ev_iinc (pc := 133) (L' := [_, _, _, _, _, _]) dX12_mark_133 rfl (nI_1 _) rfl ?_
          refine ev_goto (pc := 136) 103 dX12_mark_136 (by decide) ?_
          exact q
  refine ev_iload_n (pc := 0) dX12_mark_0 rfl ?_
  refine ev_i2l (pc := 1) dX12_mark_1 ?_
  refine ev_lconst (pc := 2) (v := 0) dX12_mark_2 kl_0 ?_
  refine ev_ldc2_w (pc := 3) dX12_mark_3 tw_1170 ?_
  refine iv_X12_63 (pc := 6) rfl dX12_mark_6 (Nat.le_of_ble_eq_true rfl) (Nat.le_of_ble_eq_true rfl) (Nat.le_of_ble_eq_true rfl) (Nat.le_of_ble_eq_true rfl) (c_in _ _ _) (kp ?_)
  rw [in_t (a := 0) (b := 5) (by omega) (by omega) _ _ rfl rfl]
  refine ev_if_eq (pc := 9) 20 dX12_mark_9 (by decide) (fun c_9 => ?_) (fun c_9 => ?_)
  · exact absurd c_9 (by decide)
  · (try simp (disch := omega) only [i32_lti, i32_lei, i32_eqi, nI_toInt, i32z] at c_9)
    refine ev_aload_n (pc := 12) dX12_mark_12 rfl ?_
    refine ev_iload_n (pc := 13) dX12_mark_13 rfl ?_
    refine iv_X12_176 (pc := 14) rfl dX12_mark_14 (by (try dsimp only); (repeat (first | rw [up_s] | rw [up_n (by omega)])) <;> first | rfl | assumption) (Nat.le_of_ble_eq_true rfl) (Nat.le_of_ble_eq_true rfl) (Nat.le_of_ble_eq_true rfl) (Nat.le_of_ble_eq_true rfl) (c_mIsTale po h6 (nI t)) (kp ?_)
    rw [iTn_nI (by omega), decide_eq_true ht]
    refine ev_if_ne (pc := 17) 23 dX12_mark_17 (by decide) (fun c_17 => ?_) (fun c_17 => ?_)
    · (try simp (disch := omega) only [i32_lti, i32_lei, i32_eqi, nI_toInt, i32z] at c_17)
      refine ev_aload_n (pc := 23) dX12_mark_23 rfl ?_
      refine ev_dup (pc := 24) dX12_mark_24 rfl ?_
      refine gf_X12_245 (pc := 25) rfl dX12_mark_25 (by (try dsimp only); (repeat (first | rw [up_s] | rw [up_n (by omega)])) <;> first | rfl | assumption) ?_
      refine ev_iload_n (pc := 28) dX12_mark_28 rfl ?_
      refine ev_if_ne (pc := 29) 36 dX12_mark_29 (by decide) (fun c_29 => ?_) (fun c_29 => ?_)
      · (try simp (disch := omega) only [i32_lti, i32_lei, i32_eqi, nI_toInt, i32z] at c_29)
        refine ev_iload_n (pc := 36) dX12_mark_36 rfl ?_
        refine ev_iconst (pc := 37) (v := nI 1) dX12_mark_37 kc_1 ?_
        refine ev_icmp_ne (pc := 38) 47 dX12_mark_38 (by decide) (fun c_38 => ?_) (fun c_38 => ?_)
        · exact absurd rfl c_38
        · (try simp (disch := omega) only [i32_lti, i32_lei, i32_eqi, nI_toInt, i32z] at c_38)
          refine ev_ldc2_w (pc := 41) dX12_mark_41 tw_1172 ?_
          refine ev_goto (pc := 44) 83 dX12_mark_44 (by decide) ?_
          refine ev_ladd (pc := 83) dX12_mark_83 ?_
          rw [show (11 : Int64) = trK 1 from rfl]
          refine pf_X12_245 (pc := 84) rfl dX12_mark_84 (by (try dsimp only); (repeat (first | rw [up_s] | rw [up_n (by omega)])) <;> first | rfl | assumption) ?_
          refine ev_aload_n (pc := 87) dX12_mark_87 rfl ?_
          refine gf_X12_31 (pc := 88) rfl dX12_mark_88 (by (try dsimp only); (repeat (first | rw [up_s] | rw [up_n (by omega)])) <;> first | rfl | assumption) ?_
          refine ev_bipush (pc := 91) (v := nI 10) dX12_mark_91 kb_10 ?_
          refine ev_iload_n (pc := 93) dX12_mark_93 rfl ?_
          refine ev_iadd (pc := 94) dX12_mark_94 ?_
          (try rw [nI_add])
          refine ev_iald (pc := 95) dX12_mark_95 (by (try dsimp only); (repeat (first | rw [up_s] | rw [up_n (by omega)])) <;> first | rfl | assumption) (nI_toInt (by omega)) (x_F (by omega)) ?_
          refine ev_istore_n (pc := 96) (L' := [_, _, _, _, _, _]) dX12_mark_96 (Nat.le_of_ble_eq_true rfl) rfl ?_
          refine ev_iconst (pc := 97) (v := nI 0) dX12_mark_97 kc_0 ?_
          refine ev_istore (pc := 98) (L' := [_, _, _, _, _, _]) dX12_mark_98 (Nat.le_of_ble_eq_true rfl) rfl ?_
          refine ev_iconst (pc := 100) (v := nI 0) dX12_mark_100 kc_0 ?_
          refine ev_istore (pc := 101) (L' := [_, _, _, _, _, _]) dX12_mark_101 (Nat.le_of_ble_eq_true rfl) rfl ?_
          exact loop _ (by intro q a; (try dsimp only); rw [up_n (by omega)]) (by unfold pMO; exact (by (try dsimp only); (repeat (first | rw [up_s] | rw [up_n (by omega)])) <;> first | rfl | assumption)) (bT B) 0 (by omega)
      · exact absurd c_29 (by decide)
    · exact absurd c_17 (by decide)
theorem c_M_mark2 (p : pM h m cs B N P I J wn op n tr) (b9 : wB mx B) (g : wT N) {t : Nat} (ht : t < bT B) : Ct X 2 mt_X12_mark [.ref m, .int (nI 2), .int (nI t)] (h, z) 0 0 (Qi (fun r S' => r = aMark B N t 2 ∧ S'.2 = z ∧ hfr h S'.1 m 17 ∧ pM S'.1 m cs B N P I J wn op n (tr + trK 2))) := by
  obtain ⟨⟨at_, bg, tk, td, rt, rn, rm, rd, mn, bd, br, po⟩, px, pr, ⟨fp, fw, fh, b1, b2, b3, b4, b5⟩, pn, -⟩ := id p
  have po' := po
  unfold pMO at po'
  unfold pRw at pn
  have h6 := b9.1
  refine mk_X12_mark (Nat.le_of_ble_eq_true rfl) (L := [.ref m, .int (nI 2), .int (nI t), .retAddr 0, .retAddr 0, .retAddr 0]) rfl ?_
  have loop : ∀ (h1 : Hp), (∀ q : Nat, q ≠ m → h1 q = h q) → pMO h1 m (nI cs.length) at_ bg tk td rt rn rm rd (nI (bT B)) (nI (bK B)) (nI (bM B)) (nI (bD B)) (nI 0) (nI (tS N)) (nI P.length) mn bd br (nI n) (tr + trK 2) → ∀ (c i : Nat), i + c = bT B → Ev X (mi_X12_mark 2 0 0) (Qi (fun r S' => r = aMark B N t 2 ∧ S'.2 = z ∧ hfr h S'.1 m 17 ∧ pM S'.1 m cs B N P I J wn op n (tr + trK 2))) 0 0 (h1, z) 103 [.ref m, .int (nI 2), .int (nI t), .int (nI (gN (tF N) t)), .int (nI (tW B t i)), .int (nI i)] [] := by
    intro h1 f1 o1 c
    have o1' := o1
    unfold pMO at o1'
    have a1 := (f1 (m + 8) (by omega)).trans pn
    have a2 := (f1 (m + 5) (by omega)).trans b1
    have a3 := (f1 (m + 6) (by omega)).trans b2
    induction c with
    | zero =>
      intro i hi
      have ei : i = bT B := by omega
      subst ei
      refine ev_iload (pc := 103) dX12_mark_103 rfl ?_
      refine ev_aload_n (pc := 105) dX12_mark_105 rfl ?_
      refine gf_X12_137 (pc := 106) rfl dX12_mark_106 (by (try dsimp only); (repeat (first | rw [up_s] | rw [up_n (by omega)])) <;> first | rfl | assumption) ?_
      refine ev_icmp_ge (pc := 109) 139 dX12_mark_109 (by decide) (fun c_109 => ?_) (fun c_109 => ?_)
      · (try simp (disch := omega) only [i32_lti, i32_lei, i32_eqi, nI_toInt, i32z] at c_109)
        refine ev_iload_n (pc := 139) dX12_mark_139 rfl ?_
        by_cases s140_0 : (nI 2).toInt = 0
        · refine ev_tableIn (pc := 140) 176 dX12_mark_140 (by omega) (by omega) (by rw [s140_0]; rfl) (by decide) ?_
          refine ev_iload_n (pc := 176) dX12_mark_176 rfl ?_
          refine ev_iret (pc := 177) dX12_mark_177 rfl rfl (Nat.le_of_ble_eq_true rfl) (Nat.le_of_ble_eq_true rfl) ?_
          first | exact absurd rfl ‹¬ (nI 2).toInt = 2› | exact absurd ‹(nI 2).toInt = _› (by decide) | exact ⟨_, rfl, rfl, rfl, (fun q a => f1 q (by omega)), p.mo (fun q a => f1 q a) ⟨at_, bg, tk, td, rt, rn, rm, rd, mn, bd, br, o1⟩⟩
        by_cases s140_1 : (nI 2).toInt = 1
        · refine ev_tableIn (pc := 140) 178 dX12_mark_140 (by omega) (by omega) (by rw [s140_1]; rfl) (by decide) ?_
          refine ev_iload_n (pc := 178) dX12_mark_178 rfl ?_
          refine ev_aload_n (pc := 179) dX12_mark_179 rfl ?_
          refine gf_X12_22 (pc := 180) rfl dX12_mark_180 (by (try dsimp only); (repeat (first | rw [up_s] | rw [up_n (by omega)])) <;> first | rfl | assumption) ?_
          refine ev_iload_n (pc := 183) dX12_mark_183 rfl ?_
          refine ev_iald (pc := 184) dX12_mark_184 (by (try dsimp only); (repeat (first | rw [up_s] | rw [up_n (by omega)])) <;> first | rfl | assumption) (nI_toInt (by omega)) (xg (by omega) (b4 t ht).1) ?_
          refine ev_iadd (pc := 185) dX12_mark_185 ?_
          skip
          refine ev_iret (pc := 186) dX12_mark_186 rfl rfl (Nat.le_of_ble_eq_true rfl) (Nat.le_of_ble_eq_true rfl) ?_
          first | exact absurd rfl ‹¬ (nI 2).toInt = 2› | exact absurd ‹(nI 2).toInt = _› (by decide) | exact ⟨_, rfl, rfl, rfl, (fun q a => f1 q (by omega)), p.mo (fun q a => f1 q a) ⟨at_, bg, tk, td, rt, rn, rm, rd, mn, bd, br, o1⟩⟩
        by_cases s140_2 : (nI 2).toInt = 2
        · refine ev_tableIn (pc := 140) 187 dX12_mark_140 (by omega) (by omega) (by rw [s140_2]; rfl) (by decide) ?_
          refine ev_iload_n (pc := 187) dX12_mark_187 rfl ?_
          refine ev_iload (pc := 188) dX12_mark_188 rfl ?_
          refine ev_isub (pc := 190) dX12_mark_190 ?_
          refine ev_iret (pc := 191) dX12_mark_191 rfl rfl (Nat.le_of_ble_eq_true rfl) (Nat.le_of_ble_eq_true rfl) ?_
          first | exact absurd rfl ‹¬ (nI 2).toInt = 2› | exact absurd ‹(nI 2).toInt = _› (by decide) | exact ⟨_, rfl, rfl, rfl, (fun q a => f1 q (by omega)), p.mo (fun q a => f1 q a) ⟨at_, bg, tk, td, rt, rn, rm, rd, mn, bd, br, o1⟩⟩
        by_cases s140_3 : (nI 2).toInt = 3
        · refine ev_tableIn (pc := 140) 192 dX12_mark_140 (by omega) (by omega) (by rw [s140_3]; rfl) (by decide) ?_
          refine ev_iconst (pc := 192) (v := nI 2) dX12_mark_192 kc_2 ?_
          refine ev_iload_n (pc := 193) dX12_mark_193 rfl ?_
          refine ev_aload_n (pc := 194) dX12_mark_194 rfl ?_
          refine gf_X12_22 (pc := 195) rfl dX12_mark_195 (by (try dsimp only); (repeat (first | rw [up_s] | rw [up_n (by omega)])) <;> first | rfl | assumption) ?_
          refine ev_iload_n (pc := 198) dX12_mark_198 rfl ?_
          refine ev_iald (pc := 199) dX12_mark_199 (by (try dsimp only); (repeat (first | rw [up_s] | rw [up_n (by omega)])) <;> first | rfl | assumption) (nI_toInt (by omega)) (xg (by omega) (b4 t ht).1) ?_
          refine ev_iadd (pc := 200) dX12_mark_200 ?_
          skip
          refine ev_imul (pc := 201) dX12_mark_201 ?_
          refine ev_iret (pc := 202) dX12_mark_202 rfl rfl (Nat.le_of_ble_eq_true rfl) (Nat.le_of_ble_eq_true rfl) ?_
          first | exact absurd rfl ‹¬ (nI 2).toInt = 2› | exact absurd ‹(nI 2).toInt = _› (by decide) | exact ⟨_, rfl, rfl, rfl, (fun q a => f1 q (by omega)), p.mo (fun q a => f1 q a) ⟨at_, bg, tk, td, rt, rn, rm, rd, mn, bd, br, o1⟩⟩
        by_cases s140_4 : (nI 2).toInt = 4
        · refine ev_tableIn (pc := 140) 203 dX12_mark_140 (by omega) (by omega) (by rw [s140_4]; rfl) (by decide) ?_
          refine ev_iload_n (pc := 203) dX12_mark_203 rfl ?_
          refine ev_iload (pc := 204) dX12_mark_204 rfl ?_
          refine ev_isub (pc := 206) dX12_mark_206 ?_
          refine ev_aload_n (pc := 207) dX12_mark_207 rfl ?_
          refine gf_X12_31 (pc := 208) rfl dX12_mark_208 (by (try dsimp only); (repeat (first | rw [up_s] | rw [up_n (by omega)])) <;> first | rfl | assumption) ?_
          refine ev_iconst (pc := 211) (v := nI 2) dX12_mark_211 kc_2 ?_
          refine ev_iald (pc := 212) dX12_mark_212 (by (try dsimp only); (repeat (first | rw [up_s] | rw [up_n (by omega)])) <;> first | rfl | assumption) (nI_toInt (by omega)) (x_2 _) ?_
          refine ev_iadd (pc := 213) dX12_mark_213 ?_
          skip
          refine ev_iret (pc := 214) dX12_mark_214 rfl rfl (Nat.le_of_ble_eq_true rfl) (Nat.le_of_ble_eq_true rfl) ?_
          first | exact absurd rfl ‹¬ (nI 2).toInt = 2› | exact absurd ‹(nI 2).toInt = _› (by decide) | exact ⟨_, rfl, rfl, rfl, (fun q a => f1 q (by omega)), p.mo (fun q a => f1 q a) ⟨at_, bg, tk, td, rt, rn, rm, rd, mn, bd, br, o1⟩⟩
        refine ev_tableOut (pc := 140) 215 dX12_mark_140 (by omega) (by decide) ?_
        refine ev_iload_n (pc := 215) dX12_mark_215 rfl ?_
        refine ev_aload_n (pc := 216) dX12_mark_216 rfl ?_
        refine gf_X12_31 (pc := 217) rfl dX12_mark_217 (by (try dsimp only); (repeat (first | rw [up_s] | rw [up_n (by omega)])) <;> first | rfl | assumption) ?_
        refine ev_iconst (pc := 220) (v := nI 0) dX12_mark_220 kc_0 ?_
        refine ev_iald (pc := 221) dX12_mark_221 (by (try dsimp only); (repeat (first | rw [up_s] | rw [up_n (by omega)])) <;> first | rfl | assumption) (nI_toInt (by omega)) (x_0 _) ?_
        refine ev_iadd (pc := 222) dX12_mark_222 ?_
        skip
        refine ev_iret (pc := 223) dX12_mark_223 rfl rfl (Nat.le_of_ble_eq_true rfl) (Nat.le_of_ble_eq_true rfl) ?_
        first | exact absurd rfl ‹¬ (nI 2).toInt = 2› | exact absurd ‹(nI 2).toInt = _› (by decide) | exact ⟨_, rfl, rfl, rfl, (fun q a => f1 q (by omega)), p.mo (fun q a => f1 q a) ⟨at_, bg, tk, td, rt, rn, rm, rd, mn, bd, br, o1⟩⟩
      · exfalso; (try simp (disch := omega) only [i32_lti, i32_lei, i32_eqi, nI_toInt, i32z] at c_109); omega
    | succ c ih =>
      intro i hi
      have hw := (b9.2.2.2.2.2.1 i (by omega)).2.2
      have q := ih (i + 1) (by omega)
      rw [tW_s] at q
      refine ev_iload (pc := 103) dX12_mark_103 rfl ?_
      refine ev_aload_n (pc := 105) dX12_mark_105 rfl ?_
      refine gf_X12_137 (pc := 106) rfl dX12_mark_106 (by (try dsimp only); (repeat (first | rw [up_s] | rw [up_n (by omega)])) <;> first | rfl | assumption) ?_
      refine ev_icmp_ge (pc := 109) 139 dX12_mark_109 (by decide) (fun c_109 => ?_) (fun c_109 => ?_)
      · exfalso; (try simp (disch := omega) only [i32_lti, i32_lei, i32_eqi, nI_toInt, i32z] at c_109); omega
      · (try simp (disch := omega) only [i32_lti, i32_lei, i32_eqi, nI_toInt, i32z] at c_109)
        refine ev_iload (pc := 112) dX12_mark_112 rfl ?_
        refine ev_aload_n (pc := 114) dX12_mark_114 rfl ?_
        refine gf_X12_25 (pc := 115) rfl dX12_mark_115 (by (try dsimp only); (repeat (first | rw [up_s] | rw [up_n (by omega)])) <;> first | rfl | assumption) ?_
        refine ev_iload (pc := 118) dX12_mark_118 rfl ?_
        refine ev_iald (pc := 120) dX12_mark_120 (by (try dsimp only); (repeat (first | rw [up_s] | rw [up_n (by omega)])) <;> first | rfl | assumption) (nI_toInt (by omega)) (xg (by omega) (b4 i (by omega)).2) ?_
        refine ev_iload_n (pc := 121) dX12_mark_121 rfl ?_
        refine ev_icmp_ne (pc := 122) 129 dX12_mark_122 (by decide) (fun c_122 => ?_) (fun c_122 => ?_)
        · (try simp (disch := omega) only [i32_lti, i32_lei, i32_eqi, nI_toInt, i32z] at c_122)
          rw [if_neg (by omega)] at q
          refine ev_iconst (pc := 129) (v := nI 0) dX12_mark_129 kc_0 ?_
          refine ev_iadd (pc := 130) dX12_mark_130 ?_
          (try rw [nI_add])
          refine ev_istore (pc := 131) (L' := [_, _, _, _, _, _]) dX12_mark_131 (Nat.le_of_ble_eq_true rfl) rfl ?_
          refine ev_iinc (pc := 133) (L' := [_, _, _, _, _, _]) dX12_mark_133 rfl (nI_1 _) rfl ?_
          refine ev_goto (pc := 136) 103 dX12_mark_136 (by decide) ?_
          exact q
        · (try simp (disch := omega) only [i32_lti, i32_lei, i32_eqi, nI_toInt, i32z] at c_122)
          rw [if_pos (by omega)] at q
          refine ev_iconst (pc := 125) (v := nI 1) dX12_mark_125 kc_1 ?_
          refine ev_goto (pc := 126) 130 dX12_mark_126 (by decide) ?_
          refine ev_iadd (pc := 130) dX12_mark_130 ?_
          (try rw [nI_add])
          refine ev_istore (pc := 131) (L' := [_, _, _, _, _, _]) dX12_mark_131 (Nat.le_of_ble_eq_true rfl) rfl ?_
          refine ev_iinc (pc := 133) (L' := [_, _, _, _, _, _]) dX12_mark_133 rfl (nI_1 _) rfl ?_
          refine ev_goto (pc := 136) 103 dX12_mark_136 (by decide) ?_
          exact q
  refine ev_iload_n (pc := 0) dX12_mark_0 rfl ?_
  refine ev_i2l (pc := 1) dX12_mark_1 ?_
  refine ev_lconst (pc := 2) (v := 0) dX12_mark_2 kl_0 ?_
  refine ev_ldc2_w (pc := 3) dX12_mark_3 tw_1170 ?_
  refine iv_X12_63 (pc := 6) rfl dX12_mark_6 (Nat.le_of_ble_eq_true rfl) (Nat.le_of_ble_eq_true rfl) (Nat.le_of_ble_eq_true rfl) (Nat.le_of_ble_eq_true rfl) (c_in _ _ _) (kp ?_)
  rw [in_t (a := 0) (b := 5) (by omega) (by omega) _ _ rfl rfl]
  refine ev_if_eq (pc := 9) 20 dX12_mark_9 (by decide) (fun c_9 => ?_) (fun c_9 => ?_)
  · exact absurd c_9 (by decide)
  · (try simp (disch := omega) only [i32_lti, i32_lei, i32_eqi, nI_toInt, i32z] at c_9)
    refine ev_aload_n (pc := 12) dX12_mark_12 rfl ?_
    refine ev_iload_n (pc := 13) dX12_mark_13 rfl ?_
    refine iv_X12_176 (pc := 14) rfl dX12_mark_14 (by (try dsimp only); (repeat (first | rw [up_s] | rw [up_n (by omega)])) <;> first | rfl | assumption) (Nat.le_of_ble_eq_true rfl) (Nat.le_of_ble_eq_true rfl) (Nat.le_of_ble_eq_true rfl) (Nat.le_of_ble_eq_true rfl) (c_mIsTale po h6 (nI t)) (kp ?_)
    rw [iTn_nI (by omega), decide_eq_true ht]
    refine ev_if_ne (pc := 17) 23 dX12_mark_17 (by decide) (fun c_17 => ?_) (fun c_17 => ?_)
    · (try simp (disch := omega) only [i32_lti, i32_lei, i32_eqi, nI_toInt, i32z] at c_17)
      refine ev_aload_n (pc := 23) dX12_mark_23 rfl ?_
      refine ev_dup (pc := 24) dX12_mark_24 rfl ?_
      refine gf_X12_245 (pc := 25) rfl dX12_mark_25 (by (try dsimp only); (repeat (first | rw [up_s] | rw [up_n (by omega)])) <;> first | rfl | assumption) ?_
      refine ev_iload_n (pc := 28) dX12_mark_28 rfl ?_
      refine ev_if_ne (pc := 29) 36 dX12_mark_29 (by decide) (fun c_29 => ?_) (fun c_29 => ?_)
      · (try simp (disch := omega) only [i32_lti, i32_lei, i32_eqi, nI_toInt, i32z] at c_29)
        refine ev_iload_n (pc := 36) dX12_mark_36 rfl ?_
        refine ev_iconst (pc := 37) (v := nI 1) dX12_mark_37 kc_1 ?_
        refine ev_icmp_ne (pc := 38) 47 dX12_mark_38 (by decide) (fun c_38 => ?_) (fun c_38 => ?_)
        · (try simp (disch := omega) only [i32_lti, i32_lei, i32_eqi, nI_toInt, i32z] at c_38)
          refine ev_iload_n (pc := 47) dX12_mark_47 rfl ?_
          refine ev_iconst (pc := 48) (v := nI 2) dX12_mark_48 kc_2 ?_
          refine ev_icmp_ne (pc := 49) 58 dX12_mark_49 (by decide) (fun c_49 => ?_) (fun c_49 => ?_)
          · exact absurd rfl c_49
          · (try simp (disch := omega) only [i32_lti, i32_lei, i32_eqi, nI_toInt, i32z] at c_49)
            refine ev_ldc2_w (pc := 52) dX12_mark_52 tw_1173 ?_
            refine ev_goto (pc := 55) 83 dX12_mark_55 (by decide) ?_
            refine ev_ladd (pc := 83) dX12_mark_83 ?_
            rw [show (101 : Int64) = trK 2 from rfl]
            refine pf_X12_245 (pc := 84) rfl dX12_mark_84 (by (try dsimp only); (repeat (first | rw [up_s] | rw [up_n (by omega)])) <;> first | rfl | assumption) ?_
            refine ev_aload_n (pc := 87) dX12_mark_87 rfl ?_
            refine gf_X12_31 (pc := 88) rfl dX12_mark_88 (by (try dsimp only); (repeat (first | rw [up_s] | rw [up_n (by omega)])) <;> first | rfl | assumption) ?_
            refine ev_bipush (pc := 91) (v := nI 10) dX12_mark_91 kb_10 ?_
            refine ev_iload_n (pc := 93) dX12_mark_93 rfl ?_
            refine ev_iadd (pc := 94) dX12_mark_94 ?_
            (try rw [nI_add])
            refine ev_iald (pc := 95) dX12_mark_95 (by (try dsimp only); (repeat (first | rw [up_s] | rw [up_n (by omega)])) <;> first | rfl | assumption) (nI_toInt (by omega)) (x_F (by omega)) ?_
            refine ev_istore_n (pc := 96) (L' := [_, _, _, _, _, _]) dX12_mark_96 (Nat.le_of_ble_eq_true rfl) rfl ?_
            refine ev_iconst (pc := 97) (v := nI 0) dX12_mark_97 kc_0 ?_
            refine ev_istore (pc := 98) (L' := [_, _, _, _, _, _]) dX12_mark_98 (Nat.le_of_ble_eq_true rfl) rfl ?_
            refine ev_iconst (pc := 100) (v := nI 0) dX12_mark_100 kc_0 ?_
            refine ev_istore (pc := 101) (L' := [_, _, _, _, _, _]) dX12_mark_101 (Nat.le_of_ble_eq_true rfl) rfl ?_
            exact loop _ (by intro q a; (try dsimp only); rw [up_n (by omega)]) (by unfold pMO; exact (by (try dsimp only); (repeat (first | rw [up_s] | rw [up_n (by omega)])) <;> first | rfl | assumption)) (bT B) 0 (by omega)
        · exact absurd c_38 (by decide)
      · exact absurd c_29 (by decide)
    · exact absurd c_17 (by decide)
theorem c_M_mark3 (p : pM h m cs B N P I J wn op n tr) (b9 : wB mx B) (g : wT N) {t : Nat} (ht : t < bT B) : Ct X 2 mt_X12_mark [.ref m, .int (nI 3), .int (nI t)] (h, z) 0 0 (Qi (fun r S' => r = aMark B N t 3 ∧ S'.2 = z ∧ hfr h S'.1 m 17 ∧ pM S'.1 m cs B N P I J wn op n (tr + trK 3))) := by
  obtain ⟨⟨at_, bg, tk, td, rt, rn, rm, rd, mn, bd, br, po⟩, px, pr, ⟨fp, fw, fh, b1, b2, b3, b4, b5⟩, pn, -⟩ := id p
  have po' := po
  unfold pMO at po'
  unfold pRw at pn
  have h6 := b9.1
  refine mk_X12_mark (Nat.le_of_ble_eq_true rfl) (L := [.ref m, .int (nI 3), .int (nI t), .retAddr 0, .retAddr 0, .retAddr 0]) rfl ?_
  have loop : ∀ (h1 : Hp), (∀ q : Nat, q ≠ m → h1 q = h q) → pMO h1 m (nI cs.length) at_ bg tk td rt rn rm rd (nI (bT B)) (nI (bK B)) (nI (bM B)) (nI (bD B)) (nI 0) (nI (tS N)) (nI P.length) mn bd br (nI n) (tr + trK 3) → ∀ (c i : Nat), i + c = bT B → Ev X (mi_X12_mark 2 0 0) (Qi (fun r S' => r = aMark B N t 3 ∧ S'.2 = z ∧ hfr h S'.1 m 17 ∧ pM S'.1 m cs B N P I J wn op n (tr + trK 3))) 0 0 (h1, z) 103 [.ref m, .int (nI 3), .int (nI t), .int (nI (gN (tF N) t)), .int (nI (tW B t i)), .int (nI i)] [] := by
    intro h1 f1 o1 c
    have o1' := o1
    unfold pMO at o1'
    have a1 := (f1 (m + 8) (by omega)).trans pn
    have a2 := (f1 (m + 5) (by omega)).trans b1
    have a3 := (f1 (m + 6) (by omega)).trans b2
    induction c with
    | zero =>
      intro i hi
      have ei : i = bT B := by omega
      subst ei
      refine ev_iload (pc := 103) dX12_mark_103 rfl ?_
      refine ev_aload_n (pc := 105) dX12_mark_105 rfl ?_
      refine gf_X12_137 (pc := 106) rfl dX12_mark_106 (by (try dsimp only); (repeat (first | rw [up_s] | rw [up_n (by omega)])) <;> first | rfl | assumption) ?_
      refine ev_icmp_ge (pc := 109) 139 dX12_mark_109 (by decide) (fun c_109 => ?_) (fun c_109 => ?_)
      · (try simp (disch := omega) only [i32_lti, i32_lei, i32_eqi, nI_toInt, i32z] at c_109)
        refine ev_iload_n (pc := 139) dX12_mark_139 rfl ?_
        by_cases s140_0 : (nI 3).toInt = 0
        · refine ev_tableIn (pc := 140) 176 dX12_mark_140 (by omega) (by omega) (by rw [s140_0]; rfl) (by decide) ?_
          refine ev_iload_n (pc := 176) dX12_mark_176 rfl ?_
          refine ev_iret (pc := 177) dX12_mark_177 rfl rfl (Nat.le_of_ble_eq_true rfl) (Nat.le_of_ble_eq_true rfl) ?_
          first | exact absurd rfl ‹¬ (nI 3).toInt = 3› | exact absurd ‹(nI 3).toInt = _› (by decide) | exact ⟨_, rfl, Int32.mul_comm _ _, rfl, (fun q a => f1 q (by omega)), p.mo (fun q a => f1 q a) ⟨at_, bg, tk, td, rt, rn, rm, rd, mn, bd, br, o1⟩⟩
        by_cases s140_1 : (nI 3).toInt = 1
        · refine ev_tableIn (pc := 140) 178 dX12_mark_140 (by omega) (by omega) (by rw [s140_1]; rfl) (by decide) ?_
          refine ev_iload_n (pc := 178) dX12_mark_178 rfl ?_
          refine ev_aload_n (pc := 179) dX12_mark_179 rfl ?_
          refine gf_X12_22 (pc := 180) rfl dX12_mark_180 (by (try dsimp only); (repeat (first | rw [up_s] | rw [up_n (by omega)])) <;> first | rfl | assumption) ?_
          refine ev_iload_n (pc := 183) dX12_mark_183 rfl ?_
          refine ev_iald (pc := 184) dX12_mark_184 (by (try dsimp only); (repeat (first | rw [up_s] | rw [up_n (by omega)])) <;> first | rfl | assumption) (nI_toInt (by omega)) (xg (by omega) (b4 t ht).1) ?_
          refine ev_iadd (pc := 185) dX12_mark_185 ?_
          skip
          refine ev_iret (pc := 186) dX12_mark_186 rfl rfl (Nat.le_of_ble_eq_true rfl) (Nat.le_of_ble_eq_true rfl) ?_
          first | exact absurd rfl ‹¬ (nI 3).toInt = 3› | exact absurd ‹(nI 3).toInt = _› (by decide) | exact ⟨_, rfl, Int32.mul_comm _ _, rfl, (fun q a => f1 q (by omega)), p.mo (fun q a => f1 q a) ⟨at_, bg, tk, td, rt, rn, rm, rd, mn, bd, br, o1⟩⟩
        by_cases s140_2 : (nI 3).toInt = 2
        · refine ev_tableIn (pc := 140) 187 dX12_mark_140 (by omega) (by omega) (by rw [s140_2]; rfl) (by decide) ?_
          refine ev_iload_n (pc := 187) dX12_mark_187 rfl ?_
          refine ev_iload (pc := 188) dX12_mark_188 rfl ?_
          refine ev_isub (pc := 190) dX12_mark_190 ?_
          refine ev_iret (pc := 191) dX12_mark_191 rfl rfl (Nat.le_of_ble_eq_true rfl) (Nat.le_of_ble_eq_true rfl) ?_
          first | exact absurd rfl ‹¬ (nI 3).toInt = 3› | exact absurd ‹(nI 3).toInt = _› (by decide) | exact ⟨_, rfl, Int32.mul_comm _ _, rfl, (fun q a => f1 q (by omega)), p.mo (fun q a => f1 q a) ⟨at_, bg, tk, td, rt, rn, rm, rd, mn, bd, br, o1⟩⟩
        by_cases s140_3 : (nI 3).toInt = 3
        · refine ev_tableIn (pc := 140) 192 dX12_mark_140 (by omega) (by omega) (by rw [s140_3]; rfl) (by decide) ?_
          refine ev_iconst (pc := 192) (v := nI 2) dX12_mark_192 kc_2 ?_
          refine ev_iload_n (pc := 193) dX12_mark_193 rfl ?_
          refine ev_aload_n (pc := 194) dX12_mark_194 rfl ?_
          refine gf_X12_22 (pc := 195) rfl dX12_mark_195 (by (try dsimp only); (repeat (first | rw [up_s] | rw [up_n (by omega)])) <;> first | rfl | assumption) ?_
          refine ev_iload_n (pc := 198) dX12_mark_198 rfl ?_
          refine ev_iald (pc := 199) dX12_mark_199 (by (try dsimp only); (repeat (first | rw [up_s] | rw [up_n (by omega)])) <;> first | rfl | assumption) (nI_toInt (by omega)) (xg (by omega) (b4 t ht).1) ?_
          refine ev_iadd (pc := 200) dX12_mark_200 ?_
          skip
          refine ev_imul (pc := 201) dX12_mark_201 ?_
          refine ev_iret (pc := 202) dX12_mark_202 rfl rfl (Nat.le_of_ble_eq_true rfl) (Nat.le_of_ble_eq_true rfl) ?_
          first | exact absurd rfl ‹¬ (nI 3).toInt = 3› | exact absurd ‹(nI 3).toInt = _› (by decide) | exact ⟨_, rfl, Int32.mul_comm _ _, rfl, (fun q a => f1 q (by omega)), p.mo (fun q a => f1 q a) ⟨at_, bg, tk, td, rt, rn, rm, rd, mn, bd, br, o1⟩⟩
        by_cases s140_4 : (nI 3).toInt = 4
        · refine ev_tableIn (pc := 140) 203 dX12_mark_140 (by omega) (by omega) (by rw [s140_4]; rfl) (by decide) ?_
          refine ev_iload_n (pc := 203) dX12_mark_203 rfl ?_
          refine ev_iload (pc := 204) dX12_mark_204 rfl ?_
          refine ev_isub (pc := 206) dX12_mark_206 ?_
          refine ev_aload_n (pc := 207) dX12_mark_207 rfl ?_
          refine gf_X12_31 (pc := 208) rfl dX12_mark_208 (by (try dsimp only); (repeat (first | rw [up_s] | rw [up_n (by omega)])) <;> first | rfl | assumption) ?_
          refine ev_iconst (pc := 211) (v := nI 2) dX12_mark_211 kc_2 ?_
          refine ev_iald (pc := 212) dX12_mark_212 (by (try dsimp only); (repeat (first | rw [up_s] | rw [up_n (by omega)])) <;> first | rfl | assumption) (nI_toInt (by omega)) (x_2 _) ?_
          refine ev_iadd (pc := 213) dX12_mark_213 ?_
          skip
          refine ev_iret (pc := 214) dX12_mark_214 rfl rfl (Nat.le_of_ble_eq_true rfl) (Nat.le_of_ble_eq_true rfl) ?_
          first | exact absurd rfl ‹¬ (nI 3).toInt = 3› | exact absurd ‹(nI 3).toInt = _› (by decide) | exact ⟨_, rfl, Int32.mul_comm _ _, rfl, (fun q a => f1 q (by omega)), p.mo (fun q a => f1 q a) ⟨at_, bg, tk, td, rt, rn, rm, rd, mn, bd, br, o1⟩⟩
        refine ev_tableOut (pc := 140) 215 dX12_mark_140 (by omega) (by decide) ?_
        refine ev_iload_n (pc := 215) dX12_mark_215 rfl ?_
        refine ev_aload_n (pc := 216) dX12_mark_216 rfl ?_
        refine gf_X12_31 (pc := 217) rfl dX12_mark_217 (by (try dsimp only); (repeat (first | rw [up_s] | rw [up_n (by omega)])) <;> first | rfl | assumption) ?_
        refine ev_iconst (pc := 220) (v := nI 0) dX12_mark_220 kc_0 ?_
        refine ev_iald (pc := 221) dX12_mark_221 (by (try dsimp only); (repeat (first | rw [up_s] | rw [up_n (by omega)])) <;> first | rfl | assumption) (nI_toInt (by omega)) (x_0 _) ?_
        refine ev_iadd (pc := 222) dX12_mark_222 ?_
        skip
        refine ev_iret (pc := 223) dX12_mark_223 rfl rfl (Nat.le_of_ble_eq_true rfl) (Nat.le_of_ble_eq_true rfl) ?_
        first | exact absurd rfl ‹¬ (nI 3).toInt = 3› | exact absurd ‹(nI 3).toInt = _› (by decide) | exact ⟨_, rfl, Int32.mul_comm _ _, rfl, (fun q a => f1 q (by omega)), p.mo (fun q a => f1 q a) ⟨at_, bg, tk, td, rt, rn, rm, rd, mn, bd, br, o1⟩⟩
      · exfalso; (try simp (disch := omega) only [i32_lti, i32_lei, i32_eqi, nI_toInt, i32z] at c_109); omega
    | succ c ih =>
      intro i hi
      have hw := (b9.2.2.2.2.2.1 i (by omega)).2.2
      have q := ih (i + 1) (by omega)
      rw [tW_s] at q
      refine ev_iload (pc := 103) dX12_mark_103 rfl ?_
      refine ev_aload_n (pc := 105) dX12_mark_105 rfl ?_
      refine gf_X12_137 (pc := 106) rfl dX12_mark_106 (by (try dsimp only); (repeat (first | rw [up_s] | rw [up_n (by omega)])) <;> first | rfl | assumption) ?_
      refine ev_icmp_ge (pc := 109) 139 dX12_mark_109 (by decide) (fun c_109 => ?_) (fun c_109 => ?_)
      · exfalso; (try simp (disch := omega) only [i32_lti, i32_lei, i32_eqi, nI_toInt, i32z] at c_109); omega
      · (try simp (disch := omega) only [i32_lti, i32_lei, i32_eqi, nI_toInt, i32z] at c_109)
        refine ev_iload (pc := 112) dX12_mark_112 rfl ?_
        refine ev_aload_n (pc := 114) dX12_mark_114 rfl ?_
        refine gf_X12_25 (pc := 115) rfl dX12_mark_115 (by (try dsimp only); (repeat (first | rw [up_s] | rw [up_n (by omega)])) <;> first | rfl | assumption) ?_
        refine ev_iload (pc := 118) dX12_mark_118 rfl ?_
        refine ev_iald (pc := 120) dX12_mark_120 (by (try dsimp only); (repeat (first | rw [up_s] | rw [up_n (by omega)])) <;> first | rfl | assumption) (nI_toInt (by omega)) (xg (by omega) (b4 i (by omega)).2) ?_
        refine ev_iload_n (pc := 121) dX12_mark_121 rfl ?_
        refine ev_icmp_ne (pc := 122) 129 dX12_mark_122 (by decide) (fun c_122 => ?_) (fun c_122 => ?_)
        · (try simp (disch := omega) only [i32_lti, i32_lei, i32_eqi, nI_toInt, i32z] at c_122)
          rw [if_neg (by omega)] at q
          refine ev_iconst (pc := 129) (v := nI 0) dX12_mark_129 kc_0 ?_
          refine ev_iadd (pc := 130) dX12_mark_130 ?_
          (try rw [nI_add])
          refine ev_istore (pc := 131) (L' := [_, _, _, _, _, _]) dX12_mark_131 (Nat.le_of_ble_eq_true rfl) rfl ?_
          refine ev_iinc (pc := 133) (L' := [_, _, _, _, _, _]) dX12_mark_133 rfl (nI_1 _) rfl ?_
          refine ev_goto (pc := 136) 103 dX12_mark_136 (by decide) ?_
          exact q
        · (try simp (disch := omega) only [i32_lti, i32_lei, i32_eqi, nI_toInt, i32z] at c_122)
          rw [if_pos (by omega)] at q
          refine ev_iconst (pc := 125) (v := nI 1) dX12_mark_125 kc_1 ?_
          refine ev_goto (pc := 126) 130 dX12_mark_126 (by decide) ?_
          refine ev_iadd (pc := 130) dX12_mark_130 ?_
          (try rw [nI_add])
          refine ev_istore (pc := 131) (L' := [_, _, _, _, _, _]) dX12_mark_131 (Nat.le_of_ble_eq_true rfl) rfl ?_
          refine ev_iinc (pc := 133) (L' := [_, _, _, _, _, _]) dX12_mark_133 rfl (nI_1 _) rfl ?_
          refine ev_goto (pc := 136) 103 dX12_mark_136 (by decide) ?_
          exact q
  refine ev_iload_n (pc := 0) dX12_mark_0 rfl ?_
  refine ev_i2l (pc := 1) dX12_mark_1 ?_
  refine ev_lconst (pc := 2) (v := 0) dX12_mark_2 kl_0 ?_
  refine ev_ldc2_w (pc := 3) dX12_mark_3 tw_1170 ?_
  refine iv_X12_63 (pc := 6) rfl dX12_mark_6 (Nat.le_of_ble_eq_true rfl) (Nat.le_of_ble_eq_true rfl) (Nat.le_of_ble_eq_true rfl) (Nat.le_of_ble_eq_true rfl) (c_in _ _ _) (kp ?_)
  rw [in_t (a := 0) (b := 5) (by omega) (by omega) _ _ rfl rfl]
  refine ev_if_eq (pc := 9) 20 dX12_mark_9 (by decide) (fun c_9 => ?_) (fun c_9 => ?_)
  · exact absurd c_9 (by decide)
  · (try simp (disch := omega) only [i32_lti, i32_lei, i32_eqi, nI_toInt, i32z] at c_9)
    refine ev_aload_n (pc := 12) dX12_mark_12 rfl ?_
    refine ev_iload_n (pc := 13) dX12_mark_13 rfl ?_
    refine iv_X12_176 (pc := 14) rfl dX12_mark_14 (by (try dsimp only); (repeat (first | rw [up_s] | rw [up_n (by omega)])) <;> first | rfl | assumption) (Nat.le_of_ble_eq_true rfl) (Nat.le_of_ble_eq_true rfl) (Nat.le_of_ble_eq_true rfl) (Nat.le_of_ble_eq_true rfl) (c_mIsTale po h6 (nI t)) (kp ?_)
    rw [iTn_nI (by omega), decide_eq_true ht]
    refine ev_if_ne (pc := 17) 23 dX12_mark_17 (by decide) (fun c_17 => ?_) (fun c_17 => ?_)
    · (try simp (disch := omega) only [i32_lti, i32_lei, i32_eqi, nI_toInt, i32z] at c_17)
      refine ev_aload_n (pc := 23) dX12_mark_23 rfl ?_
      refine ev_dup (pc := 24) dX12_mark_24 rfl ?_
      refine gf_X12_245 (pc := 25) rfl dX12_mark_25 (by (try dsimp only); (repeat (first | rw [up_s] | rw [up_n (by omega)])) <;> first | rfl | assumption) ?_
      refine ev_iload_n (pc := 28) dX12_mark_28 rfl ?_
      refine ev_if_ne (pc := 29) 36 dX12_mark_29 (by decide) (fun c_29 => ?_) (fun c_29 => ?_)
      · (try simp (disch := omega) only [i32_lti, i32_lei, i32_eqi, nI_toInt, i32z] at c_29)
        refine ev_iload_n (pc := 36) dX12_mark_36 rfl ?_
        refine ev_iconst (pc := 37) (v := nI 1) dX12_mark_37 kc_1 ?_
        refine ev_icmp_ne (pc := 38) 47 dX12_mark_38 (by decide) (fun c_38 => ?_) (fun c_38 => ?_)
        · (try simp (disch := omega) only [i32_lti, i32_lei, i32_eqi, nI_toInt, i32z] at c_38)
          refine ev_iload_n (pc := 47) dX12_mark_47 rfl ?_
          refine ev_iconst (pc := 48) (v := nI 2) dX12_mark_48 kc_2 ?_
          refine ev_icmp_ne (pc := 49) 58 dX12_mark_49 (by decide) (fun c_49 => ?_) (fun c_49 => ?_)
          · (try simp (disch := omega) only [i32_lti, i32_lei, i32_eqi, nI_toInt, i32z] at c_49)
            refine ev_iload_n (pc := 58) dX12_mark_58 rfl ?_
            refine ev_iconst (pc := 59) (v := nI 3) dX12_mark_59 kc_3 ?_
            refine ev_icmp_ne (pc := 60) 69 dX12_mark_60 (by decide) (fun c_60 => ?_) (fun c_60 => ?_)
            · exact absurd rfl c_60
            · (try simp (disch := omega) only [i32_lti, i32_lei, i32_eqi, nI_toInt, i32z] at c_60)
              refine ev_ldc2_w (pc := 63) dX12_mark_63 tw_1174 ?_
              refine ev_goto (pc := 66) 83 dX12_mark_66 (by decide) ?_
              refine ev_ladd (pc := 83) dX12_mark_83 ?_
              rw [show (1011 : Int64) = trK 3 from rfl]
              refine pf_X12_245 (pc := 84) rfl dX12_mark_84 (by (try dsimp only); (repeat (first | rw [up_s] | rw [up_n (by omega)])) <;> first | rfl | assumption) ?_
              refine ev_aload_n (pc := 87) dX12_mark_87 rfl ?_
              refine gf_X12_31 (pc := 88) rfl dX12_mark_88 (by (try dsimp only); (repeat (first | rw [up_s] | rw [up_n (by omega)])) <;> first | rfl | assumption) ?_
              refine ev_bipush (pc := 91) (v := nI 10) dX12_mark_91 kb_10 ?_
              refine ev_iload_n (pc := 93) dX12_mark_93 rfl ?_
              refine ev_iadd (pc := 94) dX12_mark_94 ?_
              (try rw [nI_add])
              refine ev_iald (pc := 95) dX12_mark_95 (by (try dsimp only); (repeat (first | rw [up_s] | rw [up_n (by omega)])) <;> first | rfl | assumption) (nI_toInt (by omega)) (x_F (by omega)) ?_
              refine ev_istore_n (pc := 96) (L' := [_, _, _, _, _, _]) dX12_mark_96 (Nat.le_of_ble_eq_true rfl) rfl ?_
              refine ev_iconst (pc := 97) (v := nI 0) dX12_mark_97 kc_0 ?_
              refine ev_istore (pc := 98) (L' := [_, _, _, _, _, _]) dX12_mark_98 (Nat.le_of_ble_eq_true rfl) rfl ?_
              refine ev_iconst (pc := 100) (v := nI 0) dX12_mark_100 kc_0 ?_
              refine ev_istore (pc := 101) (L' := [_, _, _, _, _, _]) dX12_mark_101 (Nat.le_of_ble_eq_true rfl) rfl ?_
              exact loop _ (by intro q a; (try dsimp only); rw [up_n (by omega)]) (by unfold pMO; exact (by (try dsimp only); (repeat (first | rw [up_s] | rw [up_n (by omega)])) <;> first | rfl | assumption)) (bT B) 0 (by omega)
          · exact absurd c_49 (by decide)
        · exact absurd c_38 (by decide)
      · exact absurd c_29 (by decide)
    · exact absurd c_17 (by decide)
theorem c_M_mark4 (p : pM h m cs B N P I J wn op n tr) (b9 : wB mx B) (g : wT N) {t : Nat} (ht : t < bT B) : Ct X 2 mt_X12_mark [.ref m, .int (nI 4), .int (nI t)] (h, z) 0 0 (Qi (fun r S' => r = aMark B N t 4 ∧ S'.2 = z ∧ hfr h S'.1 m 17 ∧ pM S'.1 m cs B N P I J wn op n (tr + trK 4))) := by
  obtain ⟨⟨at_, bg, tk, td, rt, rn, rm, rd, mn, bd, br, po⟩, px, pr, ⟨fp, fw, fh, b1, b2, b3, b4, b5⟩, pn, -⟩ := id p
  have po' := po
  unfold pMO at po'
  unfold pRw at pn
  have h6 := b9.1
  refine mk_X12_mark (Nat.le_of_ble_eq_true rfl) (L := [.ref m, .int (nI 4), .int (nI t), .retAddr 0, .retAddr 0, .retAddr 0]) rfl ?_
  have loop : ∀ (h1 : Hp), (∀ q : Nat, q ≠ m → h1 q = h q) → pMO h1 m (nI cs.length) at_ bg tk td rt rn rm rd (nI (bT B)) (nI (bK B)) (nI (bM B)) (nI (bD B)) (nI 0) (nI (tS N)) (nI P.length) mn bd br (nI n) (tr + trK 4) → ∀ (c i : Nat), i + c = bT B → Ev X (mi_X12_mark 2 0 0) (Qi (fun r S' => r = aMark B N t 4 ∧ S'.2 = z ∧ hfr h S'.1 m 17 ∧ pM S'.1 m cs B N P I J wn op n (tr + trK 4))) 0 0 (h1, z) 103 [.ref m, .int (nI 4), .int (nI t), .int (nI (gN (tF N) t)), .int (nI (tW B t i)), .int (nI i)] [] := by
    intro h1 f1 o1 c
    have o1' := o1
    unfold pMO at o1'
    have a1 := (f1 (m + 8) (by omega)).trans pn
    have a2 := (f1 (m + 5) (by omega)).trans b1
    have a3 := (f1 (m + 6) (by omega)).trans b2
    induction c with
    | zero =>
      intro i hi
      have ei : i = bT B := by omega
      subst ei
      refine ev_iload (pc := 103) dX12_mark_103 rfl ?_
      refine ev_aload_n (pc := 105) dX12_mark_105 rfl ?_
      refine gf_X12_137 (pc := 106) rfl dX12_mark_106 (by (try dsimp only); (repeat (first | rw [up_s] | rw [up_n (by omega)])) <;> first | rfl | assumption) ?_
      refine ev_icmp_ge (pc := 109) 139 dX12_mark_109 (by decide) (fun c_109 => ?_) (fun c_109 => ?_)
      · (try simp (disch := omega) only [i32_lti, i32_lei, i32_eqi, nI_toInt, i32z] at c_109)
        refine ev_iload_n (pc := 139) dX12_mark_139 rfl ?_
        by_cases s140_0 : (nI 4).toInt = 0
        · refine ev_tableIn (pc := 140) 176 dX12_mark_140 (by omega) (by omega) (by rw [s140_0]; rfl) (by decide) ?_
          refine ev_iload_n (pc := 176) dX12_mark_176 rfl ?_
          refine ev_iret (pc := 177) dX12_mark_177 rfl rfl (Nat.le_of_ble_eq_true rfl) (Nat.le_of_ble_eq_true rfl) ?_
          first | exact absurd rfl ‹¬ (nI 4).toInt = 4› | exact absurd ‹(nI 4).toInt = _› (by decide) | exact ⟨_, rfl, rfl, rfl, (fun q a => f1 q (by omega)), p.mo (fun q a => f1 q a) ⟨at_, bg, tk, td, rt, rn, rm, rd, mn, bd, br, o1⟩⟩
        by_cases s140_1 : (nI 4).toInt = 1
        · refine ev_tableIn (pc := 140) 178 dX12_mark_140 (by omega) (by omega) (by rw [s140_1]; rfl) (by decide) ?_
          refine ev_iload_n (pc := 178) dX12_mark_178 rfl ?_
          refine ev_aload_n (pc := 179) dX12_mark_179 rfl ?_
          refine gf_X12_22 (pc := 180) rfl dX12_mark_180 (by (try dsimp only); (repeat (first | rw [up_s] | rw [up_n (by omega)])) <;> first | rfl | assumption) ?_
          refine ev_iload_n (pc := 183) dX12_mark_183 rfl ?_
          refine ev_iald (pc := 184) dX12_mark_184 (by (try dsimp only); (repeat (first | rw [up_s] | rw [up_n (by omega)])) <;> first | rfl | assumption) (nI_toInt (by omega)) (xg (by omega) (b4 t ht).1) ?_
          refine ev_iadd (pc := 185) dX12_mark_185 ?_
          skip
          refine ev_iret (pc := 186) dX12_mark_186 rfl rfl (Nat.le_of_ble_eq_true rfl) (Nat.le_of_ble_eq_true rfl) ?_
          first | exact absurd rfl ‹¬ (nI 4).toInt = 4› | exact absurd ‹(nI 4).toInt = _› (by decide) | exact ⟨_, rfl, rfl, rfl, (fun q a => f1 q (by omega)), p.mo (fun q a => f1 q a) ⟨at_, bg, tk, td, rt, rn, rm, rd, mn, bd, br, o1⟩⟩
        by_cases s140_2 : (nI 4).toInt = 2
        · refine ev_tableIn (pc := 140) 187 dX12_mark_140 (by omega) (by omega) (by rw [s140_2]; rfl) (by decide) ?_
          refine ev_iload_n (pc := 187) dX12_mark_187 rfl ?_
          refine ev_iload (pc := 188) dX12_mark_188 rfl ?_
          refine ev_isub (pc := 190) dX12_mark_190 ?_
          refine ev_iret (pc := 191) dX12_mark_191 rfl rfl (Nat.le_of_ble_eq_true rfl) (Nat.le_of_ble_eq_true rfl) ?_
          first | exact absurd rfl ‹¬ (nI 4).toInt = 4› | exact absurd ‹(nI 4).toInt = _› (by decide) | exact ⟨_, rfl, rfl, rfl, (fun q a => f1 q (by omega)), p.mo (fun q a => f1 q a) ⟨at_, bg, tk, td, rt, rn, rm, rd, mn, bd, br, o1⟩⟩
        by_cases s140_3 : (nI 4).toInt = 3
        · refine ev_tableIn (pc := 140) 192 dX12_mark_140 (by omega) (by omega) (by rw [s140_3]; rfl) (by decide) ?_
          refine ev_iconst (pc := 192) (v := nI 2) dX12_mark_192 kc_2 ?_
          refine ev_iload_n (pc := 193) dX12_mark_193 rfl ?_
          refine ev_aload_n (pc := 194) dX12_mark_194 rfl ?_
          refine gf_X12_22 (pc := 195) rfl dX12_mark_195 (by (try dsimp only); (repeat (first | rw [up_s] | rw [up_n (by omega)])) <;> first | rfl | assumption) ?_
          refine ev_iload_n (pc := 198) dX12_mark_198 rfl ?_
          refine ev_iald (pc := 199) dX12_mark_199 (by (try dsimp only); (repeat (first | rw [up_s] | rw [up_n (by omega)])) <;> first | rfl | assumption) (nI_toInt (by omega)) (xg (by omega) (b4 t ht).1) ?_
          refine ev_iadd (pc := 200) dX12_mark_200 ?_
          skip
          refine ev_imul (pc := 201) dX12_mark_201 ?_
          refine ev_iret (pc := 202) dX12_mark_202 rfl rfl (Nat.le_of_ble_eq_true rfl) (Nat.le_of_ble_eq_true rfl) ?_
          first | exact absurd rfl ‹¬ (nI 4).toInt = 4› | exact absurd ‹(nI 4).toInt = _› (by decide) | exact ⟨_, rfl, rfl, rfl, (fun q a => f1 q (by omega)), p.mo (fun q a => f1 q a) ⟨at_, bg, tk, td, rt, rn, rm, rd, mn, bd, br, o1⟩⟩
        by_cases s140_4 : (nI 4).toInt = 4
        · refine ev_tableIn (pc := 140) 203 dX12_mark_140 (by omega) (by omega) (by rw [s140_4]; rfl) (by decide) ?_
          refine ev_iload_n (pc := 203) dX12_mark_203 rfl ?_
          refine ev_iload (pc := 204) dX12_mark_204 rfl ?_
          refine ev_isub (pc := 206) dX12_mark_206 ?_
          refine ev_aload_n (pc := 207) dX12_mark_207 rfl ?_
          refine gf_X12_31 (pc := 208) rfl dX12_mark_208 (by (try dsimp only); (repeat (first | rw [up_s] | rw [up_n (by omega)])) <;> first | rfl | assumption) ?_
          refine ev_iconst (pc := 211) (v := nI 2) dX12_mark_211 kc_2 ?_
          refine ev_iald (pc := 212) dX12_mark_212 (by (try dsimp only); (repeat (first | rw [up_s] | rw [up_n (by omega)])) <;> first | rfl | assumption) (nI_toInt (by omega)) (x_2 _) ?_
          refine ev_iadd (pc := 213) dX12_mark_213 ?_
          skip
          refine ev_iret (pc := 214) dX12_mark_214 rfl rfl (Nat.le_of_ble_eq_true rfl) (Nat.le_of_ble_eq_true rfl) ?_
          first | exact absurd rfl ‹¬ (nI 4).toInt = 4› | exact absurd ‹(nI 4).toInt = _› (by decide) | exact ⟨_, rfl, rfl, rfl, (fun q a => f1 q (by omega)), p.mo (fun q a => f1 q a) ⟨at_, bg, tk, td, rt, rn, rm, rd, mn, bd, br, o1⟩⟩
        refine ev_tableOut (pc := 140) 215 dX12_mark_140 (by omega) (by decide) ?_
        refine ev_iload_n (pc := 215) dX12_mark_215 rfl ?_
        refine ev_aload_n (pc := 216) dX12_mark_216 rfl ?_
        refine gf_X12_31 (pc := 217) rfl dX12_mark_217 (by (try dsimp only); (repeat (first | rw [up_s] | rw [up_n (by omega)])) <;> first | rfl | assumption) ?_
        refine ev_iconst (pc := 220) (v := nI 0) dX12_mark_220 kc_0 ?_
        refine ev_iald (pc := 221) dX12_mark_221 (by (try dsimp only); (repeat (first | rw [up_s] | rw [up_n (by omega)])) <;> first | rfl | assumption) (nI_toInt (by omega)) (x_0 _) ?_
        refine ev_iadd (pc := 222) dX12_mark_222 ?_
        skip
        refine ev_iret (pc := 223) dX12_mark_223 rfl rfl (Nat.le_of_ble_eq_true rfl) (Nat.le_of_ble_eq_true rfl) ?_
        first | exact absurd rfl ‹¬ (nI 4).toInt = 4› | exact absurd ‹(nI 4).toInt = _› (by decide) | exact ⟨_, rfl, rfl, rfl, (fun q a => f1 q (by omega)), p.mo (fun q a => f1 q a) ⟨at_, bg, tk, td, rt, rn, rm, rd, mn, bd, br, o1⟩⟩
      · exfalso; (try simp (disch := omega) only [i32_lti, i32_lei, i32_eqi, nI_toInt, i32z] at c_109); omega
    | succ c ih =>
      intro i hi
      have hw := (b9.2.2.2.2.2.1 i (by omega)).2.2
      have q := ih (i + 1) (by omega)
      rw [tW_s] at q
      refine ev_iload (pc := 103) dX12_mark_103 rfl ?_
      refine ev_aload_n (pc := 105) dX12_mark_105 rfl ?_
      refine gf_X12_137 (pc := 106) rfl dX12_mark_106 (by (try dsimp only); (repeat (first | rw [up_s] | rw [up_n (by omega)])) <;> first | rfl | assumption) ?_
      refine ev_icmp_ge (pc := 109) 139 dX12_mark_109 (by decide) (fun c_109 => ?_) (fun c_109 => ?_)
      · exfalso; (try simp (disch := omega) only [i32_lti, i32_lei, i32_eqi, nI_toInt, i32z] at c_109); omega
      · (try simp (disch := omega) only [i32_lti, i32_lei, i32_eqi, nI_toInt, i32z] at c_109)
        refine ev_iload (pc := 112) dX12_mark_112 rfl ?_
        refine ev_aload_n (pc := 114) dX12_mark_114 rfl ?_
        refine gf_X12_25 (pc := 115) rfl dX12_mark_115 (by (try dsimp only); (repeat (first | rw [up_s] | rw [up_n (by omega)])) <;> first | rfl | assumption) ?_
        refine ev_iload (pc := 118) dX12_mark_118 rfl ?_
        refine ev_iald (pc := 120) dX12_mark_120 (by (try dsimp only); (repeat (first | rw [up_s] | rw [up_n (by omega)])) <;> first | rfl | assumption) (nI_toInt (by omega)) (xg (by omega) (b4 i (by omega)).2) ?_
        refine ev_iload_n (pc := 121) dX12_mark_121 rfl ?_
        refine ev_icmp_ne (pc := 122) 129 dX12_mark_122 (by decide) (fun c_122 => ?_) (fun c_122 => ?_)
        · (try simp (disch := omega) only [i32_lti, i32_lei, i32_eqi, nI_toInt, i32z] at c_122)
          rw [if_neg (by omega)] at q
          refine ev_iconst (pc := 129) (v := nI 0) dX12_mark_129 kc_0 ?_
          refine ev_iadd (pc := 130) dX12_mark_130 ?_
          (try rw [nI_add])
          refine ev_istore (pc := 131) (L' := [_, _, _, _, _, _]) dX12_mark_131 (Nat.le_of_ble_eq_true rfl) rfl ?_
          refine ev_iinc (pc := 133) (L' := [_, _, _, _, _, _]) dX12_mark_133 rfl (nI_1 _) rfl ?_
          refine ev_goto (pc := 136) 103 dX12_mark_136 (by decide) ?_
          exact q
        · (try simp (disch := omega) only [i32_lti, i32_lei, i32_eqi, nI_toInt, i32z] at c_122)
          rw [if_pos (by omega)] at q
          refine ev_iconst (pc := 125) (v := nI 1) dX12_mark_125 kc_1 ?_
          refine ev_goto (pc := 126) 130 dX12_mark_126 (by decide) ?_
          refine ev_iadd (pc := 130) dX12_mark_130 ?_
          (try rw [nI_add])
          refine ev_istore (pc := 131) (L' := [_, _, _, _, _, _]) dX12_mark_131 (Nat.le_of_ble_eq_true rfl) rfl ?_
          refine ev_iinc (pc := 133) (L' := [_, _, _, _, _, _]) dX12_mark_133 rfl (nI_1 _) rfl ?_
          refine ev_goto (pc := 136) 103 dX12_mark_136 (by decide) ?_
          exact q
  refine ev_iload_n (pc := 0) dX12_mark_0 rfl ?_
  refine ev_i2l (pc := 1) dX12_mark_1 ?_
  refine ev_lconst (pc := 2) (v := 0) dX12_mark_2 kl_0 ?_
  refine ev_ldc2_w (pc := 3) dX12_mark_3 tw_1170 ?_
  refine iv_X12_63 (pc := 6) rfl dX12_mark_6 (Nat.le_of_ble_eq_true rfl) (Nat.le_of_ble_eq_true rfl) (Nat.le_of_ble_eq_true rfl) (Nat.le_of_ble_eq_true rfl) (c_in _ _ _) (kp ?_)
  rw [in_t (a := 0) (b := 5) (by omega) (by omega) _ _ rfl rfl]
  refine ev_if_eq (pc := 9) 20 dX12_mark_9 (by decide) (fun c_9 => ?_) (fun c_9 => ?_)
  · exact absurd c_9 (by decide)
  · (try simp (disch := omega) only [i32_lti, i32_lei, i32_eqi, nI_toInt, i32z] at c_9)
    refine ev_aload_n (pc := 12) dX12_mark_12 rfl ?_
    refine ev_iload_n (pc := 13) dX12_mark_13 rfl ?_
    refine iv_X12_176 (pc := 14) rfl dX12_mark_14 (by (try dsimp only); (repeat (first | rw [up_s] | rw [up_n (by omega)])) <;> first | rfl | assumption) (Nat.le_of_ble_eq_true rfl) (Nat.le_of_ble_eq_true rfl) (Nat.le_of_ble_eq_true rfl) (Nat.le_of_ble_eq_true rfl) (c_mIsTale po h6 (nI t)) (kp ?_)
    rw [iTn_nI (by omega), decide_eq_true ht]
    refine ev_if_ne (pc := 17) 23 dX12_mark_17 (by decide) (fun c_17 => ?_) (fun c_17 => ?_)
    · (try simp (disch := omega) only [i32_lti, i32_lei, i32_eqi, nI_toInt, i32z] at c_17)
      refine ev_aload_n (pc := 23) dX12_mark_23 rfl ?_
      refine ev_dup (pc := 24) dX12_mark_24 rfl ?_
      refine gf_X12_245 (pc := 25) rfl dX12_mark_25 (by (try dsimp only); (repeat (first | rw [up_s] | rw [up_n (by omega)])) <;> first | rfl | assumption) ?_
      refine ev_iload_n (pc := 28) dX12_mark_28 rfl ?_
      refine ev_if_ne (pc := 29) 36 dX12_mark_29 (by decide) (fun c_29 => ?_) (fun c_29 => ?_)
      · (try simp (disch := omega) only [i32_lti, i32_lei, i32_eqi, nI_toInt, i32z] at c_29)
        refine ev_iload_n (pc := 36) dX12_mark_36 rfl ?_
        refine ev_iconst (pc := 37) (v := nI 1) dX12_mark_37 kc_1 ?_
        refine ev_icmp_ne (pc := 38) 47 dX12_mark_38 (by decide) (fun c_38 => ?_) (fun c_38 => ?_)
        · (try simp (disch := omega) only [i32_lti, i32_lei, i32_eqi, nI_toInt, i32z] at c_38)
          refine ev_iload_n (pc := 47) dX12_mark_47 rfl ?_
          refine ev_iconst (pc := 48) (v := nI 2) dX12_mark_48 kc_2 ?_
          refine ev_icmp_ne (pc := 49) 58 dX12_mark_49 (by decide) (fun c_49 => ?_) (fun c_49 => ?_)
          · (try simp (disch := omega) only [i32_lti, i32_lei, i32_eqi, nI_toInt, i32z] at c_49)
            refine ev_iload_n (pc := 58) dX12_mark_58 rfl ?_
            refine ev_iconst (pc := 59) (v := nI 3) dX12_mark_59 kc_3 ?_
            refine ev_icmp_ne (pc := 60) 69 dX12_mark_60 (by decide) (fun c_60 => ?_) (fun c_60 => ?_)
            · (try simp (disch := omega) only [i32_lti, i32_lei, i32_eqi, nI_toInt, i32z] at c_60)
              refine ev_iload_n (pc := 69) dX12_mark_69 rfl ?_
              refine ev_iconst (pc := 70) (v := nI 4) dX12_mark_70 kc_4 ?_
              refine ev_icmp_ne (pc := 71) 80 dX12_mark_71 (by decide) (fun c_71 => ?_) (fun c_71 => ?_)
              · exact absurd rfl c_71
              · (try simp (disch := omega) only [i32_lti, i32_lei, i32_eqi, nI_toInt, i32z] at c_71)
                refine ev_ldc2_w (pc := 74) dX12_mark_74 tw_1175 ?_
                refine ev_goto (pc := 77) 83 dX12_mark_77 (by decide) ?_
                refine ev_ladd (pc := 83) dX12_mark_83 ?_
                rw [show (10101 : Int64) = trK 4 from rfl]
                refine pf_X12_245 (pc := 84) rfl dX12_mark_84 (by (try dsimp only); (repeat (first | rw [up_s] | rw [up_n (by omega)])) <;> first | rfl | assumption) ?_
                refine ev_aload_n (pc := 87) dX12_mark_87 rfl ?_
                refine gf_X12_31 (pc := 88) rfl dX12_mark_88 (by (try dsimp only); (repeat (first | rw [up_s] | rw [up_n (by omega)])) <;> first | rfl | assumption) ?_
                refine ev_bipush (pc := 91) (v := nI 10) dX12_mark_91 kb_10 ?_
                refine ev_iload_n (pc := 93) dX12_mark_93 rfl ?_
                refine ev_iadd (pc := 94) dX12_mark_94 ?_
                (try rw [nI_add])
                refine ev_iald (pc := 95) dX12_mark_95 (by (try dsimp only); (repeat (first | rw [up_s] | rw [up_n (by omega)])) <;> first | rfl | assumption) (nI_toInt (by omega)) (x_F (by omega)) ?_
                refine ev_istore_n (pc := 96) (L' := [_, _, _, _, _, _]) dX12_mark_96 (Nat.le_of_ble_eq_true rfl) rfl ?_
                refine ev_iconst (pc := 97) (v := nI 0) dX12_mark_97 kc_0 ?_
                refine ev_istore (pc := 98) (L' := [_, _, _, _, _, _]) dX12_mark_98 (Nat.le_of_ble_eq_true rfl) rfl ?_
                refine ev_iconst (pc := 100) (v := nI 0) dX12_mark_100 kc_0 ?_
                refine ev_istore (pc := 101) (L' := [_, _, _, _, _, _]) dX12_mark_101 (Nat.le_of_ble_eq_true rfl) rfl ?_
                exact loop _ (by intro q a; (try dsimp only); rw [up_n (by omega)]) (by unfold pMO; exact (by (try dsimp only); (repeat (first | rw [up_s] | rw [up_n (by omega)])) <;> first | rfl | assumption)) (bT B) 0 (by omega)
            · exact absurd c_60 (by decide)
          · exact absurd c_49 (by decide)
        · exact absurd c_38 (by decide)
      · exact absurd c_29 (by decide)
    · exact absurd c_17 (by decide)
theorem c_M_mark5 (p : pM h m cs B N P I J wn op n tr) (b9 : wB mx B) (g : wT N) {t : Nat} (ht : t < bT B) : Ct X 2 mt_X12_mark [.ref m, .int (nI 5), .int (nI t)] (h, z) 0 0 (Qi (fun r S' => r = aMark B N t 5 ∧ S'.2 = z ∧ hfr h S'.1 m 17 ∧ pM S'.1 m cs B N P I J wn op n (tr + trK 5))) := by
  obtain ⟨⟨at_, bg, tk, td, rt, rn, rm, rd, mn, bd, br, po⟩, px, pr, ⟨fp, fw, fh, b1, b2, b3, b4, b5⟩, pn, -⟩ := id p
  have po' := po
  unfold pMO at po'
  unfold pRw at pn
  have h6 := b9.1
  refine mk_X12_mark (Nat.le_of_ble_eq_true rfl) (L := [.ref m, .int (nI 5), .int (nI t), .retAddr 0, .retAddr 0, .retAddr 0]) rfl ?_
  have loop : ∀ (h1 : Hp), (∀ q : Nat, q ≠ m → h1 q = h q) → pMO h1 m (nI cs.length) at_ bg tk td rt rn rm rd (nI (bT B)) (nI (bK B)) (nI (bM B)) (nI (bD B)) (nI 0) (nI (tS N)) (nI P.length) mn bd br (nI n) (tr + trK 5) → ∀ (c i : Nat), i + c = bT B → Ev X (mi_X12_mark 2 0 0) (Qi (fun r S' => r = aMark B N t 5 ∧ S'.2 = z ∧ hfr h S'.1 m 17 ∧ pM S'.1 m cs B N P I J wn op n (tr + trK 5))) 0 0 (h1, z) 103 [.ref m, .int (nI 5), .int (nI t), .int (nI (gN (tF N) t)), .int (nI (tW B t i)), .int (nI i)] [] := by
    intro h1 f1 o1 c
    have o1' := o1
    unfold pMO at o1'
    have a1 := (f1 (m + 8) (by omega)).trans pn
    have a2 := (f1 (m + 5) (by omega)).trans b1
    have a3 := (f1 (m + 6) (by omega)).trans b2
    induction c with
    | zero =>
      intro i hi
      have ei : i = bT B := by omega
      subst ei
      refine ev_iload (pc := 103) dX12_mark_103 rfl ?_
      refine ev_aload_n (pc := 105) dX12_mark_105 rfl ?_
      refine gf_X12_137 (pc := 106) rfl dX12_mark_106 (by (try dsimp only); (repeat (first | rw [up_s] | rw [up_n (by omega)])) <;> first | rfl | assumption) ?_
      refine ev_icmp_ge (pc := 109) 139 dX12_mark_109 (by decide) (fun c_109 => ?_) (fun c_109 => ?_)
      · (try simp (disch := omega) only [i32_lti, i32_lei, i32_eqi, nI_toInt, i32z] at c_109)
        refine ev_iload_n (pc := 139) dX12_mark_139 rfl ?_
        by_cases s140_0 : (nI 5).toInt = 0
        · refine ev_tableIn (pc := 140) 176 dX12_mark_140 (by omega) (by omega) (by rw [s140_0]; rfl) (by decide) ?_
          refine ev_iload_n (pc := 176) dX12_mark_176 rfl ?_
          refine ev_iret (pc := 177) dX12_mark_177 rfl rfl (Nat.le_of_ble_eq_true rfl) (Nat.le_of_ble_eq_true rfl) ?_
          first | exact absurd rfl ‹¬ (nI 5).toInt = 5› | exact absurd ‹(nI 5).toInt = _› (by decide) | exact ⟨_, rfl, rfl, rfl, (fun q a => f1 q (by omega)), p.mo (fun q a => f1 q a) ⟨at_, bg, tk, td, rt, rn, rm, rd, mn, bd, br, o1⟩⟩
        by_cases s140_1 : (nI 5).toInt = 1
        · refine ev_tableIn (pc := 140) 178 dX12_mark_140 (by omega) (by omega) (by rw [s140_1]; rfl) (by decide) ?_
          refine ev_iload_n (pc := 178) dX12_mark_178 rfl ?_
          refine ev_aload_n (pc := 179) dX12_mark_179 rfl ?_
          refine gf_X12_22 (pc := 180) rfl dX12_mark_180 (by (try dsimp only); (repeat (first | rw [up_s] | rw [up_n (by omega)])) <;> first | rfl | assumption) ?_
          refine ev_iload_n (pc := 183) dX12_mark_183 rfl ?_
          refine ev_iald (pc := 184) dX12_mark_184 (by (try dsimp only); (repeat (first | rw [up_s] | rw [up_n (by omega)])) <;> first | rfl | assumption) (nI_toInt (by omega)) (xg (by omega) (b4 t ht).1) ?_
          refine ev_iadd (pc := 185) dX12_mark_185 ?_
          skip
          refine ev_iret (pc := 186) dX12_mark_186 rfl rfl (Nat.le_of_ble_eq_true rfl) (Nat.le_of_ble_eq_true rfl) ?_
          first | exact absurd rfl ‹¬ (nI 5).toInt = 5› | exact absurd ‹(nI 5).toInt = _› (by decide) | exact ⟨_, rfl, rfl, rfl, (fun q a => f1 q (by omega)), p.mo (fun q a => f1 q a) ⟨at_, bg, tk, td, rt, rn, rm, rd, mn, bd, br, o1⟩⟩
        by_cases s140_2 : (nI 5).toInt = 2
        · refine ev_tableIn (pc := 140) 187 dX12_mark_140 (by omega) (by omega) (by rw [s140_2]; rfl) (by decide) ?_
          refine ev_iload_n (pc := 187) dX12_mark_187 rfl ?_
          refine ev_iload (pc := 188) dX12_mark_188 rfl ?_
          refine ev_isub (pc := 190) dX12_mark_190 ?_
          refine ev_iret (pc := 191) dX12_mark_191 rfl rfl (Nat.le_of_ble_eq_true rfl) (Nat.le_of_ble_eq_true rfl) ?_
          first | exact absurd rfl ‹¬ (nI 5).toInt = 5› | exact absurd ‹(nI 5).toInt = _› (by decide) | exact ⟨_, rfl, rfl, rfl, (fun q a => f1 q (by omega)), p.mo (fun q a => f1 q a) ⟨at_, bg, tk, td, rt, rn, rm, rd, mn, bd, br, o1⟩⟩
        by_cases s140_3 : (nI 5).toInt = 3
        · refine ev_tableIn (pc := 140) 192 dX12_mark_140 (by omega) (by omega) (by rw [s140_3]; rfl) (by decide) ?_
          refine ev_iconst (pc := 192) (v := nI 2) dX12_mark_192 kc_2 ?_
          refine ev_iload_n (pc := 193) dX12_mark_193 rfl ?_
          refine ev_aload_n (pc := 194) dX12_mark_194 rfl ?_
          refine gf_X12_22 (pc := 195) rfl dX12_mark_195 (by (try dsimp only); (repeat (first | rw [up_s] | rw [up_n (by omega)])) <;> first | rfl | assumption) ?_
          refine ev_iload_n (pc := 198) dX12_mark_198 rfl ?_
          refine ev_iald (pc := 199) dX12_mark_199 (by (try dsimp only); (repeat (first | rw [up_s] | rw [up_n (by omega)])) <;> first | rfl | assumption) (nI_toInt (by omega)) (xg (by omega) (b4 t ht).1) ?_
          refine ev_iadd (pc := 200) dX12_mark_200 ?_
          skip
          refine ev_imul (pc := 201) dX12_mark_201 ?_
          refine ev_iret (pc := 202) dX12_mark_202 rfl rfl (Nat.le_of_ble_eq_true rfl) (Nat.le_of_ble_eq_true rfl) ?_
          first | exact absurd rfl ‹¬ (nI 5).toInt = 5› | exact absurd ‹(nI 5).toInt = _› (by decide) | exact ⟨_, rfl, rfl, rfl, (fun q a => f1 q (by omega)), p.mo (fun q a => f1 q a) ⟨at_, bg, tk, td, rt, rn, rm, rd, mn, bd, br, o1⟩⟩
        by_cases s140_4 : (nI 5).toInt = 4
        · refine ev_tableIn (pc := 140) 203 dX12_mark_140 (by omega) (by omega) (by rw [s140_4]; rfl) (by decide) ?_
          refine ev_iload_n (pc := 203) dX12_mark_203 rfl ?_
          refine ev_iload (pc := 204) dX12_mark_204 rfl ?_
          refine ev_isub (pc := 206) dX12_mark_206 ?_
          refine ev_aload_n (pc := 207) dX12_mark_207 rfl ?_
          refine gf_X12_31 (pc := 208) rfl dX12_mark_208 (by (try dsimp only); (repeat (first | rw [up_s] | rw [up_n (by omega)])) <;> first | rfl | assumption) ?_
          refine ev_iconst (pc := 211) (v := nI 2) dX12_mark_211 kc_2 ?_
          refine ev_iald (pc := 212) dX12_mark_212 (by (try dsimp only); (repeat (first | rw [up_s] | rw [up_n (by omega)])) <;> first | rfl | assumption) (nI_toInt (by omega)) (x_2 _) ?_
          refine ev_iadd (pc := 213) dX12_mark_213 ?_
          skip
          refine ev_iret (pc := 214) dX12_mark_214 rfl rfl (Nat.le_of_ble_eq_true rfl) (Nat.le_of_ble_eq_true rfl) ?_
          first | exact absurd rfl ‹¬ (nI 5).toInt = 5› | exact absurd ‹(nI 5).toInt = _› (by decide) | exact ⟨_, rfl, rfl, rfl, (fun q a => f1 q (by omega)), p.mo (fun q a => f1 q a) ⟨at_, bg, tk, td, rt, rn, rm, rd, mn, bd, br, o1⟩⟩
        refine ev_tableOut (pc := 140) 215 dX12_mark_140 (by omega) (by decide) ?_
        refine ev_iload_n (pc := 215) dX12_mark_215 rfl ?_
        refine ev_aload_n (pc := 216) dX12_mark_216 rfl ?_
        refine gf_X12_31 (pc := 217) rfl dX12_mark_217 (by (try dsimp only); (repeat (first | rw [up_s] | rw [up_n (by omega)])) <;> first | rfl | assumption) ?_
        refine ev_iconst (pc := 220) (v := nI 0) dX12_mark_220 kc_0 ?_
        refine ev_iald (pc := 221) dX12_mark_221 (by (try dsimp only); (repeat (first | rw [up_s] | rw [up_n (by omega)])) <;> first | rfl | assumption) (nI_toInt (by omega)) (x_0 _) ?_
        refine ev_iadd (pc := 222) dX12_mark_222 ?_
        skip
        refine ev_iret (pc := 223) dX12_mark_223 rfl rfl (Nat.le_of_ble_eq_true rfl) (Nat.le_of_ble_eq_true rfl) ?_
        first | exact absurd rfl ‹¬ (nI 5).toInt = 5› | exact absurd ‹(nI 5).toInt = _› (by decide) | exact ⟨_, rfl, rfl, rfl, (fun q a => f1 q (by omega)), p.mo (fun q a => f1 q a) ⟨at_, bg, tk, td, rt, rn, rm, rd, mn, bd, br, o1⟩⟩
      · exfalso; (try simp (disch := omega) only [i32_lti, i32_lei, i32_eqi, nI_toInt, i32z] at c_109); omega
    | succ c ih =>
      intro i hi
      have hw := (b9.2.2.2.2.2.1 i (by omega)).2.2
      have q := ih (i + 1) (by omega)
      rw [tW_s] at q
      refine ev_iload (pc := 103) dX12_mark_103 rfl ?_
      refine ev_aload_n (pc := 105) dX12_mark_105 rfl ?_
      refine gf_X12_137 (pc := 106) rfl dX12_mark_106 (by (try dsimp only); (repeat (first | rw [up_s] | rw [up_n (by omega)])) <;> first | rfl | assumption) ?_
      refine ev_icmp_ge (pc := 109) 139 dX12_mark_109 (by decide) (fun c_109 => ?_) (fun c_109 => ?_)
      · exfalso; (try simp (disch := omega) only [i32_lti, i32_lei, i32_eqi, nI_toInt, i32z] at c_109); omega
      · (try simp (disch := omega) only [i32_lti, i32_lei, i32_eqi, nI_toInt, i32z] at c_109)
        refine ev_iload (pc := 112) dX12_mark_112 rfl ?_
        refine ev_aload_n (pc := 114) dX12_mark_114 rfl ?_
        refine gf_X12_25 (pc := 115) rfl dX12_mark_115 (by (try dsimp only); (repeat (first | rw [up_s] | rw [up_n (by omega)])) <;> first | rfl | assumption) ?_
        refine ev_iload (pc := 118) dX12_mark_118 rfl ?_
        refine ev_iald (pc := 120) dX12_mark_120 (by (try dsimp only); (repeat (first | rw [up_s] | rw [up_n (by omega)])) <;> first | rfl | assumption) (nI_toInt (by omega)) (xg (by omega) (b4 i (by omega)).2) ?_
        refine ev_iload_n (pc := 121) dX12_mark_121 rfl ?_
        refine ev_icmp_ne (pc := 122) 129 dX12_mark_122 (by decide) (fun c_122 => ?_) (fun c_122 => ?_)
        · (try simp (disch := omega) only [i32_lti, i32_lei, i32_eqi, nI_toInt, i32z] at c_122)
          rw [if_neg (by omega)] at q
          refine ev_iconst (pc := 129) (v := nI 0) dX12_mark_129 kc_0 ?_
          refine ev_iadd (pc := 130) dX12_mark_130 ?_
          (try rw [nI_add])
          refine ev_istore (pc := 131) (L' := [_, _, _, _, _, _]) dX12_mark_131 (Nat.le_of_ble_eq_true rfl) rfl ?_
          refine ev_iinc (pc := 133) (L' := [_, _, _, _, _, _]) dX12_mark_133 rfl (nI_1 _) rfl ?_
          refine ev_goto (pc := 136) 103 dX12_mark_136 (by decide) ?_
          exact q
        · (try simp (disch := omega) only [i32_lti, i32_lei, i32_eqi, nI_toInt, i32z] at c_122)
          rw [if_pos (by omega)] at q
          refine ev_iconst (pc := 125) (v := nI 1) dX12_mark_125 kc_1 ?_
          refine ev_goto (pc := 126) 130 dX12_mark_126 (by decide) ?_
          refine ev_iadd (pc := 130) dX12_mark_130 ?_
          (try rw [nI_add])
          refine ev_istore (pc := 131) (L' := [_, _, _, _, _, _]) dX12_mark_131 (Nat.le_of_ble_eq_true rfl) rfl ?_
          refine ev_iinc (pc := 133) (L' := [_, _, _, _, _, _]) dX12_mark_133 rfl (nI_1 _) rfl ?_
          refine ev_goto (pc := 136) 103 dX12_mark_136 (by decide) ?_
          exact q
  refine ev_iload_n (pc := 0) dX12_mark_0 rfl ?_
  refine ev_i2l (pc := 1) dX12_mark_1 ?_
  refine ev_lconst (pc := 2) (v := 0) dX12_mark_2 kl_0 ?_
  refine ev_ldc2_w (pc := 3) dX12_mark_3 tw_1170 ?_
  refine iv_X12_63 (pc := 6) rfl dX12_mark_6 (Nat.le_of_ble_eq_true rfl) (Nat.le_of_ble_eq_true rfl) (Nat.le_of_ble_eq_true rfl) (Nat.le_of_ble_eq_true rfl) (c_in _ _ _) (kp ?_)
  rw [in_t (a := 0) (b := 5) (by omega) (by omega) _ _ rfl rfl]
  refine ev_if_eq (pc := 9) 20 dX12_mark_9 (by decide) (fun c_9 => ?_) (fun c_9 => ?_)
  · exact absurd c_9 (by decide)
  · (try simp (disch := omega) only [i32_lti, i32_lei, i32_eqi, nI_toInt, i32z] at c_9)
    refine ev_aload_n (pc := 12) dX12_mark_12 rfl ?_
    refine ev_iload_n (pc := 13) dX12_mark_13 rfl ?_
    refine iv_X12_176 (pc := 14) rfl dX12_mark_14 (by (try dsimp only); (repeat (first | rw [up_s] | rw [up_n (by omega)])) <;> first | rfl | assumption) (Nat.le_of_ble_eq_true rfl) (Nat.le_of_ble_eq_true rfl) (Nat.le_of_ble_eq_true rfl) (Nat.le_of_ble_eq_true rfl) (c_mIsTale po h6 (nI t)) (kp ?_)
    rw [iTn_nI (by omega), decide_eq_true ht]
    refine ev_if_ne (pc := 17) 23 dX12_mark_17 (by decide) (fun c_17 => ?_) (fun c_17 => ?_)
    · (try simp (disch := omega) only [i32_lti, i32_lei, i32_eqi, nI_toInt, i32z] at c_17)
      refine ev_aload_n (pc := 23) dX12_mark_23 rfl ?_
      refine ev_dup (pc := 24) dX12_mark_24 rfl ?_
      refine gf_X12_245 (pc := 25) rfl dX12_mark_25 (by (try dsimp only); (repeat (first | rw [up_s] | rw [up_n (by omega)])) <;> first | rfl | assumption) ?_
      refine ev_iload_n (pc := 28) dX12_mark_28 rfl ?_
      refine ev_if_ne (pc := 29) 36 dX12_mark_29 (by decide) (fun c_29 => ?_) (fun c_29 => ?_)
      · (try simp (disch := omega) only [i32_lti, i32_lei, i32_eqi, nI_toInt, i32z] at c_29)
        refine ev_iload_n (pc := 36) dX12_mark_36 rfl ?_
        refine ev_iconst (pc := 37) (v := nI 1) dX12_mark_37 kc_1 ?_
        refine ev_icmp_ne (pc := 38) 47 dX12_mark_38 (by decide) (fun c_38 => ?_) (fun c_38 => ?_)
        · (try simp (disch := omega) only [i32_lti, i32_lei, i32_eqi, nI_toInt, i32z] at c_38)
          refine ev_iload_n (pc := 47) dX12_mark_47 rfl ?_
          refine ev_iconst (pc := 48) (v := nI 2) dX12_mark_48 kc_2 ?_
          refine ev_icmp_ne (pc := 49) 58 dX12_mark_49 (by decide) (fun c_49 => ?_) (fun c_49 => ?_)
          · (try simp (disch := omega) only [i32_lti, i32_lei, i32_eqi, nI_toInt, i32z] at c_49)
            refine ev_iload_n (pc := 58) dX12_mark_58 rfl ?_
            refine ev_iconst (pc := 59) (v := nI 3) dX12_mark_59 kc_3 ?_
            refine ev_icmp_ne (pc := 60) 69 dX12_mark_60 (by decide) (fun c_60 => ?_) (fun c_60 => ?_)
            · (try simp (disch := omega) only [i32_lti, i32_lei, i32_eqi, nI_toInt, i32z] at c_60)
              refine ev_iload_n (pc := 69) dX12_mark_69 rfl ?_
              refine ev_iconst (pc := 70) (v := nI 4) dX12_mark_70 kc_4 ?_
              refine ev_icmp_ne (pc := 71) 80 dX12_mark_71 (by decide) (fun c_71 => ?_) (fun c_71 => ?_)
              · (try simp (disch := omega) only [i32_lti, i32_lei, i32_eqi, nI_toInt, i32z] at c_71)
                refine ev_ldc2_w (pc := 80) dX12_mark_80 tw_1176 ?_
                refine ev_ladd (pc := 83) dX12_mark_83 ?_
                rw [show (100001 : Int64) = trK 5 from rfl]
                refine pf_X12_245 (pc := 84) rfl dX12_mark_84 (by (try dsimp only); (repeat (first | rw [up_s] | rw [up_n (by omega)])) <;> first | rfl | assumption) ?_
                refine ev_aload_n (pc := 87) dX12_mark_87 rfl ?_
                refine gf_X12_31 (pc := 88) rfl dX12_mark_88 (by (try dsimp only); (repeat (first | rw [up_s] | rw [up_n (by omega)])) <;> first | rfl | assumption) ?_
                refine ev_bipush (pc := 91) (v := nI 10) dX12_mark_91 kb_10 ?_
                refine ev_iload_n (pc := 93) dX12_mark_93 rfl ?_
                refine ev_iadd (pc := 94) dX12_mark_94 ?_
                (try rw [nI_add])
                refine ev_iald (pc := 95) dX12_mark_95 (by (try dsimp only); (repeat (first | rw [up_s] | rw [up_n (by omega)])) <;> first | rfl | assumption) (nI_toInt (by omega)) (x_F (by omega)) ?_
                refine ev_istore_n (pc := 96) (L' := [_, _, _, _, _, _]) dX12_mark_96 (Nat.le_of_ble_eq_true rfl) rfl ?_
                refine ev_iconst (pc := 97) (v := nI 0) dX12_mark_97 kc_0 ?_
                refine ev_istore (pc := 98) (L' := [_, _, _, _, _, _]) dX12_mark_98 (Nat.le_of_ble_eq_true rfl) rfl ?_
                refine ev_iconst (pc := 100) (v := nI 0) dX12_mark_100 kc_0 ?_
                refine ev_istore (pc := 101) (L' := [_, _, _, _, _, _]) dX12_mark_101 (Nat.le_of_ble_eq_true rfl) rfl ?_
                exact loop _ (by intro q a; (try dsimp only); rw [up_n (by omega)]) (by unfold pMO; exact (by (try dsimp only); (repeat (first | rw [up_s] | rw [up_n (by omega)])) <;> first | rfl | assumption)) (bT B) 0 (by omega)
              · exact absurd c_71 (by decide)
            · exact absurd c_60 (by decide)
          · exact absurd c_49 (by decide)
        · exact absurd c_38 (by decide)
      · exact absurd c_29 (by decide)
    · exact absurd c_17 (by decide)
end MTHR
