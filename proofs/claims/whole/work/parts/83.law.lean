/-! ===== the law: its loop ===== -/
theorem lSt.up {h : Hp} {d m k : Nat} (S : lSt h d m k) : lSt h d m (k + 1) := by
  obtain ⟨cs, B, N, P, I, J, wn, op, n, tr, pc, pm, g⟩ := S
  exact ⟨cs, B, N, P, I, J, wn, op, n, tr, pc, pm, g.up⟩
section LAWL
variable {X : Cx} {d m : Nat} {nm : String}
theorem law_loop (dm : d + 174 ≤ m) (hL : xL X ≤ 256) : ∀ (c k : Nat) (h : Hp) (z : Nat), k + c = 64 → lSt h d m k → Ev X (mi_L_law nm 10 600000 7302250) QL 191 14323 (h, z) 18 [.ref (xb X), .ref d, .ref m, .int (nI (4 * k))] [] := by
  intro c
  induction c with
  | zero =>
    intro k h z hk S
    refine ev_iload_n (pc := 18) dL_law_18 rfl ?_
    refine ev_aload_n (pc := 19) dL_law_19 rfl ?_
    refine ev_slen (pc := 20) dL_law_20 ?_
    refine ev_iconst (pc := 21) (v := nI 4) dL_law_21 kc_4 ?_
    refine ev_isub (pc := 22) dL_law_22 ?_
    refine ev_icmp_gt (pc := 23) 782 dL_law_23 (by decide) (fun c_23 => ?_) (fun c_23 => ?_)
    · (try simp (disch := omega) only [i32_lti, i32_lei, i32_eqi, nI_toInt, i32z] at c_23)
      rw [pk_sub_toInt (by omega) (by omega)] at c_23
      refine ev_iconst (pc := 782) (v := nI 1) dL_law_782 kc_1 ?_
      refine ev_iret (pc := 783) dL_law_783 rfl rfl (Nat.le_of_ble_eq_true rfl) (Nat.le_of_ble_eq_true rfl) ?_
      rfl
    · exfalso; (try simp (disch := omega) only [i32_lti, i32_lei, i32_eqi, nI_toInt, i32z] at c_23); rw [pk_sub_toInt (by omega) (by omega)] at c_23; omega
  | succ c ih =>
    intro k h z hk S
    have K : ∀ (h' : Hp) (z' : Nat), lSt h' d m (k + 1) → Ev X (mi_L_law nm 10 600000 7302250) QL 191 14323 (h', z') 776 [.ref (xb X), .ref d, .ref m, .int (nI (4 * k))] [] := by
      intro h' z' S'
      have q := ih (k + 1) h' z' (by omega) S'
      rw [show 4 * (k + 1) = 4 * k + 4 by omega] at q
      refine ev_iinc (pc := 776) (L' := [_, _, _, _]) dL_law_776 rfl (show nI (4 * k) + Int32.ofInt 4 = nI (4 * k + 4) from nI_add (4 * k) 4) rfl ?_
      refine ev_goto (pc := 779) 18 dL_law_779 (by decide) ?_
      exact q
    refine ev_iload_n (pc := 18) dL_law_18 rfl ?_
    refine ev_aload_n (pc := 19) dL_law_19 rfl ?_
    refine ev_slen (pc := 20) dL_law_20 ?_
    refine ev_iconst (pc := 21) (v := nI 4) dL_law_21 kc_4 ?_
    refine ev_isub (pc := 22) dL_law_22 ?_
    refine ev_icmp_gt (pc := 23) 782 dL_law_23 (by decide) (fun c_23 => ?_) (fun c_23 => ?_)
    · (try simp (disch := omega) only [i32_lti, i32_lei, i32_eqi, nI_toInt, i32z] at c_23)
      rw [pk_sub_toInt (by omega) (by omega)] at c_23
      refine ev_iconst (pc := 782) (v := nI 1) dL_law_782 kc_1 ?_
      refine ev_iret (pc := 783) dL_law_783 rfl rfl (Nat.le_of_ble_eq_true rfl) (Nat.le_of_ble_eq_true rfl) ?_
      rfl
    · (try simp (disch := omega) only [i32_lti, i32_lei, i32_eqi, nI_toInt, i32z] at c_23)
      rw [pk_sub_toInt (by omega) (by omega)] at c_23
      refine ev_aload_n (pc := 26) dL_law_26 rfl ?_
      refine ev_iload_n (pc := 27) dL_law_27 rfl ?_
      refine ev_sld (pc := 28) dL_law_28 (nI_toInt (by omega)) (by omega) ?_
      refine ev_bipush (pc := 29) (v := nI 31) dL_law_29 kb_31 ?_
      refine ev_iand (pc := 31) dL_law_31 ?_
      by_cases s32_0 : (xs X (4 * k) &&& nI 31).toInt = 0
      · refine ev_tableIn (pc := 32) 160 dL_law_32 (by omega) (by omega) (by rw [s32_0]; rfl) (by decide) ?_
        exact law_type S (by omega) dm (by omega) hL (fun h' S' => K h' _ S')
      by_cases s32_1 : (xs X (4 * k) &&& nI 31).toInt = 1
      · refine ev_tableIn (pc := 32) 183 dL_law_32 (by omega) (by omega) (by rw [s32_1]; rfl) (by decide) ?_
        exact law_clear S (by omega) dm (by omega) hL (fun h' S' => K h' _ S')
      by_cases s32_2 : (xs X (4 * k) &&& nI 31).toInt = 2
      · refine ev_tableIn (pc := 32) 196 dL_law_32 (by omega) (by omega) (by rw [s32_2]; rfl) (by decide) ?_
        exact law_tales S (by omega) dm (by omega) hL (fun h' S' => K h' _ S')
      by_cases s32_3 : (xs X (4 * k) &&& nI 31).toInt = 3
      · refine ev_tableIn (pc := 32) 209 dL_law_32 (by omega) (by omega) (by rw [s32_3]; rfl) (by decide) ?_
        exact law_tale S (by omega) dm (by omega) hL (fun h' S' => K h' _ S')
      by_cases s32_4 : (xs X (4 * k) &&& nI 31).toInt = 4
      · refine ev_tableIn (pc := 32) 242 dL_law_32 (by omega) (by omega) (by rw [s32_4]; rfl) (by decide) ?_
        exact law_hours S (by omega) dm (by omega) hL (fun h' S' => K h' _ S')
      by_cases s32_5 : (xs X (4 * k) &&& nI 31).toInt = 5
      · refine ev_tableIn (pc := 32) 265 dL_law_32 (by omega) (by omega) (by rw [s32_5]; rfl) (by decide) ?_
        exact law_begins S (by omega) dm (by omega) hL (fun h' S' => K h' _ S')
      by_cases s32_6 : (xs X (4 * k) &&& nI 31).toInt = 6
      · refine ev_tableIn (pc := 32) 288 dL_law_32 (by omega) (by omega) (by rw [s32_6]; rfl) (by decide) ?_
        exact law_tells S (by omega) dm (by omega) hL (fun h' S' => K h' _ S')
      by_cases s32_7 : (xs X (4 * k) &&& nI 31).toInt = 7
      · refine ev_tableIn (pc := 32) 301 dL_law_32 (by omega) (by omega) (by rw [s32_7]; rfl) (by decide) ?_
        exact law_silent S (by omega) dm (by omega) hL (fun h' S' => K h' _ S')
      by_cases s32_8 : (xs X (4 * k) &&& nI 31).toInt = 8
      · refine ev_tableIn (pc := 32) 314 dL_law_32 (by omega) (by omega) (by rw [s32_8]; rfl) (by decide) ?_
        exact law_dawn S (by omega) dm (by omega) hL (fun h' S' => K h' _ S')
      by_cases s32_9 : (xs X (4 * k) &&& nI 31).toInt = 9
      · refine ev_tableIn (pc := 32) 327 dL_law_32 (by omega) (by omega) (by rw [s32_9]; rfl) (by decide) ?_
        exact law_undo S (by omega) dm (by omega) hL (fun h' S' => K h' _ S')
      by_cases s32_10 : (xs X (4 * k) &&& nI 31).toInt = 10
      · refine ev_tableIn (pc := 32) 340 dL_law_32 (by omega) (by omega) (by rw [s32_10]; rfl) (by decide) ?_
        exact law_now S (by omega) dm (by omega) hL (fun h' S' => K h' _ S')
      by_cases s32_11 : (xs X (4 * k) &&& nI 31).toInt = 11
      · refine ev_tableIn (pc := 32) 363 dL_law_32 (by omega) (by omega) (by rw [s32_11]; rfl) (by decide) ?_
        exact law_on S (by omega) dm (by omega) hL (fun h' S' => K h' _ S')
      by_cases s32_12 : (xs X (4 * k) &&& nI 31).toInt = 12
      · refine ev_tableIn (pc := 32) 376 dL_law_32 (by omega) (by omega) (by rw [s32_12]; rfl) (by decide) ?_
        exact law_by S (by omega) dm (by omega) hL (fun h' S' => K h' _ S')
      by_cases s32_13 : (xs X (4 * k) &&& nI 31).toInt = 13
      · refine ev_tableIn (pc := 32) 399 dL_law_32 (by omega) (by omega) (by rw [s32_13]; rfl) (by decide) ?_
        exact law_best S (by omega) dm (by omega) hL (fun h' S' => K h' _ S')
      by_cases s32_14 : (xs X (4 * k) &&& nI 31).toInt = 14
      · refine ev_tableIn (pc := 32) 422 dL_law_32 (by omega) (by omega) (by rw [s32_14]; rfl) (by decide) ?_
        exact law_fewest S (by omega) dm (by omega) hL (fun h' S' => K h' _ S')
      by_cases s32_15 : (xs X (4 * k) &&& nI 31).toInt = 15
      · refine ev_tableIn (pc := 32) 455 dL_law_32 (by omega) (by omega) (by rw [s32_15]; rfl) (by decide) ?_
        exact law_mind S (by omega) dm (by omega) hL (fun h' S' => K h' _ S')
      by_cases s32_16 : (xs X (4 * k) &&& nI 31).toInt = 16
      · refine ev_tableIn (pc := 32) 488 dL_law_32 (by omega) (by omega) (by rw [s32_16]; rfl) (by decide) ?_
        exact law_bars S (by omega) dm (by omega) hL (fun h' S' => K h' _ S')
      by_cases s32_17 : (xs X (4 * k) &&& nI 31).toInt = 17
      · refine ev_tableIn (pc := 32) 511 dL_law_32 (by omega) (by omega) (by rw [s32_17]; rfl) (by decide) ?_
        exact law_longer S (by omega) dm (by omega) hL (fun h' S' => K h' _ S')
      by_cases s32_18 : (xs X (4 * k) &&& nI 31).toInt = 18
      · refine ev_tableIn (pc := 32) 524 dL_law_32 (by omega) (by omega) (by rw [s32_18]; rfl) (by decide) ?_
        exact law_heard S (by omega) dm (by omega) hL (fun h' S' => K h' _ S')
      by_cases s32_19 : (xs X (4 * k) &&& nI 31).toInt = 19
      · refine ev_tableIn (pc := 32) 557 dL_law_32 (by omega) (by omega) (by rw [s32_19]; rfl) (by decide) ?_
        exact law_forget S (by omega) dm (by omega) hL (fun h' S' => K h' _ S')
      by_cases s32_20 : (xs X (4 * k) &&& nI 31).toInt = 20
      · refine ev_tableIn (pc := 32) 570 dL_law_32 (by omega) (by omega) (by rw [s32_20]; rfl) (by decide) ?_
        exact law_orders S (by omega) dm (by omega) hL (fun h' S' => K h' _ S')
      by_cases s32_21 : (xs X (4 * k) &&& nI 31).toInt = 21
      · refine ev_tableIn (pc := 32) 593 dL_law_32 (by omega) (by omega) (by rw [s32_21]; rfl) (by decide) ?_
        exact law_surely S (by omega) dm (by omega) hL (fun h' S' => K h' _ S')
      by_cases s32_22 : (xs X (4 * k) &&& nI 31).toInt = 22
      · refine ev_tableIn (pc := 32) 616 dL_law_32 (by omega) (by omega) (by rw [s32_22]; rfl) (by decide) ?_
        exact law_odds S (by omega) dm (by omega) hL (fun h' S' => K h' _ S')
      by_cases s32_23 : (xs X (4 * k) &&& nI 31).toInt = 23
      · refine ev_tableIn (pc := 32) 660 dL_law_32 (by omega) (by omega) (by rw [s32_23]; rfl) (by decide) ?_
        exact law_mark S (by omega) dm (by omega) hL (fun h' S' => K h' _ S')
      by_cases s32_24 : (xs X (4 * k) &&& nI 31).toInt = 24
      · refine ev_tableIn (pc := 32) 693 dL_law_32 (by omega) (by omega) (by rw [s32_24]; rfl) (by decide) ?_
        exact law_keep S (by omega) dm (by omega) hL (fun h' S' => K h' _ S')
      by_cases s32_25 : (xs X (4 * k) &&& nI 31).toInt = 25
      · refine ev_tableIn (pc := 32) 716 dL_law_32 (by omega) (by omega) (by rw [s32_25]; rfl) (by decide) ?_
        exact law_back S (by omega) dm (by omega) hL (fun h' S' => K h' _ S')
      by_cases s32_26 : (xs X (4 * k) &&& nI 31).toInt = 26
      · refine ev_tableIn (pc := 32) 739 dL_law_32 (by omega) (by omega) (by rw [s32_26]; rfl) (by decide) ?_
        exact law_count S (by omega) dm (by omega) hL (fun h' S' => K h' _ S')
      by_cases s32_27 : (xs X (4 * k) &&& nI 31).toInt = 27
      · refine ev_tableIn (pc := 32) 762 dL_law_32 (by omega) (by omega) (by rw [s32_27]; rfl) (by decide) ?_
        exact law_trace S (by omega) dm (by omega) hL (fun h' S' => K h' _ S')
      refine ev_tableOut (pc := 32) 776 dL_law_32 (by omega) (by decide) ?_
      exact K h z S.up
theorem law_all {z : Nat} (hL : xL X ≤ 256) : Ev X (mi_L_law nm 10 600000 7302250) QL 0 0 ((fun _ => none), z) 0 [.ref (xb X), .retAddr 0, .retAddr 0, .retAddr 0] [] := by
  refine ev_new (pc := 0) (ci := 11) (fs := [.null, .null, .null, .null, .null, .int 0, .null, .null, .null, .int 0, .null]) dL_law_0 rfl inT11 tyX11_ok tw_18 tw_19 tw_1 nd11 (Nat.le_of_ble_eq_true rfl) (Nat.le_of_ble_eq_true rfl) ?_
  refine ev_dup (pc := 3) dL_law_3 rfl ?_
  refine iv_L_9 (pc := 4) rfl dL_law_4 (Nat.le_of_ble_eq_true rfl) (Nat.le_of_ble_eq_true rfl) (Nat.le_of_ble_eq_true rfl) (Nat.le_of_ble_eq_true rfl) (c_DawnTales_init (by (try dsimp only); (repeat (first | rw [up_s] | rw [up_n (by omega)])) <;> first | rfl | assumption) rfl) (kv (fun S' hS => ?_))
  obtain ⟨h1, z1⟩ := S'
  obtain ⟨rfl, f1, p1⟩ := hS
  refine ev_astore_n (pc := 7) (L' := [_, _, _, _]) dL_law_7 (Nat.le_of_ble_eq_true rfl) rfl ?_
  refine ev_new (pc := 8) (ci := 12) (fs := [.null, .int 0, .int 0, .int 0, .int 0, .int 0, .int 0, .int 0, .int 0, .int 0, .null, .null, .null, .int 0, .int 0, .int 0, .int 0, .null, .null, .null, .int 0, .null, .null, .int 0, .null, .int 0, .null, .int 0, .null, .null, .int 0, .int 0, .int 0, .null, .null, .long 0, .null]) dL_law_8 rfl inT12 tyX12_ok tw_830 tw_831 tw_13 nd12 (Nat.le_of_ble_eq_true rfl) (Nat.le_of_ble_eq_true rfl) ?_
  refine ev_dup (pc := 11) dL_law_11 rfl ?_
  refine iv_L_12 (pc := 12) rfl dL_law_12 (Nat.le_of_ble_eq_true rfl) (Nat.le_of_ble_eq_true rfl) (Nat.le_of_ble_eq_true rfl) (Nat.le_of_ble_eq_true rfl) (c_Model_init (by (try dsimp only); (repeat (first | rw [up_s] | rw [up_n (by omega)])) <;> first | rfl | assumption) rfl) (kv (fun S' hS => ?_))
  obtain ⟨h2, z2⟩ := S'
  obtain ⟨rfl, f2, p2⟩ := hS
  refine ev_astore_n (pc := 15) (L' := [_, _, _, _]) dL_law_15 (Nat.le_of_ble_eq_true rfl) rfl ?_
  refine ev_iconst (pc := 16) (v := nI 0) dL_law_16 kc_0 ?_
  refine ev_istore_n (pc := 17) (L' := [_, _, _, _]) dL_law_17 (Nat.le_of_ble_eq_true rfl) rfl ?_
  exact law_loop (Nat.le_refl _) hL 64 0 h2 _ rfl ⟨_, _, _, _, _, _, _, _, _, _, p1.fr (fun q a b => (f2 q (by omega)).trans (up_n (by omega))), p2, gC.new wB_new 0⟩
end LAWL
