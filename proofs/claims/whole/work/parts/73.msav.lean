/-! ===== the model: on, saves ===== -/
theorem onW_dead {B : Bk} {T : Tl} (h : tV T = false) (n : Nat) : onW B n T = 0 := by
  cases n with
  | zero => rfl
  | succ n =>
    have e : quietT 10 T = T := by simp only [quietT]; rw [h]; rfl
    simp only [onW]
    rw [e]
    unfold dawns99
    rw [h, Bool.false_and, Bool.false_and]
    rfl
theorem dawnT_H {B : Bk} {T : Tl} {m : Nat} (b : wB m B) (h : tH T ≤ m) : tH (dawnT B T) ≤ m := by
  have := b.ho (tN T + 1)
  unfold dawnT
  split
  · exact this
  · exact h
theorem dawnT_ok {B : Bk} {T : Tl} (h : dawnOk B T = true) : tV (dawnT B T) = tV T ∧ tN (dawnT B T) = tN T + 1 := by
  unfold dawnT
  rw [if_pos h]
  exact ⟨rfl, rfl⟩
theorem dawnT_no {B : Bk} {T : Tl} (h : dawnOk B T = false) : tV (dawnT B T) = false := by
  unfold dawnT
  rw [if_neg (by rw [h]; decide)]
section MSAV
variable {X : Cx} {h : Hp} {z n mx : Nat} {cs : List Nat} {B : Bk} {N : Tl} {P : List Tl} {I J : Im} {wn op : List Nat} {w : List Nat} {m : Nat} {sz at_ bg tk td rt rn rm rd tl nt me de lo sa un mn bd br he : Int32} {tr : Int64}
theorem pM.sc {m : Nat} {h' : Hp} {tr : Int64} (p : pM h m cs B N P I J wn op n tr) (e : ∀ q : Nat, q ≠ m → q ≠ m + 9 → (q < m + 11 ∨ m + 14 ≤ q) → h' q = h q) (o : pMo h' m cs B N P n tr) (ro : mRo h' m) (oo : mOr h' m) : pM h' m cs B N P I J wn op n tr := by
  obtain ⟨-, px, pr, pb, pn, pq, ⟨pu, pl⟩, por, ph, pk⟩ := p
  exact ⟨o, px.fr (e _ (by omega) (by omega) (by omega)), pr.fr (fun q a b => e q (by omega) (by omega) (by omega)), pb.fr (fun q a b => e q (by omega) (by omega) (by omega)), (e _ (by omega) (by omega) (by omega)).trans pn, ro, ⟨pu.fr (e _ (by omega) (by omega) (by omega)), pl⟩, oo, ph.fr (fun q a b => e q (by omega) (by omega) (by omega)), pk.fr (e _ (by omega) (by omega) (by omega))⟩
theorem c_M_on {m : Nat} {tr : Int64} (p : pM h m cs B N P I J wn op n tr) (b9 : wB mx B) (hmx : mx ≤ 10) (wt : wT N) (hH : tH N ≤ 10) (hN : tN N ≤ 68) : Ct X 2 mt_X12_on [.ref m] (h, z) 0 0 (Qi (fun r S' => r = nI (onW B 30 N) ∧ S'.2 = z ∧ hfr h S'.1 m 17 ∧ pM S'.1 m cs B N P I J wn op n tr)) := by
  obtain ⟨⟨at_, bg, tk, td, rt, rn, rm, rd, mn, bd, br, po⟩, px, pr, pb, pn, ⟨fr, pq⟩, ⟨pu, pl⟩, por, ph, pk⟩ := id p
  have po' := po
  unfold pMO at po'
  unfold pRw at pn
  refine mk_X12_on (Nat.le_of_ble_eq_true rfl) (L := [.ref m, .retAddr 0]) rfl ?_
  have night : ∀ (c k : Nat) (T : Tl) (h1 : Hp), tH T = c → c ≤ 10 → tV T = true → wT T → (∀ q : Nat, q ≠ m + 9 → h1 q = h q) → pRw h1 (m + 9) T → (∀ h2 : Hp, (∀ q : Nat, q ≠ m + 9 → h2 q = h q) → pRw h2 (m + 9) (quietT 10 T) → Ev X (mi_X12_on 2 0 0) (Qi (fun r S' => r = nI (onW B 30 N) ∧ S'.2 = z ∧ hfr h S'.1 m 17 ∧ pM S'.1 m cs B N P I J wn op n tr)) 0 0 (h2, z) 85 [.ref m, .int (nI k)] []) → Ev X (mi_X12_on 2 0 0) (Qi (fun r S' => r = nI (onW B 30 N) ∧ S'.2 = z ∧ hfr h S'.1 m 17 ∧ pM S'.1 m cs B N P I J wn op n tr)) 0 0 (h1, z) 44 [.ref m, .int (nI k)] [] := by
    intro c
    induction c with
    | zero =>
      intro k T h1 hc h10 hv w1 f1 p1 K
      have po1 := (f1 m (by omega)).trans po'
      have p1' := p1
      unfold pRw at p1'
      have hK := K h1 f1 (by rw [quiet_0 hc]; exact p1)
      refine ev_aload_n (pc := 44) dX12_on_44 rfl ?_
      refine gf_X12_34 (pc := 45) rfl dX12_on_45 (by (try dsimp only); (repeat (first | rw [up_s] | rw [up_n (by omega)])) <;> first | rfl | assumption) ?_
      refine ev_iconst (pc := 48) (v := nI 1) dX12_on_48 kc_1 ?_
      refine ev_iald (pc := 49) dX12_on_49 (by (try dsimp only); (repeat (first | rw [up_s] | rw [up_n (by omega)])) <;> first | rfl | assumption) (nI_toInt (by omega)) (x_1 T) ?_
      refine ev_if_le (pc := 50) 85 dX12_on_50 (by decide) (fun c_50 => ?_) (fun c_50 => ?_)
      · (try simp (disch := omega) only [i32_lti, i32_lei, i32_eqi, nI_toInt, i32z] at c_50)
        exact hK
      · exfalso; (try simp (disch := omega) only [i32_lti, i32_lei, i32_eqi, nI_toInt, i32z] at c_50); omega
    | succ c ih =>
      intro k T h1 hc h10 hv w1 f1 p1 K
      have po1 := (f1 m (by omega)).trans po'
      have p1' := p1
      unfold pRw at p1'
      have eq := quiet_S w1 hv (by omega) (by omega)
      rw [eq] at K
      have hl6 := w1.2.2.2.1
      cases e : (tO T).getLast? with
      | none =>
        have e0 : (tO T).length = 0 := by rw [List.getLast?_eq_none_iff.mp e]; rfl
        refine ev_aload_n (pc := 44) dX12_on_44 rfl ?_
        refine gf_X12_34 (pc := 45) rfl dX12_on_45 (by (try dsimp only); (repeat (first | rw [up_s] | rw [up_n (by omega)])) <;> first | rfl | assumption) ?_
        refine ev_iconst (pc := 48) (v := nI 1) dX12_on_48 kc_1 ?_
        refine ev_iald (pc := 49) dX12_on_49 (by (try dsimp only); (repeat (first | rw [up_s] | rw [up_n (by omega)])) <;> first | rfl | assumption) (nI_toInt (by omega)) (x_1 T) ?_
        refine ev_if_le (pc := 50) 85 dX12_on_50 (by decide) (fun c_50 => ?_) (fun c_50 => ?_)
        · exfalso; (try simp (disch := omega) only [i32_lti, i32_lei, i32_eqi, nI_toInt, i32z] at c_50); omega
        · (try simp (disch := omega) only [i32_lti, i32_lei, i32_eqi, nI_toInt, i32z] at c_50)
          refine ev_aload_n (pc := 53) dX12_on_53 rfl ?_
          refine gf_X12_34 (pc := 54) rfl dX12_on_54 (by (try dsimp only); (repeat (first | rw [up_s] | rw [up_n (by omega)])) <;> first | rfl | assumption) ?_
          refine ev_iconst (pc := 57) (v := nI 2) dX12_on_57 kc_2 ?_
          refine ev_iald (pc := 58) dX12_on_58 (by (try dsimp only); (repeat (first | rw [up_s] | rw [up_n (by omega)])) <;> first | rfl | assumption) (nI_toInt (by omega)) (x_2 T) ?_
          refine ev_if_le (pc := 59) 72 dX12_on_59 (by decide) (fun c_59 => ?_) (fun c_59 => ?_)
          · (try simp (disch := omega) only [i32_lti, i32_lei, i32_eqi, nI_toInt, i32z] at c_59)
            refine ev_aload_n (pc := 72) dX12_on_72 rfl ?_
            refine gf_X12_34 (pc := 73) rfl dX12_on_73 (by (try dsimp only); (repeat (first | rw [up_s] | rw [up_n (by omega)])) <;> first | rfl | assumption) ?_
            refine ev_iconst (pc := 76) (v := nI 1) dX12_on_76 kc_1 ?_
            refine ev_dup2 (pc := 77) dX12_on_77 rfl rfl ?_
            refine ev_iald (pc := 78) dX12_on_78 (by (try dsimp only); (repeat (first | rw [up_s] | rw [up_n (by omega)])) <;> first | rfl | assumption) (nI_toInt (by omega)) (x_1 T) ?_
            refine ev_iconst (pc := 79) (v := nI 1) dX12_on_79 kc_1 ?_
            refine ev_isub (pc := 80) dX12_on_80 ?_
            rw [nI_sub1 (by omega)]
            refine ev_iast (pc := 81) dX12_on_81 (by (try dsimp only); (repeat (first | rw [up_s] | rw [up_n (by omega)])) <;> first | rfl | assumption) (nI_toInt (by omega)) (by rw [ar_len]; omega) ?_
            rw [ar_set (by omega)]
            refine ev_goto (pc := 82) 44 dX12_on_82 (by decide) ?_
            exact ih k (goS T) _ (by rw [goS_H]; omega) (by omega) (by rw [goS_V]; exact hv) w1.goS (by intro q a; (try dsimp only); rw [up_n (by omega)]; exact f1 q a) (by rw [goS_none e]; exact (up_s _ _ _).trans (congrArg (fun l => (some (.inr (0, .inl l)) : Option Ob)) ru_1)) K
          · exfalso; (try simp (disch := omega) only [i32_lti, i32_lei, i32_eqi, nI_toInt, i32z] at c_59); omega
      | some t =>
        have e0 := (gN_last e).1
        refine ev_aload_n (pc := 44) dX12_on_44 rfl ?_
        refine gf_X12_34 (pc := 45) rfl dX12_on_45 (by (try dsimp only); (repeat (first | rw [up_s] | rw [up_n (by omega)])) <;> first | rfl | assumption) ?_
        refine ev_iconst (pc := 48) (v := nI 1) dX12_on_48 kc_1 ?_
        refine ev_iald (pc := 49) dX12_on_49 (by (try dsimp only); (repeat (first | rw [up_s] | rw [up_n (by omega)])) <;> first | rfl | assumption) (nI_toInt (by omega)) (x_1 T) ?_
        refine ev_if_le (pc := 50) 85 dX12_on_50 (by decide) (fun c_50 => ?_) (fun c_50 => ?_)
        · exfalso; (try simp (disch := omega) only [i32_lti, i32_lei, i32_eqi, nI_toInt, i32z] at c_50); omega
        · (try simp (disch := omega) only [i32_lti, i32_lei, i32_eqi, nI_toInt, i32z] at c_50)
          refine ev_aload_n (pc := 53) dX12_on_53 rfl ?_
          refine gf_X12_34 (pc := 54) rfl dX12_on_54 (by (try dsimp only); (repeat (first | rw [up_s] | rw [up_n (by omega)])) <;> first | rfl | assumption) ?_
          refine ev_iconst (pc := 57) (v := nI 2) dX12_on_57 kc_2 ?_
          refine ev_iald (pc := 58) dX12_on_58 (by (try dsimp only); (repeat (first | rw [up_s] | rw [up_n (by omega)])) <;> first | rfl | assumption) (nI_toInt (by omega)) (x_2 T) ?_
          refine ev_if_le (pc := 59) 72 dX12_on_59 (by decide) (fun c_59 => ?_) (fun c_59 => ?_)
          · exfalso; (try simp (disch := omega) only [i32_lti, i32_lei, i32_eqi, nI_toInt, i32z] at c_59); omega
          · (try simp (disch := omega) only [i32_lti, i32_lei, i32_eqi, nI_toInt, i32z] at c_59)
            refine ev_aload_n (pc := 62) dX12_on_62 rfl ?_
            refine gf_X12_34 (pc := 63) rfl dX12_on_63 (by (try dsimp only); (repeat (first | rw [up_s] | rw [up_n (by omega)])) <;> first | rfl | assumption) ?_
            refine iv_X12_172 (pc := 66) rfl dX12_on_66 (Nat.le_of_ble_eq_true rfl) (Nat.le_of_ble_eq_true rfl) (Nat.le_of_ble_eq_true rfl) (Nat.le_of_ble_eq_true rfl) (c_goesOn p1 w1 e (by omega)) (kv (fun S' hS => ?_))
            obtain ⟨h2, z'⟩ := S'
            obtain ⟨rfl, f2, p2⟩ := hS
            refine ev_goto (pc := 69) 44 dX12_on_69 (by decide) ?_
            exact ih k (goS T) h2 (by rw [goS_H]; omega) (by omega) (by rw [goS_V]; exact hv) w1.goS (fun q a => (f2 q (by omega)).trans (f1 q a)) (by rw [goS_some e]; exact p2) K
  have fin : ∀ (k : Nat) (T : Tl) (h1 : Hp), k = onW B 30 N → (k = 30 ∨ tV T = false) → k ≤ 30 → (∀ q : Nat, q ≠ m + 9 → h1 q = h q) → pRw h1 (m + 9) T → Ev X (mi_X12_on 2 0 0) (Qi (fun r S' => r = nI (onW B 30 N) ∧ S'.2 = z ∧ hfr h S'.1 m 17 ∧ pM S'.1 m cs B N P I J wn op n tr)) 0 0 (h1, z) 28 [.ref m, .int (nI k)] [] := by
    intro k T h1 hk hc h30 f1 p1
    have po1 := (f1 m (by omega)).trans po'
    have p1' := p1
    unfold pRw at p1'
    refine ev_iload_n (pc := 28) dX12_on_28 rfl ?_
    refine ev_bipush (pc := 29) (v := nI 30) dX12_on_29 kb_30 ?_
    refine ev_icmp_ge (pc := 31) 107 dX12_on_31 (by decide) (fun c_31 => ?_) (fun c_31 => ?_)
    · (try simp (disch := omega) only [i32_lti, i32_lei, i32_eqi, nI_toInt, i32z] at c_31)
      refine ev_iload_n (pc := 107) dX12_on_107 rfl ?_
      refine ev_iret (pc := 108) dX12_on_108 rfl rfl (Nat.le_of_ble_eq_true rfl) (Nat.le_of_ble_eq_true rfl) ?_
      exact ⟨_, rfl, by rw [hk], rfl, (fun q a => f1 q (by omega)), p.sc (fun q a b c => f1 q b) ⟨at_, bg, tk, td, rt, rn, rm, rd, mn, bd, br, po1⟩ ⟨_, p1'⟩ (por.fr (fun q a b => f1 q (by omega)))⟩
    · (try simp (disch := omega) only [i32_lti, i32_lei, i32_eqi, nI_toInt, i32z] at c_31)
      refine ev_aload_n (pc := 34) dX12_on_34 rfl ?_
      refine gf_X12_34 (pc := 35) rfl dX12_on_35 (by (try dsimp only); (repeat (first | rw [up_s] | rw [up_n (by omega)])) <;> first | rfl | assumption) ?_
      refine ev_iconst (pc := 38) (v := nI 3) dX12_on_38 kc_3 ?_
      refine ev_iald (pc := 39) dX12_on_39 (by (try dsimp only); (repeat (first | rw [up_s] | rw [up_n (by omega)])) <;> first | rfl | assumption) (nI_toInt (by omega)) (x_3 T) ?_
      refine ev_iconst (pc := 40) (v := nI 1) dX12_on_40 kc_1 ?_
      refine ev_icmp_ne (pc := 41) 107 dX12_on_41 (by decide) (fun c_41 => ?_) (fun c_41 => ?_)
      · (try simp (disch := omega) only [i32_lti, i32_lei, i32_eqi, nI_toInt, i32z] at c_41)
        refine ev_iload_n (pc := 107) dX12_on_107 rfl ?_
        refine ev_iret (pc := 108) dX12_on_108 rfl rfl (Nat.le_of_ble_eq_true rfl) (Nat.le_of_ble_eq_true rfl) ?_
        exact ⟨_, rfl, by rw [hk], rfl, (fun q a => f1 q (by omega)), p.sc (fun q a b c => f1 q b) ⟨at_, bg, tk, td, rt, rn, rm, rd, mn, bd, br, po1⟩ ⟨_, p1'⟩ (por.fr (fun q a b => f1 q (by omega)))⟩
      · exfalso; rcases hc with q | q; (try simp (disch := omega) only [i32_lti, i32_lei, i32_eqi, nI_toInt, i32z] at c_31); omega; rw [q] at c_41; exact absurd c_41 (by decide)
  have loop : ∀ (c k : Nat) (T : Tl) (h1 : Hp), k + c = 30 → onW B 30 N = k + onW B c T → tV T = true → wT T → tH T ≤ 10 → tN T + c ≤ 98 → (∀ q : Nat, q ≠ m + 9 → h1 q = h q) → pRw h1 (m + 9) T → Ev X (mi_X12_on 2 0 0) (Qi (fun r S' => r = nI (onW B 30 N) ∧ S'.2 = z ∧ hfr h S'.1 m 17 ∧ pM S'.1 m cs B N P I J wn op n tr)) 0 0 (h1, z) 28 [.ref m, .int (nI k)] [] := by
    intro c
    induction c with
    | zero =>
      intro k T h1 hk ek hv w1 h10 h98 f1 p1
      exact fin k T h1 (by rw [ek]; rfl) (Or.inl (by omega)) (by omega) f1 p1
    | succ c ih =>
      intro k T h1 hk ek hv w1 h10 h98 f1 p1
      have po1 := (f1 m (by omega)).trans po'
      have p1' := p1
      unfold pRw at p1'
      obtain ⟨wq, nq⟩ := wT.quiet 10 w1
      have vq := quiet_V 10 T
      have hq0 := quiet_H 10 T hv h10
      have eon : onW B (c + 1) T = if dawns99 B (quietT 10 T) = true then onW B c (dawnT B (quietT 10 T)) + 1 else 0 := rfl
      have e99 : dawns99 B (quietT 10 T) = dawnOk B (quietT 10 T) := by
        unfold dawns99
        rw [vq, hv, decide_eq_true hq0, nq, decide_eq_true (by omega)]
        rfl
      rw [e99] at eon
      have cont : ∀ h2 : Hp, (∀ q : Nat, q ≠ m + 9 → h2 q = h q) → pRw h2 (m + 9) (quietT 10 T) → Ev X (mi_X12_on 2 0 0) (Qi (fun r S' => r = nI (onW B 30 N) ∧ S'.2 = z ∧ hfr h S'.1 m 17 ∧ pM S'.1 m cs B N P I J wn op n tr)) 0 0 (h2, z) 85 [.ref m, .int (nI k)] [] := by
        intro h2 f2 p2
        have po2 := (f2 m (by omega)).trans po'
        have o2 : pMO h2 m (nI cs.length) at_ bg tk td rt rn rm rd (nI (bT B)) (nI (bK B)) (nI (bM B)) (nI (bD B)) (nI 0) (nI (tS N)) (nI P.length) mn bd br (nI n) tr := (f2 m (by omega)).trans po
        refine ev_iload_n (pc := 85) dX12_on_85 rfl ?_
        refine ev_aload_n (pc := 86) dX12_on_86 rfl ?_
        refine ev_aload_n (pc := 87) dX12_on_87 rfl ?_
        refine gf_X12_34 (pc := 88) rfl dX12_on_88 (by (try dsimp only); (repeat (first | rw [up_s] | rw [up_n (by omega)])) <;> first | rfl | assumption) ?_
        refine iv_X12_195 (pc := 91) rfl dX12_on_91 (by (try dsimp only); (repeat (first | rw [up_s] | rw [up_n (by omega)])) <;> first | rfl | assumption) (Nat.le_of_ble_eq_true rfl) (Nat.le_of_ble_eq_true rfl) (Nat.le_of_ble_eq_true rfl) (Nat.le_of_ble_eq_true rfl) (c_mDawns o2 (pb.fr (fun q a b => f2 q (by omega))) p2 wq (by rw [vq]; exact hv) (Or.inr rfl) b9.2.1 b9.2.2.1 b9.2.2.2.1) (ki (fun r S' hS => ?_))
        obtain ⟨h3, z'⟩ := S'
        obtain ⟨rfl, rfl, f3, p3⟩ := hS
        refine ev_if_eq (pc := 94) 101 dX12_on_94 (by decide) (fun c_94 => ?_) (fun c_94 => ?_)
        · simp only [b2i_e0, Bool.not_eq_false] at c_94
          rw [c_94, if_neg (by decide)] at eon
          refine ev_iconst (pc := 101) (v := nI 0) dX12_on_101 kc_0 ?_
          refine ev_iadd (pc := 102) dX12_on_102 ?_
          (try rw [nI_add])
          refine ev_istore_n (pc := 103) (L' := [_, _]) dX12_on_103 (Nat.le_of_ble_eq_true rfl) rfl ?_
          refine ev_goto (pc := 104) 28 dX12_on_104 (by decide) ?_
          first
          | exact ih (k + 1) (dawnT B (quietT 10 T)) h3 (by omega) (by rw [ek, eon]; omega) (by rw [dv, vq]; exact hv) (wq.dawn b9 (by omega) (by omega)) (Nat.le_trans (dawnT_H b9 (by omega)) hmx) (by omega) (fun q a => (f3 q (by omega)).trans (f2 q a)) p3
          | exact fin k (dawnT B (quietT 10 T)) h3 (by rw [ek, eon]; rfl) (Or.inr (dawnT_no c_94)) (by omega) (fun q a => (f3 q (by omega)).trans (f2 q a)) p3
        · simp only [b2i_e0, Bool.not_eq_false] at c_94
          rw [c_94, if_pos rfl] at eon
          obtain ⟨dv, dn⟩ := dawnT_ok c_94
          refine ev_iconst (pc := 97) (v := nI 1) dX12_on_97 kc_1 ?_
          refine ev_goto (pc := 98) 102 dX12_on_98 (by decide) ?_
          refine ev_iadd (pc := 102) dX12_on_102 ?_
          (try rw [nI_add])
          refine ev_istore_n (pc := 103) (L' := [_, _]) dX12_on_103 (Nat.le_of_ble_eq_true rfl) rfl ?_
          refine ev_goto (pc := 104) 28 dX12_on_104 (by decide) ?_
          first
          | exact ih (k + 1) (dawnT B (quietT 10 T)) h3 (by omega) (by rw [ek, eon]; omega) (by rw [dv, vq]; exact hv) (wq.dawn b9 (by omega) (by omega)) (Nat.le_trans (dawnT_H b9 (by omega)) hmx) (by omega) (fun q a => (f3 q (by omega)).trans (f2 q a)) p3
          | exact fin k (dawnT B (quietT 10 T)) h3 (by rw [ek, eon]; rfl) (Or.inr (dawnT_no c_94)) (by omega) (fun q a => (f3 q (by omega)).trans (f2 q a)) p3
      refine ev_iload_n (pc := 28) dX12_on_28 rfl ?_
      refine ev_bipush (pc := 29) (v := nI 30) dX12_on_29 kb_30 ?_
      refine ev_icmp_ge (pc := 31) 107 dX12_on_31 (by decide) (fun c_31 => ?_) (fun c_31 => ?_)
      · exfalso; (try simp (disch := omega) only [i32_lti, i32_lei, i32_eqi, nI_toInt, i32z] at c_31); omega
      · (try simp (disch := omega) only [i32_lti, i32_lei, i32_eqi, nI_toInt, i32z] at c_31)
        refine ev_aload_n (pc := 34) dX12_on_34 rfl ?_
        refine gf_X12_34 (pc := 35) rfl dX12_on_35 (by (try dsimp only); (repeat (first | rw [up_s] | rw [up_n (by omega)])) <;> first | rfl | assumption) ?_
        refine ev_iconst (pc := 38) (v := nI 3) dX12_on_38 kc_3 ?_
        refine ev_iald (pc := 39) dX12_on_39 (by (try dsimp only); (repeat (first | rw [up_s] | rw [up_n (by omega)])) <;> first | rfl | assumption) (nI_toInt (by omega)) (x_3 T) ?_
        refine ev_iconst (pc := 40) (v := nI 1) dX12_on_40 kc_1 ?_
        refine ev_icmp_ne (pc := 41) 107 dX12_on_41 (by decide) (fun c_41 => ?_) (fun c_41 => ?_)
        · exfalso; rw [hv] at c_41; exact c_41 rfl
        · (try simp (disch := omega) only [i32_lti, i32_lei, i32_eqi, nI_toInt, i32z] at c_41)
          exact night (tH T) k T h1 rfl h10 hv w1 f1 p1 cont
  have copy : ∀ (c k : Nat), k + c = 28 → ∀ (h1 : Hp) (g : Nat → Int32), (∀ q : Nat, q ≠ m + 9 → h1 q = h q) → h1 (m + 9) = some (.inr (0, .inl (ar 28 g))) → (∀ j : Nat, j < k → g j = eT N j) → Ev X (mi_X12_on 2 0 0) (Qi (fun r S' => r = nI (onW B 30 N) ∧ S'.2 = z ∧ hfr h S'.1 m 17 ∧ pM S'.1 m cs B N P I J wn op n tr)) 0 0 (h1, z) 2 [.ref m, .int (nI k)] [] := by
    intro c
    induction c with
    | zero =>
      intro k hk h1 g f1 p1 hg
      have eg : ar 28 g = ar 28 (eT N) := ar_ext (fun j hj => hg j (by omega))
      rw [eg] at p1
      have st : Ev X (mi_X12_on 2 0 0) (Qi (fun r S' => r = nI (onW B 30 N) ∧ S'.2 = z ∧ hfr h S'.1 m 17 ∧ pM S'.1 m cs B N P I J wn op n tr)) 0 0 (h1, z) 28 [.ref m, .int (nI 0)] [] := by
        cases hv : tV N with
        | true => exact loop 30 0 N h1 rfl (by omega) hv wt hH (by omega) f1 p1
        | false => exact fin 0 N h1 (onW_dead hv 30).symm (Or.inr hv) (by omega) f1 p1
      refine ev_iload_n (pc := 2) dX12_on_2 rfl ?_
      refine ev_bipush (pc := 3) (v := nI 28) dX12_on_3 kb_28 ?_
      refine ev_icmp_ge (pc := 5) 26 dX12_on_5 (by decide) (fun c_5 => ?_) (fun c_5 => ?_)
      · (try simp (disch := omega) only [i32_lti, i32_lei, i32_eqi, nI_toInt, i32z] at c_5)
        refine ev_iconst (pc := 26) (v := nI 0) dX12_on_26 kc_0 ?_
        refine ev_istore_n (pc := 27) (L' := [_, _]) dX12_on_27 (Nat.le_of_ble_eq_true rfl) rfl ?_
        exact st
      · exfalso; (try simp (disch := omega) only [i32_lti, i32_lei, i32_eqi, nI_toInt, i32z] at c_5); omega
    | succ c ih =>
      intro k hk h1 g f1 p1 hg
      have po1 := (f1 m (by omega)).trans po'
      have pn1 := (f1 (m + 8) (by omega)).trans pn
      refine ev_iload_n (pc := 2) dX12_on_2 rfl ?_
      refine ev_bipush (pc := 3) (v := nI 28) dX12_on_3 kb_28 ?_
      refine ev_icmp_ge (pc := 5) 26 dX12_on_5 (by decide) (fun c_5 => ?_) (fun c_5 => ?_)
      · exfalso; (try simp (disch := omega) only [i32_lti, i32_lei, i32_eqi, nI_toInt, i32z] at c_5); omega
      · (try simp (disch := omega) only [i32_lti, i32_lei, i32_eqi, nI_toInt, i32z] at c_5)
        refine ev_aload_n (pc := 8) dX12_on_8 rfl ?_
        refine gf_X12_34 (pc := 9) rfl dX12_on_9 (by (try dsimp only); (repeat (first | rw [up_s] | rw [up_n (by omega)])) <;> first | rfl | assumption) ?_
        refine ev_iload_n (pc := 12) dX12_on_12 rfl ?_
        refine ev_aload_n (pc := 13) dX12_on_13 rfl ?_
        refine gf_X12_31 (pc := 14) rfl dX12_on_14 (by (try dsimp only); (repeat (first | rw [up_s] | rw [up_n (by omega)])) <;> first | rfl | assumption) ?_
        refine ev_iload_n (pc := 17) dX12_on_17 rfl ?_
        refine ev_iald (pc := 18) dX12_on_18 (by (try dsimp only); (repeat (first | rw [up_s] | rw [up_n (by omega)])) <;> first | rfl | assumption) (nI_toInt (by omega)) (ar_get (by omega)) ?_
        refine ev_iast (pc := 19) dX12_on_19 (by (try dsimp only); (repeat (first | rw [up_s] | rw [up_n (by omega)])) <;> first | rfl | assumption) (nI_toInt (by omega)) (by rw [ar_len]; omega) ?_
        rw [ar_set (by omega)]
        refine ev_iinc (pc := 20) (L' := [_, _]) dX12_on_20 rfl (nI_1 _) rfl ?_
        refine ev_goto (pc := 23) 2 dX12_on_23 (by decide) ?_
        refine ih (k + 1) (by omega) _ (ru g k (eT N k)) (by intro q a; (try dsimp only); rw [up_n (by omega)]; exact f1 q a) (by (try dsimp only); (repeat (first | rw [up_s] | rw [up_n (by omega)])) <;> first | rfl | assumption) ?_
        intro j hj
        by_cases q : j = k
        · subst q; rw [ru_s]
        · rw [ru_n q]; exact hg j (by omega)
  refine ev_iconst (pc := 0) (v := nI 0) dX12_on_0 kc_0 ?_
  refine ev_istore_n (pc := 1) (L' := [_, _]) dX12_on_1 (Nat.le_of_ble_eq_true rfl) rfl ?_
  exact copy 28 0 rfl h fr (fun _ _ => rfl) pq (fun j hj => by omega)
end MSAV
