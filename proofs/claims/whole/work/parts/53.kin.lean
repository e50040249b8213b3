/-! ===== DawnTales: kinds, odds ===== -/
def aMark (B : Bk) (N : Tl) (t k : Nat) : Int32 := if k = 0 then nI (gN (tF N) t) else if k = 1 then nI (gN (tF N) t) + nI (gN (bP B) t) else if k = 2 then nI (gN (tF N) t) - nI (tW B t (bT B)) else if k = 3 then (nI (gN (tF N) t) + nI (gN (bP B) t)) * nI 2 else if k = 4 then nI (gN (tF N) t) - nI (tW B t (bT B)) + nI (tO N).length else nI (gN (tF N) t) + nI (tN N)
def trK (k : Nat) : Int64 := if k = 0 then 1 else if k = 1 then 10 + 1 else if k = 2 then 100 + 1 else if k = 3 then 1000 + (10 + 1) else if k = 4 then 10000 + (100 + 1) else 100000 + 1
def odN (x n : Nat) (y : Bool) : Nat := ((if y = true then 10 - x else 10) / max (cdN 32 10 (10 - x)) 1) ^ n
section KIN
variable {X : Cx} {h : Hp} {z d n m : Nat} {cs : List Nat} {B : Bk} {N : Tl} {P : List Tl} {I J : Im} {wn op : List Nat} {tr : Int64}
theorem pC.kd {tr' : Int64} {h' : Hp} (p : pC h d cs B N P I J wn op n tr) (e : ∀ q : Nat, (q < d + 76 ∨ d + 82 ≤ q) → h' q = h q) (x : pKd h' d tr') : pC h' d cs B N P I J wn op n tr' := by
  obtain ⟨po, px, pb, ⟨B2, pd⟩, ps, pia, ⟨kn, pr⟩, ph, pka, pkd, pi, pj⟩ := p
  exact ⟨(e _ (by omega)).trans po, px.fr (fun q a b => e q (by omega)), pb.fr (fun q a b => e q (by omega)), ⟨B2, pd.fr (fun q a b => e q (by omega))⟩, ps.fr (fun q a b => e q (by omega)), (e _ (by omega)).trans pia, ⟨kn, pr.fr (fun q a b => e q (by omega))⟩, ph.fr (e _ (by omega)) (e _ (by omega)), (e _ (by omega)).trans pka, x, pi.fr (fun q a b => e q (by omega)), pj.fr (fun q a b => e q (by omega))⟩
theorem c_D_mark_bad (p : pC h d cs B N P I J wn op n tr) (b9 : wB m B) {k t : Int32} (hk : ¬ ((0 ≤ k.toInt ∧ k.toInt < 6) ∧ iTn (bT B) t = true)) : Ct X 5 mt_X11_mark [.ref d, .int k, .int t] (h, z) 0 0 (QP (.int (-1000000)) (h, z)) := by
  obtain ⟨po, -, pb, -, -, -, -, -, pka, -⟩ := id p
  unfold pDO at po
  unfold pKa at pka
  have hb := pb.1
  refine mk_X11_mark (Nat.le_of_ble_eq_true rfl) (L := [.ref d, .int k, .int t]) rfl ?_
  refine ev_iload_n (pc := 0) dX11_mark_0 rfl ?_
  refine ev_if_lt (pc := 1) 24 dX11_mark_1 (by decide) (fun c_1 => ?_) (fun c_1 => ?_)
  · (try simp (disch := omega) only [i32_lti, i32_lei, i32_eqi, nI_toInt, i32z] at c_1)
    refine ev_ldc_w (pc := 24) dX11_mark_24 tw_769 ?_
    refine ev_iret (pc := 27) dX11_mark_27 rfl rfl (Nat.le_of_ble_eq_true rfl) (Nat.le_of_ble_eq_true rfl) ?_
    exact ⟨rfl, rfl⟩
  · (try simp (disch := omega) only [i32_lti, i32_lei, i32_eqi, nI_toInt, i32z] at c_1)
    refine ev_iload_n (pc := 4) dX11_mark_4 rfl ?_
    refine ev_aload_n (pc := 5) dX11_mark_5 rfl ?_
    refine gf_X11_69 (pc := 6) rfl dX11_mark_6 (by (try dsimp only); (repeat (first | rw [up_s] | rw [up_n (by omega)])) <;> first | rfl | assumption) ?_
    refine ev_alen (pc := 9) (t := 6) dX11_mark_9 (Nat.le_of_ble_eq_true rfl) (by (try dsimp only); (repeat (first | rw [up_s] | rw [up_n (by omega)])) <;> first | rfl | assumption) ?_
    refine ev_icmp_ge (pc := 10) 24 dX11_mark_10 (by decide) (fun c_10 => ?_) (fun c_10 => ?_)
    · rw [show am_len (.inr (6, .inr (.inr [some (d + 76), some (d + 77), some (d + 78), some (d + 79), some (d + 80), some (d + 81)]))) = 6 from rfl] at c_10
      (try simp (disch := omega) only [i32_lti, i32_lei, i32_eqi, nI_toInt, i32z] at c_10)
      refine ev_ldc_w (pc := 24) dX11_mark_24 tw_769 ?_
      refine ev_iret (pc := 27) dX11_mark_27 rfl rfl (Nat.le_of_ble_eq_true rfl) (Nat.le_of_ble_eq_true rfl) ?_
      exact ⟨rfl, rfl⟩
    · rw [show am_len (.inr (6, .inr (.inr [some (d + 76), some (d + 77), some (d + 78), some (d + 79), some (d + 80), some (d + 81)]))) = 6 from rfl] at c_10
      (try simp (disch := omega) only [i32_lti, i32_lei, i32_eqi, nI_toInt, i32z] at c_10)
      refine ev_aload_n (pc := 13) dX11_mark_13 rfl ?_
      refine gf_X11_19 (pc := 14) rfl dX11_mark_14 (by (try dsimp only); (repeat (first | rw [up_s] | rw [up_n (by omega)])) <;> first | rfl | assumption) ?_
      refine ev_iload_n (pc := 17) dX11_mark_17 rfl ?_
      refine iv_X11_99 (pc := 18) rfl dX11_mark_18 (by (try dsimp only); (repeat (first | rw [up_s] | rw [up_n (by omega)])) <;> first | rfl | assumption) (Nat.le_of_ble_eq_true rfl) (Nat.le_of_ble_eq_true rfl) (Nat.le_of_ble_eq_true rfl) (Nat.le_of_ble_eq_true rfl) (c_isTale pb b9.1 t) (kp ?_)
      rw [show iTn (bT B) t = false by cases e : iTn (bT B) t with | false => rfl | true => exact absurd ⟨⟨by omega, by omega⟩, e⟩ hk]
      refine ev_if_ne (pc := 21) 28 dX11_mark_21 (by decide) (fun c_21 => ?_) (fun c_21 => ?_)
      · exact absurd rfl c_21
      · (try simp (disch := omega) only [i32_lti, i32_lei, i32_eqi, nI_toInt, i32z] at c_21)
        refine ev_ldc_w (pc := 24) dX11_mark_24 tw_769 ?_
        refine ev_iret (pc := 27) dX11_mark_27 rfl rfl (Nat.le_of_ble_eq_true rfl) (Nat.le_of_ble_eq_true rfl) ?_
        exact ⟨rfl, rfl⟩
theorem c_D_mark0 (p : pC h d cs B N P I J wn op n tr) (b9 : wB m B) (g : wT N) {t : Nat} (ht : t < bT B) : Ct X 5 mt_X11_mark [.ref d, .int (nI 0), .int (nI t)] (h, z) 0 0 (Qi (fun r S' => r = aMark B N t 0 ∧ S'.2 = z ∧ hfr h S'.1 d 174 ∧ pC S'.1 d cs B N P I J wn op n (tr + trK 0))) := by
  obtain ⟨po, -, pb, -, ps, -, -, -, pka, pkd, -⟩ := id p
  unfold pDO at po
  unfold pKa at pka
  obtain ⟨v0, v1, v2, v3, v4, v5, p0, p1, p2, p3, p4, p5, p6⟩ := id pkd
  have h6 := b9.1
  have hb := pb.1
  have hs := ps.obj
  refine mk_X11_mark (Nat.le_of_ble_eq_true rfl) (L := [.ref d, .int (nI 0), .int (nI t)]) rfl ?_
  refine ev_iload_n (pc := 0) dX11_mark_0 rfl ?_
  refine ev_if_lt (pc := 1) 24 dX11_mark_1 (by decide) (fun c_1 => ?_) (fun c_1 => ?_)
  · exfalso; (try simp (disch := omega) only [i32_lti, i32_lei, i32_eqi, nI_toInt, i32z] at c_1); omega
  · (try simp (disch := omega) only [i32_lti, i32_lei, i32_eqi, nI_toInt, i32z] at c_1)
    refine ev_iload_n (pc := 4) dX11_mark_4 rfl ?_
    refine ev_aload_n (pc := 5) dX11_mark_5 rfl ?_
    refine gf_X11_69 (pc := 6) rfl dX11_mark_6 (by (try dsimp only); (repeat (first | rw [up_s] | rw [up_n (by omega)])) <;> first | rfl | assumption) ?_
    refine ev_alen (pc := 9) (t := 6) dX11_mark_9 (Nat.le_of_ble_eq_true rfl) (by (try dsimp only); (repeat (first | rw [up_s] | rw [up_n (by omega)])) <;> first | rfl | assumption) ?_
    refine ev_icmp_ge (pc := 10) 24 dX11_mark_10 (by decide) (fun c_10 => ?_) (fun c_10 => ?_)
    · exfalso; rw [show am_len (.inr (6, .inr (.inr [some (d + 76), some (d + 77), some (d + 78), some (d + 79), some (d + 80), some (d + 81)]))) = 6 from rfl] at c_10; (try simp (disch := omega) only [i32_lti, i32_lei, i32_eqi, nI_toInt, i32z] at c_10); omega
    · rw [show am_len (.inr (6, .inr (.inr [some (d + 76), some (d + 77), some (d + 78), some (d + 79), some (d + 80), some (d + 81)]))) = 6 from rfl] at c_10
      refine ev_aload_n (pc := 13) dX11_mark_13 rfl ?_
      refine gf_X11_19 (pc := 14) rfl dX11_mark_14 (by (try dsimp only); (repeat (first | rw [up_s] | rw [up_n (by omega)])) <;> first | rfl | assumption) ?_
      refine ev_iload_n (pc := 17) dX11_mark_17 rfl ?_
      refine iv_X11_99 (pc := 18) rfl dX11_mark_18 (by (try dsimp only); (repeat (first | rw [up_s] | rw [up_n (by omega)])) <;> first | rfl | assumption) (Nat.le_of_ble_eq_true rfl) (Nat.le_of_ble_eq_true rfl) (Nat.le_of_ble_eq_true rfl) (Nat.le_of_ble_eq_true rfl) (c_isTale pb b9.1 (nI t)) (kp ?_)
      rw [iTn_nI (by omega), decide_eq_true ht]
      refine ev_if_ne (pc := 21) 28 dX11_mark_21 (by decide) (fun c_21 => ?_) (fun c_21 => ?_)
      · (try simp (disch := omega) only [i32_lti, i32_lei, i32_eqi, nI_toInt, i32z] at c_21)
        refine ev_aload_n (pc := 28) dX11_mark_28 rfl ?_
        refine gf_X11_69 (pc := 29) rfl dX11_mark_29 (by (try dsimp only); (repeat (first | rw [up_s] | rw [up_n (by omega)])) <;> first | rfl | assumption) ?_
        refine ev_iload_n (pc := 32) dX11_mark_32 rfl ?_
        refine ev_aald (pc := 33) (t := 6) dX11_mark_33 rfl (by (try dsimp only); (repeat (first | rw [up_s] | rw [up_n (by omega)])) <;> first | rfl | assumption) (nI_toInt (by omega)) rfl ?_
        refine ev_aload_n (pc := 34) dX11_mark_34 rfl ?_
        refine gf_X11_19 (pc := 35) rfl dX11_mark_35 (by (try dsimp only); (repeat (first | rw [up_s] | rw [up_n (by omega)])) <;> first | rfl | assumption) ?_
        refine ev_aload_n (pc := 38) dX11_mark_38 rfl ?_
        refine gf_X11_29 (pc := 39) rfl dX11_mark_39 (by (try dsimp only); (repeat (first | rw [up_s] | rw [up_n (by omega)])) <;> first | rfl | assumption) ?_
        refine gf_X11_102 (pc := 42) rfl dX11_mark_42 (by (try dsimp only); (repeat (first | rw [up_s] | rw [up_n (by omega)])) <;> first | rfl | assumption) ?_
        refine ev_iload_n (pc := 45) dX11_mark_45 rfl ?_
        refine iv_X11_270_r7 (pc := 46) rfl dX11_mark_46 (by (try dsimp only); (repeat (first | rw [up_s] | rw [up_n (by omega)])) <;> first | rfl | assumption) (Nat.le_of_ble_eq_true rfl) (Nat.le_of_ble_eq_true rfl) (Nat.le_of_ble_eq_true rfl) (Nat.le_of_ble_eq_true rfl) (c_X7_marked_r7 p0 ps.now g pb b9.1 b9.w ht (by omega) (by omega)) (ki (fun r S' hS => ?_))
        obtain ⟨h1, z'⟩ := S'
        obtain ⟨rfl, rfl, f1, s1⟩ := hS
        refine ev_iret (pc := 49) dX11_mark_49 rfl rfl (Nat.le_of_ble_eq_true rfl) (Nat.le_of_ble_eq_true rfl) ?_
        refine ⟨_, rfl, rfl, rfl, (fun q a => f1 q (by omega)), p.kd (fun q a => f1 q (by omega)) ⟨(v0 + 1), v1, v2, v3, v4, v5, s1, (f1 _ (by omega)).trans p1, (f1 _ (by omega)).trans p2, (f1 _ (by omega)).trans p3, (f1 _ (by omega)).trans p4, (f1 _ (by omega)).trans p5, ?_⟩⟩
        rw [← p6, show trK 0 = 1 from rfl]
        generalize (1 : Int64) = w
        ac_rfl
      · exact absurd c_21 (by decide)
theorem c_D_mark1 (p : pC h d cs B N P I J wn op n tr) (b9 : wB m B) (g : wT N) {t : Nat} (ht : t < bT B) : Ct X 5 mt_X11_mark [.ref d, .int (nI 1), .int (nI t)] (h, z) 0 0 (Qi (fun r S' => r = aMark B N t 1 ∧ S'.2 = z ∧ hfr h S'.1 d 174 ∧ pC S'.1 d cs B N P I J wn op n (tr + trK 1))) := by
  obtain ⟨po, -, pb, -, ps, -, -, -, pka, pkd, -⟩ := id p
  unfold pDO at po
  unfold pKa at pka
  obtain ⟨v0, v1, v2, v3, v4, v5, p0, p1, p2, p3, p4, p5, p6⟩ := id pkd
  have h6 := b9.1
  have hb := pb.1
  have hs := ps.obj
  refine mk_X11_mark (Nat.le_of_ble_eq_true rfl) (L := [.ref d, .int (nI 1), .int (nI t)]) rfl ?_
  refine ev_iload_n (pc := 0) dX11_mark_0 rfl ?_
  refine ev_if_lt (pc := 1) 24 dX11_mark_1 (by decide) (fun c_1 => ?_) (fun c_1 => ?_)
  · exfalso; (try simp (disch := omega) only [i32_lti, i32_lei, i32_eqi, nI_toInt, i32z] at c_1); omega
  · (try simp (disch := omega) only [i32_lti, i32_lei, i32_eqi, nI_toInt, i32z] at c_1)
    refine ev_iload_n (pc := 4) dX11_mark_4 rfl ?_
    refine ev_aload_n (pc := 5) dX11_mark_5 rfl ?_
    refine gf_X11_69 (pc := 6) rfl dX11_mark_6 (by (try dsimp only); (repeat (first | rw [up_s] | rw [up_n (by omega)])) <;> first | rfl | assumption) ?_
    refine ev_alen (pc := 9) (t := 6) dX11_mark_9 (Nat.le_of_ble_eq_true rfl) (by (try dsimp only); (repeat (first | rw [up_s] | rw [up_n (by omega)])) <;> first | rfl | assumption) ?_
    refine ev_icmp_ge (pc := 10) 24 dX11_mark_10 (by decide) (fun c_10 => ?_) (fun c_10 => ?_)
    · exfalso; rw [show am_len (.inr (6, .inr (.inr [some (d + 76), some (d + 77), some (d + 78), some (d + 79), some (d + 80), some (d + 81)]))) = 6 from rfl] at c_10; (try simp (disch := omega) only [i32_lti, i32_lei, i32_eqi, nI_toInt, i32z] at c_10); omega
    · rw [show am_len (.inr (6, .inr (.inr [some (d + 76), some (d + 77), some (d + 78), some (d + 79), some (d + 80), some (d + 81)]))) = 6 from rfl] at c_10
      refine ev_aload_n (pc := 13) dX11_mark_13 rfl ?_
      refine gf_X11_19 (pc := 14) rfl dX11_mark_14 (by (try dsimp only); (repeat (first | rw [up_s] | rw [up_n (by omega)])) <;> first | rfl | assumption) ?_
      refine ev_iload_n (pc := 17) dX11_mark_17 rfl ?_
      refine iv_X11_99 (pc := 18) rfl dX11_mark_18 (by (try dsimp only); (repeat (first | rw [up_s] | rw [up_n (by omega)])) <;> first | rfl | assumption) (Nat.le_of_ble_eq_true rfl) (Nat.le_of_ble_eq_true rfl) (Nat.le_of_ble_eq_true rfl) (Nat.le_of_ble_eq_true rfl) (c_isTale pb b9.1 (nI t)) (kp ?_)
      rw [iTn_nI (by omega), decide_eq_true ht]
      refine ev_if_ne (pc := 21) 28 dX11_mark_21 (by decide) (fun c_21 => ?_) (fun c_21 => ?_)
      · (try simp (disch := omega) only [i32_lti, i32_lei, i32_eqi, nI_toInt, i32z] at c_21)
        refine ev_aload_n (pc := 28) dX11_mark_28 rfl ?_
        refine gf_X11_69 (pc := 29) rfl dX11_mark_29 (by (try dsimp only); (repeat (first | rw [up_s] | rw [up_n (by omega)])) <;> first | rfl | assumption) ?_
        refine ev_iload_n (pc := 32) dX11_mark_32 rfl ?_
        refine ev_aald (pc := 33) (t := 6) dX11_mark_33 rfl (by (try dsimp only); (repeat (first | rw [up_s] | rw [up_n (by omega)])) <;> first | rfl | assumption) (nI_toInt (by omega)) rfl ?_
        refine ev_aload_n (pc := 34) dX11_mark_34 rfl ?_
        refine gf_X11_19 (pc := 35) rfl dX11_mark_35 (by (try dsimp only); (repeat (first | rw [up_s] | rw [up_n (by omega)])) <;> first | rfl | assumption) ?_
        refine ev_aload_n (pc := 38) dX11_mark_38 rfl ?_
        refine gf_X11_29 (pc := 39) rfl dX11_mark_39 (by (try dsimp only); (repeat (first | rw [up_s] | rw [up_n (by omega)])) <;> first | rfl | assumption) ?_
        refine gf_X11_102 (pc := 42) rfl dX11_mark_42 (by (try dsimp only); (repeat (first | rw [up_s] | rw [up_n (by omega)])) <;> first | rfl | assumption) ?_
        refine ev_iload_n (pc := 45) dX11_mark_45 rfl ?_
        refine iv_X11_270_r1 (pc := 46) rfl dX11_mark_46 (by (try dsimp only); (repeat (first | rw [up_s] | rw [up_n (by omega)])) <;> first | rfl | assumption) (Nat.le_of_ble_eq_true rfl) (Nat.le_of_ble_eq_true rfl) (Nat.le_of_ble_eq_true rfl) (Nat.le_of_ble_eq_true rfl) (c_X1_marked_r1 p1 ps.now g pb b9.1 b9.w ht (by omega) (by omega)) (ki (fun r S' hS => ?_))
        obtain ⟨h1, z'⟩ := S'
        obtain ⟨rfl, rfl, f1, s1⟩ := hS
        refine ev_iret (pc := 49) dX11_mark_49 rfl rfl (Nat.le_of_ble_eq_true rfl) (Nat.le_of_ble_eq_true rfl) ?_
        refine ⟨_, rfl, rfl, rfl, (fun q a => f1 q (by omega)), p.kd (fun q a => f1 q (by omega)) ⟨v0, (v1 + (10 + 1)), v2, v3, v4, v5, (f1 _ (by omega)).trans p0, s1, (f1 _ (by omega)).trans p2, (f1 _ (by omega)).trans p3, (f1 _ (by omega)).trans p4, (f1 _ (by omega)).trans p5, ?_⟩⟩
        rw [← p6, show trK 1 = 10 + 1 from rfl]
        generalize (10 + 1 : Int64) = w
        ac_rfl
      · exact absurd c_21 (by decide)
theorem c_D_mark2 (p : pC h d cs B N P I J wn op n tr) (b9 : wB m B) (g : wT N) {t : Nat} (ht : t < bT B) : Ct X 5 mt_X11_mark [.ref d, .int (nI 2), .int (nI t)] (h, z) 0 0 (Qi (fun r S' => r = aMark B N t 2 ∧ S'.2 = z ∧ hfr h S'.1 d 174 ∧ pC S'.1 d cs B N P I J wn op n (tr + trK 2))) := by
  obtain ⟨po, -, pb, -, ps, -, -, -, pka, pkd, -⟩ := id p
  unfold pDO at po
  unfold pKa at pka
  obtain ⟨v0, v1, v2, v3, v4, v5, p0, p1, p2, p3, p4, p5, p6⟩ := id pkd
  have h6 := b9.1
  have hb := pb.1
  have hs := ps.obj
  refine mk_X11_mark (Nat.le_of_ble_eq_true rfl) (L := [.ref d, .int (nI 2), .int (nI t)]) rfl ?_
  refine ev_iload_n (pc := 0) dX11_mark_0 rfl ?_
  refine ev_if_lt (pc := 1) 24 dX11_mark_1 (by decide) (fun c_1 => ?_) (fun c_1 => ?_)
  · exfalso; (try simp (disch := omega) only [i32_lti, i32_lei, i32_eqi, nI_toInt, i32z] at c_1); omega
  · (try simp (disch := omega) only [i32_lti, i32_lei, i32_eqi, nI_toInt, i32z] at c_1)
    refine ev_iload_n (pc := 4) dX11_mark_4 rfl ?_
    refine ev_aload_n (pc := 5) dX11_mark_5 rfl ?_
    refine gf_X11_69 (pc := 6) rfl dX11_mark_6 (by (try dsimp only); (repeat (first | rw [up_s] | rw [up_n (by omega)])) <;> first | rfl | assumption) ?_
    refine ev_alen (pc := 9) (t := 6) dX11_mark_9 (Nat.le_of_ble_eq_true rfl) (by (try dsimp only); (repeat (first | rw [up_s] | rw [up_n (by omega)])) <;> first | rfl | assumption) ?_
    refine ev_icmp_ge (pc := 10) 24 dX11_mark_10 (by decide) (fun c_10 => ?_) (fun c_10 => ?_)
    · exfalso; rw [show am_len (.inr (6, .inr (.inr [some (d + 76), some (d + 77), some (d + 78), some (d + 79), some (d + 80), some (d + 81)]))) = 6 from rfl] at c_10; (try simp (disch := omega) only [i32_lti, i32_lei, i32_eqi, nI_toInt, i32z] at c_10); omega
    · rw [show am_len (.inr (6, .inr (.inr [some (d + 76), some (d + 77), some (d + 78), some (d + 79), some (d + 80), some (d + 81)]))) = 6 from rfl] at c_10
      refine ev_aload_n (pc := 13) dX11_mark_13 rfl ?_
      refine gf_X11_19 (pc := 14) rfl dX11_mark_14 (by (try dsimp only); (repeat (first | rw [up_s] | rw [up_n (by omega)])) <;> first | rfl | assumption) ?_
      refine ev_iload_n (pc := 17) dX11_mark_17 rfl ?_
      refine iv_X11_99 (pc := 18) rfl dX11_mark_18 (by (try dsimp only); (repeat (first | rw [up_s] | rw [up_n (by omega)])) <;> first | rfl | assumption) (Nat.le_of_ble_eq_true rfl) (Nat.le_of_ble_eq_true rfl) (Nat.le_of_ble_eq_true rfl) (Nat.le_of_ble_eq_true rfl) (c_isTale pb b9.1 (nI t)) (kp ?_)
      rw [iTn_nI (by omega), decide_eq_true ht]
      refine ev_if_ne (pc := 21) 28 dX11_mark_21 (by decide) (fun c_21 => ?_) (fun c_21 => ?_)
      · (try simp (disch := omega) only [i32_lti, i32_lei, i32_eqi, nI_toInt, i32z] at c_21)
        refine ev_aload_n (pc := 28) dX11_mark_28 rfl ?_
        refine gf_X11_69 (pc := 29) rfl dX11_mark_29 (by (try dsimp only); (repeat (first | rw [up_s] | rw [up_n (by omega)])) <;> first | rfl | assumption) ?_
        refine ev_iload_n (pc := 32) dX11_mark_32 rfl ?_
        refine ev_aald (pc := 33) (t := 6) dX11_mark_33 rfl (by (try dsimp only); (repeat (first | rw [up_s] | rw [up_n (by omega)])) <;> first | rfl | assumption) (nI_toInt (by omega)) rfl ?_
        refine ev_aload_n (pc := 34) dX11_mark_34 rfl ?_
        refine gf_X11_19 (pc := 35) rfl dX11_mark_35 (by (try dsimp only); (repeat (first | rw [up_s] | rw [up_n (by omega)])) <;> first | rfl | assumption) ?_
        refine ev_aload_n (pc := 38) dX11_mark_38 rfl ?_
        refine gf_X11_29 (pc := 39) rfl dX11_mark_39 (by (try dsimp only); (repeat (first | rw [up_s] | rw [up_n (by omega)])) <;> first | rfl | assumption) ?_
        refine gf_X11_102 (pc := 42) rfl dX11_mark_42 (by (try dsimp only); (repeat (first | rw [up_s] | rw [up_n (by omega)])) <;> first | rfl | assumption) ?_
        refine ev_iload_n (pc := 45) dX11_mark_45 rfl ?_
        refine iv_X11_270_r4 (pc := 46) rfl dX11_mark_46 (by (try dsimp only); (repeat (first | rw [up_s] | rw [up_n (by omega)])) <;> first | rfl | assumption) (Nat.le_of_ble_eq_true rfl) (Nat.le_of_ble_eq_true rfl) (Nat.le_of_ble_eq_true rfl) (Nat.le_of_ble_eq_true rfl) (c_X4_marked_r4 p2 ps.now g pb b9.1 b9.w ht (by omega) (by omega)) (ki (fun r S' hS => ?_))
        obtain ⟨h1, z'⟩ := S'
        obtain ⟨rfl, rfl, f1, s1⟩ := hS
        refine ev_iret (pc := 49) dX11_mark_49 rfl rfl (Nat.le_of_ble_eq_true rfl) (Nat.le_of_ble_eq_true rfl) ?_
        refine ⟨_, rfl, rfl, rfl, (fun q a => f1 q (by omega)), p.kd (fun q a => f1 q (by omega)) ⟨v0, v1, (v2 + (100 + 1)), v3, v4, v5, (f1 _ (by omega)).trans p0, (f1 _ (by omega)).trans p1, s1, (f1 _ (by omega)).trans p3, (f1 _ (by omega)).trans p4, (f1 _ (by omega)).trans p5, ?_⟩⟩
        rw [← p6, show trK 2 = 100 + 1 from rfl]
        generalize (100 + 1 : Int64) = w
        ac_rfl
      · exact absurd c_21 (by decide)
theorem c_D_mark3 (p : pC h d cs B N P I J wn op n tr) (b9 : wB m B) (g : wT N) {t : Nat} (ht : t < bT B) : Ct X 5 mt_X11_mark [.ref d, .int (nI 3), .int (nI t)] (h, z) 0 0 (Qi (fun r S' => r = aMark B N t 3 ∧ S'.2 = z ∧ hfr h S'.1 d 174 ∧ pC S'.1 d cs B N P I J wn op n (tr + trK 3))) := by
  obtain ⟨po, -, pb, -, ps, -, -, -, pka, pkd, -⟩ := id p
  unfold pDO at po
  unfold pKa at pka
  obtain ⟨v0, v1, v2, v3, v4, v5, p0, p1, p2, p3, p4, p5, p6⟩ := id pkd
  have h6 := b9.1
  have hb := pb.1
  have hs := ps.obj
  refine mk_X11_mark (Nat.le_of_ble_eq_true rfl) (L := [.ref d, .int (nI 3), .int (nI t)]) rfl ?_
  refine ev_iload_n (pc := 0) dX11_mark_0 rfl ?_
  refine ev_if_lt (pc := 1) 24 dX11_mark_1 (by decide) (fun c_1 => ?_) (fun c_1 => ?_)
  · exfalso; (try simp (disch := omega) only [i32_lti, i32_lei, i32_eqi, nI_toInt, i32z] at c_1); omega
  · (try simp (disch := omega) only [i32_lti, i32_lei, i32_eqi, nI_toInt, i32z] at c_1)
    refine ev_iload_n (pc := 4) dX11_mark_4 rfl ?_
    refine ev_aload_n (pc := 5) dX11_mark_5 rfl ?_
    refine gf_X11_69 (pc := 6) rfl dX11_mark_6 (by (try dsimp only); (repeat (first | rw [up_s] | rw [up_n (by omega)])) <;> first | rfl | assumption) ?_
    refine ev_alen (pc := 9) (t := 6) dX11_mark_9 (Nat.le_of_ble_eq_true rfl) (by (try dsimp only); (repeat (first | rw [up_s] | rw [up_n (by omega)])) <;> first | rfl | assumption) ?_
    refine ev_icmp_ge (pc := 10) 24 dX11_mark_10 (by decide) (fun c_10 => ?_) (fun c_10 => ?_)
    · exfalso; rw [show am_len (.inr (6, .inr (.inr [some (d + 76), some (d + 77), some (d + 78), some (d + 79), some (d + 80), some (d + 81)]))) = 6 from rfl] at c_10; (try simp (disch := omega) only [i32_lti, i32_lei, i32_eqi, nI_toInt, i32z] at c_10); omega
    · rw [show am_len (.inr (6, .inr (.inr [some (d + 76), some (d + 77), some (d + 78), some (d + 79), some (d + 80), some (d + 81)]))) = 6 from rfl] at c_10
      refine ev_aload_n (pc := 13) dX11_mark_13 rfl ?_
      refine gf_X11_19 (pc := 14) rfl dX11_mark_14 (by (try dsimp only); (repeat (first | rw [up_s] | rw [up_n (by omega)])) <;> first | rfl | assumption) ?_
      refine ev_iload_n (pc := 17) dX11_mark_17 rfl ?_
      refine iv_X11_99 (pc := 18) rfl dX11_mark_18 (by (try dsimp only); (repeat (first | rw [up_s] | rw [up_n (by omega)])) <;> first | rfl | assumption) (Nat.le_of_ble_eq_true rfl) (Nat.le_of_ble_eq_true rfl) (Nat.le_of_ble_eq_true rfl) (Nat.le_of_ble_eq_true rfl) (c_isTale pb b9.1 (nI t)) (kp ?_)
      rw [iTn_nI (by omega), decide_eq_true ht]
      refine ev_if_ne (pc := 21) 28 dX11_mark_21 (by decide) (fun c_21 => ?_) (fun c_21 => ?_)
      · (try simp (disch := omega) only [i32_lti, i32_lei, i32_eqi, nI_toInt, i32z] at c_21)
        refine ev_aload_n (pc := 28) dX11_mark_28 rfl ?_
        refine gf_X11_69 (pc := 29) rfl dX11_mark_29 (by (try dsimp only); (repeat (first | rw [up_s] | rw [up_n (by omega)])) <;> first | rfl | assumption) ?_
        refine ev_iload_n (pc := 32) dX11_mark_32 rfl ?_
        refine ev_aald (pc := 33) (t := 6) dX11_mark_33 rfl (by (try dsimp only); (repeat (first | rw [up_s] | rw [up_n (by omega)])) <;> first | rfl | assumption) (nI_toInt (by omega)) rfl ?_
        refine ev_aload_n (pc := 34) dX11_mark_34 rfl ?_
        refine gf_X11_19 (pc := 35) rfl dX11_mark_35 (by (try dsimp only); (repeat (first | rw [up_s] | rw [up_n (by omega)])) <;> first | rfl | assumption) ?_
        refine ev_aload_n (pc := 38) dX11_mark_38 rfl ?_
        refine gf_X11_29 (pc := 39) rfl dX11_mark_39 (by (try dsimp only); (repeat (first | rw [up_s] | rw [up_n (by omega)])) <;> first | rfl | assumption) ?_
        refine gf_X11_102 (pc := 42) rfl dX11_mark_42 (by (try dsimp only); (repeat (first | rw [up_s] | rw [up_n (by omega)])) <;> first | rfl | assumption) ?_
        refine ev_iload_n (pc := 45) dX11_mark_45 rfl ?_
        refine iv_X11_270_r10 (pc := 46) rfl dX11_mark_46 (by (try dsimp only); (repeat (first | rw [up_s] | rw [up_n (by omega)])) <;> first | rfl | assumption) (Nat.le_of_ble_eq_true rfl) (Nat.le_of_ble_eq_true rfl) (Nat.le_of_ble_eq_true rfl) (Nat.le_of_ble_eq_true rfl) (c_X10_marked_r10 p3 ps.now g pb b9.1 b9.w ht (by omega) (by omega)) (ki (fun r S' hS => ?_))
        obtain ⟨h1, z'⟩ := S'
        obtain ⟨rfl, rfl, f1, s1⟩ := hS
        refine ev_iret (pc := 49) dX11_mark_49 rfl rfl (Nat.le_of_ble_eq_true rfl) (Nat.le_of_ble_eq_true rfl) ?_
        refine ⟨_, rfl, rfl, rfl, (fun q a => f1 q (by omega)), p.kd (fun q a => f1 q (by omega)) ⟨v0, v1, v2, (v3 + (1000 + (10 + 1))), v4, v5, (f1 _ (by omega)).trans p0, (f1 _ (by omega)).trans p1, (f1 _ (by omega)).trans p2, s1, (f1 _ (by omega)).trans p4, (f1 _ (by omega)).trans p5, ?_⟩⟩
        rw [← p6, show trK 3 = 1000 + (10 + 1) from rfl]
        generalize (1000 + (10 + 1) : Int64) = w
        ac_rfl
      · exact absurd c_21 (by decide)
theorem c_D_mark4 (p : pC h d cs B N P I J wn op n tr) (b9 : wB m B) (g : wT N) {t : Nat} (ht : t < bT B) : Ct X 5 mt_X11_mark [.ref d, .int (nI 4), .int (nI t)] (h, z) 0 0 (Qi (fun r S' => r = aMark B N t 4 ∧ S'.2 = z ∧ hfr h S'.1 d 174 ∧ pC S'.1 d cs B N P I J wn op n (tr + trK 4))) := by
  obtain ⟨po, -, pb, -, ps, -, -, -, pka, pkd, -⟩ := id p
  unfold pDO at po
  unfold pKa at pka
  obtain ⟨v0, v1, v2, v3, v4, v5, p0, p1, p2, p3, p4, p5, p6⟩ := id pkd
  have h6 := b9.1
  have hb := pb.1
  have hs := ps.obj
  refine mk_X11_mark (Nat.le_of_ble_eq_true rfl) (L := [.ref d, .int (nI 4), .int (nI t)]) rfl ?_
  refine ev_iload_n (pc := 0) dX11_mark_0 rfl ?_
  refine ev_if_lt (pc := 1) 24 dX11_mark_1 (by decide) (fun c_1 => ?_) (fun c_1 => ?_)
  · exfalso; (try simp (disch := omega) only [i32_lti, i32_lei, i32_eqi, nI_toInt, i32z] at c_1); omega
  · (try simp (disch := omega) only [i32_lti, i32_lei, i32_eqi, nI_toInt, i32z] at c_1)
    refine ev_iload_n (pc := 4) dX11_mark_4 rfl ?_
    refine ev_aload_n (pc := 5) dX11_mark_5 rfl ?_
    refine gf_X11_69 (pc := 6) rfl dX11_mark_6 (by (try dsimp only); (repeat (first | rw [up_s] | rw [up_n (by omega)])) <;> first | rfl | assumption) ?_
    refine ev_alen (pc := 9) (t := 6) dX11_mark_9 (Nat.le_of_ble_eq_true rfl) (by (try dsimp only); (repeat (first | rw [up_s] | rw [up_n (by omega)])) <;> first | rfl | assumption) ?_
    refine ev_icmp_ge (pc := 10) 24 dX11_mark_10 (by decide) (fun c_10 => ?_) (fun c_10 => ?_)
    · exfalso; rw [show am_len (.inr (6, .inr (.inr [some (d + 76), some (d + 77), some (d + 78), some (d + 79), some (d + 80), some (d + 81)]))) = 6 from rfl] at c_10; (try simp (disch := omega) only [i32_lti, i32_lei, i32_eqi, nI_toInt, i32z] at c_10); omega
    · rw [show am_len (.inr (6, .inr (.inr [some (d + 76), some (d + 77), some (d + 78), some (d + 79), some (d + 80), some (d + 81)]))) = 6 from rfl] at c_10
      refine ev_aload_n (pc := 13) dX11_mark_13 rfl ?_
      refine gf_X11_19 (pc := 14) rfl dX11_mark_14 (by (try dsimp only); (repeat (first | rw [up_s] | rw [up_n (by omega)])) <;> first | rfl | assumption) ?_
      refine ev_iload_n (pc := 17) dX11_mark_17 rfl ?_
      refine iv_X11_99 (pc := 18) rfl dX11_mark_18 (by (try dsimp only); (repeat (first | rw [up_s] | rw [up_n (by omega)])) <;> first | rfl | assumption) (Nat.le_of_ble_eq_true rfl) (Nat.le_of_ble_eq_true rfl) (Nat.le_of_ble_eq_true rfl) (Nat.le_of_ble_eq_true rfl) (c_isTale pb b9.1 (nI t)) (kp ?_)
      rw [iTn_nI (by omega), decide_eq_true ht]
      refine ev_if_ne (pc := 21) 28 dX11_mark_21 (by decide) (fun c_21 => ?_) (fun c_21 => ?_)
      · (try simp (disch := omega) only [i32_lti, i32_lei, i32_eqi, nI_toInt, i32z] at c_21)
        refine ev_aload_n (pc := 28) dX11_mark_28 rfl ?_
        refine gf_X11_69 (pc := 29) rfl dX11_mark_29 (by (try dsimp only); (repeat (first | rw [up_s] | rw [up_n (by omega)])) <;> first | rfl | assumption) ?_
        refine ev_iload_n (pc := 32) dX11_mark_32 rfl ?_
        refine ev_aald (pc := 33) (t := 6) dX11_mark_33 rfl (by (try dsimp only); (repeat (first | rw [up_s] | rw [up_n (by omega)])) <;> first | rfl | assumption) (nI_toInt (by omega)) rfl ?_
        refine ev_aload_n (pc := 34) dX11_mark_34 rfl ?_
        refine gf_X11_19 (pc := 35) rfl dX11_mark_35 (by (try dsimp only); (repeat (first | rw [up_s] | rw [up_n (by omega)])) <;> first | rfl | assumption) ?_
        refine ev_aload_n (pc := 38) dX11_mark_38 rfl ?_
        refine gf_X11_29 (pc := 39) rfl dX11_mark_39 (by (try dsimp only); (repeat (first | rw [up_s] | rw [up_n (by omega)])) <;> first | rfl | assumption) ?_
        refine gf_X11_102 (pc := 42) rfl dX11_mark_42 (by (try dsimp only); (repeat (first | rw [up_s] | rw [up_n (by omega)])) <;> first | rfl | assumption) ?_
        refine ev_iload_n (pc := 45) dX11_mark_45 rfl ?_
        refine iv_X11_270_r2 (pc := 46) rfl dX11_mark_46 (by (try dsimp only); (repeat (first | rw [up_s] | rw [up_n (by omega)])) <;> first | rfl | assumption) (Nat.le_of_ble_eq_true rfl) (Nat.le_of_ble_eq_true rfl) (Nat.le_of_ble_eq_true rfl) (Nat.le_of_ble_eq_true rfl) (c_X2_marked_r2 p4 ps.now g pb b9.1 b9.w ht (by omega) (by omega)) (ki (fun r S' hS => ?_))
        obtain ⟨h1, z'⟩ := S'
        obtain ⟨rfl, rfl, f1, s1⟩ := hS
        refine ev_iret (pc := 49) dX11_mark_49 rfl rfl (Nat.le_of_ble_eq_true rfl) (Nat.le_of_ble_eq_true rfl) ?_
        refine ⟨_, rfl, rfl, rfl, (fun q a => f1 q (by omega)), p.kd (fun q a => f1 q (by omega)) ⟨v0, v1, v2, v3, (v4 + (10000 + (100 + 1))), v5, (f1 _ (by omega)).trans p0, (f1 _ (by omega)).trans p1, (f1 _ (by omega)).trans p2, (f1 _ (by omega)).trans p3, s1, (f1 _ (by omega)).trans p5, ?_⟩⟩
        rw [← p6, show trK 4 = 10000 + (100 + 1) from rfl]
        generalize (10000 + (100 + 1) : Int64) = w
        ac_rfl
      · exact absurd c_21 (by decide)
theorem c_D_mark5 (p : pC h d cs B N P I J wn op n tr) (b9 : wB m B) (g : wT N) {t : Nat} (ht : t < bT B) : Ct X 5 mt_X11_mark [.ref d, .int (nI 5), .int (nI t)] (h, z) 0 0 (Qi (fun r S' => r = aMark B N t 5 ∧ S'.2 = z ∧ hfr h S'.1 d 174 ∧ pC S'.1 d cs B N P I J wn op n (tr + trK 5))) := by
  obtain ⟨po, -, pb, -, ps, -, -, -, pka, pkd, -⟩ := id p
  unfold pDO at po
  unfold pKa at pka
  obtain ⟨v0, v1, v2, v3, v4, v5, p0, p1, p2, p3, p4, p5, p6⟩ := id pkd
  have h6 := b9.1
  have hb := pb.1
  have hs := ps.obj
  refine mk_X11_mark (Nat.le_of_ble_eq_true rfl) (L := [.ref d, .int (nI 5), .int (nI t)]) rfl ?_
  refine ev_iload_n (pc := 0) dX11_mark_0 rfl ?_
  refine ev_if_lt (pc := 1) 24 dX11_mark_1 (by decide) (fun c_1 => ?_) (fun c_1 => ?_)
  · exfalso; (try simp (disch := omega) only [i32_lti, i32_lei, i32_eqi, nI_toInt, i32z] at c_1); omega
  · (try simp (disch := omega) only [i32_lti, i32_lei, i32_eqi, nI_toInt, i32z] at c_1)
    refine ev_iload_n (pc := 4) dX11_mark_4 rfl ?_
    refine ev_aload_n (pc := 5) dX11_mark_5 rfl ?_
    refine gf_X11_69 (pc := 6) rfl dX11_mark_6 (by (try dsimp only); (repeat (first | rw [up_s] | rw [up_n (by omega)])) <;> first | rfl | assumption) ?_
    refine ev_alen (pc := 9) (t := 6) dX11_mark_9 (Nat.le_of_ble_eq_true rfl) (by (try dsimp only); (repeat (first | rw [up_s] | rw [up_n (by omega)])) <;> first | rfl | assumption) ?_
    refine ev_icmp_ge (pc := 10) 24 dX11_mark_10 (by decide) (fun c_10 => ?_) (fun c_10 => ?_)
    · exfalso; rw [show am_len (.inr (6, .inr (.inr [some (d + 76), some (d + 77), some (d + 78), some (d + 79), some (d + 80), some (d + 81)]))) = 6 from rfl] at c_10; (try simp (disch := omega) only [i32_lti, i32_lei, i32_eqi, nI_toInt, i32z] at c_10); omega
    · rw [show am_len (.inr (6, .inr (.inr [some (d + 76), some (d + 77), some (d + 78), some (d + 79), some (d + 80), some (d + 81)]))) = 6 from rfl] at c_10
      refine ev_aload_n (pc := 13) dX11_mark_13 rfl ?_
      refine gf_X11_19 (pc := 14) rfl dX11_mark_14 (by (try dsimp only); (repeat (first | rw [up_s] | rw [up_n (by omega)])) <;> first | rfl | assumption) ?_
      refine ev_iload_n (pc := 17) dX11_mark_17 rfl ?_
      refine iv_X11_99 (pc := 18) rfl dX11_mark_18 (by (try dsimp only); (repeat (first | rw [up_s] | rw [up_n (by omega)])) <;> first | rfl | assumption) (Nat.le_of_ble_eq_true rfl) (Nat.le_of_ble_eq_true rfl) (Nat.le_of_ble_eq_true rfl) (Nat.le_of_ble_eq_true rfl) (c_isTale pb b9.1 (nI t)) (kp ?_)
      rw [iTn_nI (by omega), decide_eq_true ht]
      refine ev_if_ne (pc := 21) 28 dX11_mark_21 (by decide) (fun c_21 => ?_) (fun c_21 => ?_)
      · (try simp (disch := omega) only [i32_lti, i32_lei, i32_eqi, nI_toInt, i32z] at c_21)
        refine ev_aload_n (pc := 28) dX11_mark_28 rfl ?_
        refine gf_X11_69 (pc := 29) rfl dX11_mark_29 (by (try dsimp only); (repeat (first | rw [up_s] | rw [up_n (by omega)])) <;> first | rfl | assumption) ?_
        refine ev_iload_n (pc := 32) dX11_mark_32 rfl ?_
        refine ev_aald (pc := 33) (t := 6) dX11_mark_33 rfl (by (try dsimp only); (repeat (first | rw [up_s] | rw [up_n (by omega)])) <;> first | rfl | assumption) (nI_toInt (by omega)) rfl ?_
        refine ev_aload_n (pc := 34) dX11_mark_34 rfl ?_
        refine gf_X11_19 (pc := 35) rfl dX11_mark_35 (by (try dsimp only); (repeat (first | rw [up_s] | rw [up_n (by omega)])) <;> first | rfl | assumption) ?_
        refine ev_aload_n (pc := 38) dX11_mark_38 rfl ?_
        refine gf_X11_29 (pc := 39) rfl dX11_mark_39 (by (try dsimp only); (repeat (first | rw [up_s] | rw [up_n (by omega)])) <;> first | rfl | assumption) ?_
        refine gf_X11_102 (pc := 42) rfl dX11_mark_42 (by (try dsimp only); (repeat (first | rw [up_s] | rw [up_n (by omega)])) <;> first | rfl | assumption) ?_
        refine ev_iload_n (pc := 45) dX11_mark_45 rfl ?_
        refine iv_X11_270_r3 (pc := 46) rfl dX11_mark_46 (by (try dsimp only); (repeat (first | rw [up_s] | rw [up_n (by omega)])) <;> first | rfl | assumption) (Nat.le_of_ble_eq_true rfl) (Nat.le_of_ble_eq_true rfl) (Nat.le_of_ble_eq_true rfl) (Nat.le_of_ble_eq_true rfl) (c_X3_marked_r3 p5 ps.now g pb b9.1 b9.w ht (by omega) (by omega)) (ki (fun r S' hS => ?_))
        obtain ⟨h1, z'⟩ := S'
        obtain ⟨rfl, rfl, f1, s1⟩ := hS
        refine ev_iret (pc := 49) dX11_mark_49 rfl rfl (Nat.le_of_ble_eq_true rfl) (Nat.le_of_ble_eq_true rfl) ?_
        refine ⟨_, rfl, rfl, rfl, (fun q a => f1 q (by omega)), p.kd (fun q a => f1 q (by omega)) ⟨v0, v1, v2, v3, v4, (v5 + (100000 + 1)), (f1 _ (by omega)).trans p0, (f1 _ (by omega)).trans p1, (f1 _ (by omega)).trans p2, (f1 _ (by omega)).trans p3, (f1 _ (by omega)).trans p4, s1, ?_⟩⟩
        rw [← p6, show trK 5 = 100000 + 1 from rfl]
        generalize (100000 + 1 : Int64) = w
        ac_rfl
      · exact absurd c_21 (by decide)
theorem c_D_trace (p : pC h d cs B N P I J wn op n tr) : Ct X 0 mt_X11_trace [.ref d] (h, z) 0 0 (QP (.long tr) (h, z)) := by
  obtain ⟨po, -, -, -, -, -, -, -, pka, pkd, -⟩ := id p
  unfold pDO at po
  unfold pKa at pka
  obtain ⟨v0, v1, v2, v3, v4, v5, p0, p1, p2, p3, p4, p5, p6⟩ := id pkd
  refine mk_X11_trace (Nat.le_of_ble_eq_true rfl) (L := [.ref d, .retAddr 0, .retAddr 0, .retAddr 0]) rfl ?_
  have q6 : Ev X (mi_X11_trace 0 0 0) (QP (.long tr) (h, z)) 0 0 (h, z) 4 [.ref d, .long ((((((0 + v0) + v1) + v2) + v3) + v4) + v5), .retAddr 0, .int (nI 6)] [] := by
    refine ev_iload_n (pc := 4) dX11_trace_4 rfl ?_
    refine ev_aload_n (pc := 5) dX11_trace_5 rfl ?_
    refine gf_X11_69 (pc := 6) rfl dX11_trace_6 (by (try dsimp only); (repeat (first | rw [up_s] | rw [up_n (by omega)])) <;> first | rfl | assumption) ?_
    refine ev_alen (pc := 9) (t := 6) dX11_trace_9 (Nat.le_of_ble_eq_true rfl) (by (try dsimp only); (repeat (first | rw [up_s] | rw [up_n (by omega)])) <;> first | rfl | assumption) ?_
    refine ev_icmp_ge (pc := 10) 31 dX11_trace_10 (by decide) (fun c_10 => ?_) (fun c_10 => ?_)
    · (try simp (disch := omega) only [i32_lti, i32_lei, i32_eqi, nI_toInt, i32z] at c_10)
      refine ev_lload_n (pc := 31) dX11_trace_31 rfl ?_
      refine ev_lret (pc := 32) dX11_trace_32 rfl (Nat.le_of_ble_eq_true rfl) (Nat.le_of_ble_eq_true rfl) ?_
      exact ⟨by rw [Int64.zero_add, p6], rfl⟩
    · exfalso; rw [show am_len (.inr (6, .inr (.inr [some (d + 76), some (d + 77), some (d + 78), some (d + 79), some (d + 80), some (d + 81)]))) = 6 from rfl] at c_10; (try simp (disch := omega) only [i32_lti, i32_lei, i32_eqi, nI_toInt, i32z] at c_10); omega
  have q5 : Ev X (mi_X11_trace 0 0 0) (QP (.long tr) (h, z)) 0 0 (h, z) 4 [.ref d, .long (((((0 + v0) + v1) + v2) + v3) + v4), .retAddr 0, .int (nI 5)] [] := by
    refine ev_iload_n (pc := 4) dX11_trace_4 rfl ?_
    refine ev_aload_n (pc := 5) dX11_trace_5 rfl ?_
    refine gf_X11_69 (pc := 6) rfl dX11_trace_6 (by (try dsimp only); (repeat (first | rw [up_s] | rw [up_n (by omega)])) <;> first | rfl | assumption) ?_
    refine ev_alen (pc := 9) (t := 6) dX11_trace_9 (Nat.le_of_ble_eq_true rfl) (by (try dsimp only); (repeat (first | rw [up_s] | rw [up_n (by omega)])) <;> first | rfl | assumption) ?_
    refine ev_icmp_ge (pc := 10) 31 dX11_trace_10 (by decide) (fun c_10 => ?_) (fun c_10 => ?_)
    · exfalso; rw [show am_len (.inr (6, .inr (.inr [some (d + 76), some (d + 77), some (d + 78), some (d + 79), some (d + 80), some (d + 81)]))) = 6 from rfl] at c_10; (try simp (disch := omega) only [i32_lti, i32_lei, i32_eqi, nI_toInt, i32z] at c_10); omega
    · (try simp (disch := omega) only [i32_lti, i32_lei, i32_eqi, nI_toInt, i32z] at c_10)
      refine ev_lload_n (pc := 13) dX11_trace_13 rfl ?_
      refine ev_aload_n (pc := 14) dX11_trace_14 rfl ?_
      refine gf_X11_69 (pc := 15) rfl dX11_trace_15 (by (try dsimp only); (repeat (first | rw [up_s] | rw [up_n (by omega)])) <;> first | rfl | assumption) ?_
      refine ev_iload_n (pc := 18) dX11_trace_18 rfl ?_
      refine ev_aald (pc := 19) (t := 6) dX11_trace_19 rfl (by (try dsimp only); (repeat (first | rw [up_s] | rw [up_n (by omega)])) <;> first | rfl | assumption) (nI_toInt (by omega)) rfl ?_
      refine gf_X11_292_r3 (pc := 20) rfl dX11_trace_20 (by (try dsimp only); (repeat (first | rw [up_s] | rw [up_n (by omega)])) <;> first | rfl | assumption) ?_
      refine ev_ladd (pc := 23) dX11_trace_23 ?_
      refine ev_lstore_n (pc := 24) (L' := [_, _, _, _]) dX11_trace_24 (Nat.le_of_ble_eq_true rfl) rfl ?_
      refine ev_iinc (pc := 25) (L' := [_, _, _, _]) dX11_trace_25 rfl (nI_1 _) rfl ?_
      refine ev_goto (pc := 28) 4 dX11_trace_28 (by decide) ?_
      exact q6
  have q4 : Ev X (mi_X11_trace 0 0 0) (QP (.long tr) (h, z)) 0 0 (h, z) 4 [.ref d, .long ((((0 + v0) + v1) + v2) + v3), .retAddr 0, .int (nI 4)] [] := by
    refine ev_iload_n (pc := 4) dX11_trace_4 rfl ?_
    refine ev_aload_n (pc := 5) dX11_trace_5 rfl ?_
    refine gf_X11_69 (pc := 6) rfl dX11_trace_6 (by (try dsimp only); (repeat (first | rw [up_s] | rw [up_n (by omega)])) <;> first | rfl | assumption) ?_
    refine ev_alen (pc := 9) (t := 6) dX11_trace_9 (Nat.le_of_ble_eq_true rfl) (by (try dsimp only); (repeat (first | rw [up_s] | rw [up_n (by omega)])) <;> first | rfl | assumption) ?_
    refine ev_icmp_ge (pc := 10) 31 dX11_trace_10 (by decide) (fun c_10 => ?_) (fun c_10 => ?_)
    · exfalso; rw [show am_len (.inr (6, .inr (.inr [some (d + 76), some (d + 77), some (d + 78), some (d + 79), some (d + 80), some (d + 81)]))) = 6 from rfl] at c_10; (try simp (disch := omega) only [i32_lti, i32_lei, i32_eqi, nI_toInt, i32z] at c_10); omega
    · (try simp (disch := omega) only [i32_lti, i32_lei, i32_eqi, nI_toInt, i32z] at c_10)
      refine ev_lload_n (pc := 13) dX11_trace_13 rfl ?_
      refine ev_aload_n (pc := 14) dX11_trace_14 rfl ?_
      refine gf_X11_69 (pc := 15) rfl dX11_trace_15 (by (try dsimp only); (repeat (first | rw [up_s] | rw [up_n (by omega)])) <;> first | rfl | assumption) ?_
      refine ev_iload_n (pc := 18) dX11_trace_18 rfl ?_
      refine ev_aald (pc := 19) (t := 6) dX11_trace_19 rfl (by (try dsimp only); (repeat (first | rw [up_s] | rw [up_n (by omega)])) <;> first | rfl | assumption) (nI_toInt (by omega)) rfl ?_
      refine gf_X11_292_r2 (pc := 20) rfl dX11_trace_20 (by (try dsimp only); (repeat (first | rw [up_s] | rw [up_n (by omega)])) <;> first | rfl | assumption) ?_
      refine ev_ladd (pc := 23) dX11_trace_23 ?_
      refine ev_lstore_n (pc := 24) (L' := [_, _, _, _]) dX11_trace_24 (Nat.le_of_ble_eq_true rfl) rfl ?_
      refine ev_iinc (pc := 25) (L' := [_, _, _, _]) dX11_trace_25 rfl (nI_1 _) rfl ?_
      refine ev_goto (pc := 28) 4 dX11_trace_28 (by decide) ?_
      exact q5
  have q3 : Ev X (mi_X11_trace 0 0 0) (QP (.long tr) (h, z)) 0 0 (h, z) 4 [.ref d, .long (((0 + v0) + v1) + v2), .retAddr 0, .int (nI 3)] [] := by
    refine ev_iload_n (pc := 4) dX11_trace_4 rfl ?_
    refine ev_aload_n (pc := 5) dX11_trace_5 rfl ?_
    refine gf_X11_69 (pc := 6) rfl dX11_trace_6 (by (try dsimp only); (repeat (first | rw [up_s] | rw [up_n (by omega)])) <;> first | rfl | assumption) ?_
    refine ev_alen (pc := 9) (t := 6) dX11_trace_9 (Nat.le_of_ble_eq_true rfl) (by (try dsimp only); (repeat (first | rw [up_s] | rw [up_n (by omega)])) <;> first | rfl | assumption) ?_
    refine ev_icmp_ge (pc := 10) 31 dX11_trace_10 (by decide) (fun c_10 => ?_) (fun c_10 => ?_)
    · exfalso; rw [show am_len (.inr (6, .inr (.inr [some (d + 76), some (d + 77), some (d + 78), some (d + 79), some (d + 80), some (d + 81)]))) = 6 from rfl] at c_10; (try simp (disch := omega) only [i32_lti, i32_lei, i32_eqi, nI_toInt, i32z] at c_10); omega
    · (try simp (disch := omega) only [i32_lti, i32_lei, i32_eqi, nI_toInt, i32z] at c_10)
      refine ev_lload_n (pc := 13) dX11_trace_13 rfl ?_
      refine ev_aload_n (pc := 14) dX11_trace_14 rfl ?_
      refine gf_X11_69 (pc := 15) rfl dX11_trace_15 (by (try dsimp only); (repeat (first | rw [up_s] | rw [up_n (by omega)])) <;> first | rfl | assumption) ?_
      refine ev_iload_n (pc := 18) dX11_trace_18 rfl ?_
      refine ev_aald (pc := 19) (t := 6) dX11_trace_19 rfl (by (try dsimp only); (repeat (first | rw [up_s] | rw [up_n (by omega)])) <;> first | rfl | assumption) (nI_toInt (by omega)) rfl ?_
      refine gf_X11_292_r10 (pc := 20) rfl dX11_trace_20 (by (try dsimp only); (repeat (first | rw [up_s] | rw [up_n (by omega)])) <;> first | rfl | assumption) ?_
      refine ev_ladd (pc := 23) dX11_trace_23 ?_
      refine ev_lstore_n (pc := 24) (L' := [_, _, _, _]) dX11_trace_24 (Nat.le_of_ble_eq_true rfl) rfl ?_
      refine ev_iinc (pc := 25) (L' := [_, _, _, _]) dX11_trace_25 rfl (nI_1 _) rfl ?_
      refine ev_goto (pc := 28) 4 dX11_trace_28 (by decide) ?_
      exact q4
  have q2 : Ev X (mi_X11_trace 0 0 0) (QP (.long tr) (h, z)) 0 0 (h, z) 4 [.ref d, .long ((0 + v0) + v1), .retAddr 0, .int (nI 2)] [] := by
    refine ev_iload_n (pc := 4) dX11_trace_4 rfl ?_
    refine ev_aload_n (pc := 5) dX11_trace_5 rfl ?_
    refine gf_X11_69 (pc := 6) rfl dX11_trace_6 (by (try dsimp only); (repeat (first | rw [up_s] | rw [up_n (by omega)])) <;> first | rfl | assumption) ?_
    refine ev_alen (pc := 9) (t := 6) dX11_trace_9 (Nat.le_of_ble_eq_true rfl) (by (try dsimp only); (repeat (first | rw [up_s] | rw [up_n (by omega)])) <;> first | rfl | assumption) ?_
    refine ev_icmp_ge (pc := 10) 31 dX11_trace_10 (by decide) (fun c_10 => ?_) (fun c_10 => ?_)
    · exfalso; rw [show am_len (.inr (6, .inr (.inr [some (d + 76), some (d + 77), some (d + 78), some (d + 79), some (d + 80), some (d + 81)]))) = 6 from rfl] at c_10; (try simp (disch := omega) only [i32_lti, i32_lei, i32_eqi, nI_toInt, i32z] at c_10); omega
    · (try simp (disch := omega) only [i32_lti, i32_lei, i32_eqi, nI_toInt, i32z] at c_10)
      refine ev_lload_n (pc := 13) dX11_trace_13 rfl ?_
      refine ev_aload_n (pc := 14) dX11_trace_14 rfl ?_
      refine gf_X11_69 (pc := 15) rfl dX11_trace_15 (by (try dsimp only); (repeat (first | rw [up_s] | rw [up_n (by omega)])) <;> first | rfl | assumption) ?_
      refine ev_iload_n (pc := 18) dX11_trace_18 rfl ?_
      refine ev_aald (pc := 19) (t := 6) dX11_trace_19 rfl (by (try dsimp only); (repeat (first | rw [up_s] | rw [up_n (by omega)])) <;> first | rfl | assumption) (nI_toInt (by omega)) rfl ?_
      refine gf_X11_292_r4 (pc := 20) rfl dX11_trace_20 (by (try dsimp only); (repeat (first | rw [up_s] | rw [up_n (by omega)])) <;> first | rfl | assumption) ?_
      refine ev_ladd (pc := 23) dX11_trace_23 ?_
      refine ev_lstore_n (pc := 24) (L' := [_, _, _, _]) dX11_trace_24 (Nat.le_of_ble_eq_true rfl) rfl ?_
      refine ev_iinc (pc := 25) (L' := [_, _, _, _]) dX11_trace_25 rfl (nI_1 _) rfl ?_
      refine ev_goto (pc := 28) 4 dX11_trace_28 (by decide) ?_
      exact q3
  have q1 : Ev X (mi_X11_trace 0 0 0) (QP (.long tr) (h, z)) 0 0 (h, z) 4 [.ref d, .long (0 + v0), .retAddr 0, .int (nI 1)] [] := by
    refine ev_iload_n (pc := 4) dX11_trace_4 rfl ?_
    refine ev_aload_n (pc := 5) dX11_trace_5 rfl ?_
    refine gf_X11_69 (pc := 6) rfl dX11_trace_6 (by (try dsimp only); (repeat (first | rw [up_s] | rw [up_n (by omega)])) <;> first | rfl | assumption) ?_
    refine ev_alen (pc := 9) (t := 6) dX11_trace_9 (Nat.le_of_ble_eq_true rfl) (by (try dsimp only); (repeat (first | rw [up_s] | rw [up_n (by omega)])) <;> first | rfl | assumption) ?_
    refine ev_icmp_ge (pc := 10) 31 dX11_trace_10 (by decide) (fun c_10 => ?_) (fun c_10 => ?_)
    · exfalso; rw [show am_len (.inr (6, .inr (.inr [some (d + 76), some (d + 77), some (d + 78), some (d + 79), some (d + 80), some (d + 81)]))) = 6 from rfl] at c_10; (try simp (disch := omega) only [i32_lti, i32_lei, i32_eqi, nI_toInt, i32z] at c_10); omega
    · (try simp (disch := omega) only [i32_lti, i32_lei, i32_eqi, nI_toInt, i32z] at c_10)
      refine ev_lload_n (pc := 13) dX11_trace_13 rfl ?_
      refine ev_aload_n (pc := 14) dX11_trace_14 rfl ?_
      refine gf_X11_69 (pc := 15) rfl dX11_trace_15 (by (try dsimp only); (repeat (first | rw [up_s] | rw [up_n (by omega)])) <;> first | rfl | assumption) ?_
      refine ev_iload_n (pc := 18) dX11_trace_18 rfl ?_
      refine ev_aald (pc := 19) (t := 6) dX11_trace_19 rfl (by (try dsimp only); (repeat (first | rw [up_s] | rw [up_n (by omega)])) <;> first | rfl | assumption) (nI_toInt (by omega)) rfl ?_
      refine gf_X11_292_r1 (pc := 20) rfl dX11_trace_20 (by (try dsimp only); (repeat (first | rw [up_s] | rw [up_n (by omega)])) <;> first | rfl | assumption) ?_
      refine ev_ladd (pc := 23) dX11_trace_23 ?_
      refine ev_lstore_n (pc := 24) (L' := [_, _, _, _]) dX11_trace_24 (Nat.le_of_ble_eq_true rfl) rfl ?_
      refine ev_iinc (pc := 25) (L' := [_, _, _, _]) dX11_trace_25 rfl (nI_1 _) rfl ?_
      refine ev_goto (pc := 28) 4 dX11_trace_28 (by decide) ?_
      exact q2
  have q0 : Ev X (mi_X11_trace 0 0 0) (QP (.long tr) (h, z)) 0 0 (h, z) 4 [.ref d, .long 0, .retAddr 0, .int (nI 0)] [] := by
    refine ev_iload_n (pc := 4) dX11_trace_4 rfl ?_
    refine ev_aload_n (pc := 5) dX11_trace_5 rfl ?_
    refine gf_X11_69 (pc := 6) rfl dX11_trace_6 (by (try dsimp only); (repeat (first | rw [up_s] | rw [up_n (by omega)])) <;> first | rfl | assumption) ?_
    refine ev_alen (pc := 9) (t := 6) dX11_trace_9 (Nat.le_of_ble_eq_true rfl) (by (try dsimp only); (repeat (first | rw [up_s] | rw [up_n (by omega)])) <;> first | rfl | assumption) ?_
    refine ev_icmp_ge (pc := 10) 31 dX11_trace_10 (by decide) (fun c_10 => ?_) (fun c_10 => ?_)
    · exfalso; rw [show am_len (.inr (6, .inr (.inr [some (d + 76), some (d + 77), some (d + 78), some (d + 79), some (d + 80), some (d + 81)]))) = 6 from rfl] at c_10; (try simp (disch := omega) only [i32_lti, i32_lei, i32_eqi, nI_toInt, i32z] at c_10); omega
    · (try simp (disch := omega) only [i32_lti, i32_lei, i32_eqi, nI_toInt, i32z] at c_10)
      refine ev_lload_n (pc := 13) dX11_trace_13 rfl ?_
      refine ev_aload_n (pc := 14) dX11_trace_14 rfl ?_
      refine gf_X11_69 (pc := 15) rfl dX11_trace_15 (by (try dsimp only); (repeat (first | rw [up_s] | rw [up_n (by omega)])) <;> first | rfl | assumption) ?_
      refine ev_iload_n (pc := 18) dX11_trace_18 rfl ?_
      refine ev_aald (pc := 19) (t := 6) dX11_trace_19 rfl (by (try dsimp only); (repeat (first | rw [up_s] | rw [up_n (by omega)])) <;> first | rfl | assumption) (nI_toInt (by omega)) rfl ?_
      refine gf_X11_292_r7 (pc := 20) rfl dX11_trace_20 (by (try dsimp only); (repeat (first | rw [up_s] | rw [up_n (by omega)])) <;> first | rfl | assumption) ?_
      refine ev_ladd (pc := 23) dX11_trace_23 ?_
      refine ev_lstore_n (pc := 24) (L' := [_, _, _, _]) dX11_trace_24 (Nat.le_of_ble_eq_true rfl) rfl ?_
      refine ev_iinc (pc := 25) (L' := [_, _, _, _]) dX11_trace_25 rfl (nI_1 _) rfl ?_
      refine ev_goto (pc := 28) 4 dX11_trace_28 (by decide) ?_
      exact q1
  refine ev_lconst (pc := 0) (v := 0) dX11_trace_0 kl_0 ?_
  refine ev_lstore_n (pc := 1) (L' := [_, _, _, _]) dX11_trace_1 (Nat.le_of_ble_eq_true rfl) rfl ?_
  refine ev_iconst (pc := 2) (v := nI 0) dX11_trace_2 kc_0 ?_
  refine ev_istore_n (pc := 3) (L' := [_, _, _, _]) dX11_trace_3 (Nat.le_of_ble_eq_true rfl) rfl ?_
  exact q0
theorem c_D_odds_bad {x y w : Int32} (hx : ¬ ((0 ≤ x.toInt ∧ x.toInt ≤ 10) ∧ (0 ≤ y.toInt ∧ y.toInt ≤ 9) ∧ (w.toInt = 0 ∨ w.toInt = 1))) : Ct X 1 mt_X11_odds [.ref d, .int x, .int y, .int w] (h, z) 0 0 (QP (.long (-1)) (h, z)) := by
  refine mk_X11_odds (Nat.le_of_ble_eq_true rfl) (L := [.ref d, .int x, .int y, .int w, .retAddr 0, .retAddr 0, .retAddr 0, .retAddr 0, .retAddr 0]) rfl ?_
  refine ev_iload_n (pc := 0) dX11_odds_0 rfl ?_
  refine ev_if_lt (pc := 1) 27 dX11_odds_1 (by decide) (fun c_1 => ?_) (fun c_1 => ?_)
  · (try simp (disch := omega) only [i32_lti, i32_lei, i32_eqi, nI_toInt, i32z] at c_1)
    refine ev_ldc2_w (pc := 27) dX11_odds_27 tw_760 ?_
    refine ev_lret (pc := 30) dX11_odds_30 rfl (Nat.le_of_ble_eq_true rfl) (Nat.le_of_ble_eq_true rfl) ?_
    exact ⟨rfl, rfl⟩
  · (try simp (disch := omega) only [i32_lti, i32_lei, i32_eqi, nI_toInt, i32z] at c_1)
    refine ev_iload_n (pc := 4) dX11_odds_4 rfl ?_
    refine ev_bipush (pc := 5) (v := nI 10) dX11_odds_5 kb_10 ?_
    refine ev_icmp_gt (pc := 7) 27 dX11_odds_7 (by decide) (fun c_7 => ?_) (fun c_7 => ?_)
    · (try simp (disch := omega) only [i32_lti, i32_lei, i32_eqi, nI_toInt, i32z] at c_7)
      refine ev_ldc2_w (pc := 27) dX11_odds_27 tw_760 ?_
      refine ev_lret (pc := 30) dX11_odds_30 rfl (Nat.le_of_ble_eq_true rfl) (Nat.le_of_ble_eq_true rfl) ?_
      exact ⟨rfl, rfl⟩
    · (try simp (disch := omega) only [i32_lti, i32_lei, i32_eqi, nI_toInt, i32z] at c_7)
      refine ev_iload_n (pc := 10) dX11_odds_10 rfl ?_
      refine ev_if_lt (pc := 11) 27 dX11_odds_11 (by decide) (fun c_11 => ?_) (fun c_11 => ?_)
      · (try simp (disch := omega) only [i32_lti, i32_lei, i32_eqi, nI_toInt, i32z] at c_11)
        refine ev_ldc2_w (pc := 27) dX11_odds_27 tw_760 ?_
        refine ev_lret (pc := 30) dX11_odds_30 rfl (Nat.le_of_ble_eq_true rfl) (Nat.le_of_ble_eq_true rfl) ?_
        exact ⟨rfl, rfl⟩
      · (try simp (disch := omega) only [i32_lti, i32_lei, i32_eqi, nI_toInt, i32z] at c_11)
        refine ev_iload_n (pc := 14) dX11_odds_14 rfl ?_
        refine ev_bipush (pc := 15) (v := nI 9) dX11_odds_15 kb_9 ?_
        refine ev_icmp_gt (pc := 17) 27 dX11_odds_17 (by decide) (fun c_17 => ?_) (fun c_17 => ?_)
        · (try simp (disch := omega) only [i32_lti, i32_lei, i32_eqi, nI_toInt, i32z] at c_17)
          refine ev_ldc2_w (pc := 27) dX11_odds_27 tw_760 ?_
          refine ev_lret (pc := 30) dX11_odds_30 rfl (Nat.le_of_ble_eq_true rfl) (Nat.le_of_ble_eq_true rfl) ?_
          exact ⟨rfl, rfl⟩
        · (try simp (disch := omega) only [i32_lti, i32_lei, i32_eqi, nI_toInt, i32z] at c_17)
          refine ev_iload_n (pc := 20) dX11_odds_20 rfl ?_
          refine iv_X11_204 (pc := 21) rfl dX11_odds_21 (Nat.le_of_ble_eq_true rfl) (Nat.le_of_ble_eq_true rfl) (Nat.le_of_ble_eq_true rfl) (Nat.le_of_ble_eq_true rfl) (c_isPairPart w) (kp ?_)
          rw [decide_eq_false (by omega)]
          refine ev_if_ne (pc := 24) 31 dX11_odds_24 (by decide) (fun c_24 => ?_) (fun c_24 => ?_)
          · exact absurd rfl c_24
          · (try simp (disch := omega) only [i32_lti, i32_lei, i32_eqi, nI_toInt, i32z] at c_24)
            refine ev_ldc2_w (pc := 27) dX11_odds_27 tw_760 ?_
            refine ev_lret (pc := 30) dX11_odds_30 rfl (Nat.le_of_ble_eq_true rfl) (Nat.le_of_ble_eq_true rfl) ?_
            exact ⟨rfl, rfl⟩
theorem cdN_le : ∀ x, x ≤ 10 → 1 ≤ cdN 32 10 (10 - x) ∧ cdN 32 10 (10 - x) ≤ 10 := by decide +kernel
theorem c_D_odds {x y : Nat} {w : Int32} (hx : x ≤ 10) (hy : y ≤ 9) (hw : w.toInt = 0 ∨ w.toInt = 1) : Ct X 1 mt_X11_odds [.ref d, .int (nI x), .int (nI y), .int w] (h, z) 0 0 (QP (.long (lN (odN x y (decide (w.toInt = 0))))) (h, z)) := by
  refine mk_X11_odds (Nat.le_of_ble_eq_true rfl) (L := [.ref d, .int (nI x), .int (nI y), .int w, .retAddr 0, .retAddr 0, .retAddr 0, .retAddr 0, .retAddr 0]) rfl ?_
  have hc := cdN_le x hx
  have loop : ∀ (b : Nat) (v4 : Value), b ≤ 10 → b = (if decide (w.toInt = 0) = true then 10 - x else 10) / max (cdN 32 10 (10 - x)) 1 → ∀ (c j : Nat), j + c = y → Ev X (mi_X11_odds 1 0 0) (QP (.long (lN (odN x y (decide (w.toInt = 0))))) (h, z)) 0 0 (h, z) 70 [.ref d, .int (nI x), .int (nI y), .int w, v4, .int (nI b), .long (lN (b ^ j)), .retAddr 0, .int (nI j)] [] := by
    intro b v4 hb eb c
    induction c with
    | zero =>
      intro j hj
      have ej : j = y := by omega
      subst ej
      refine ev_iload (pc := 70) dX11_odds_70 rfl ?_
      refine ev_iload_n (pc := 72) dX11_odds_72 rfl ?_
      refine ev_icmp_ge (pc := 73) 90 dX11_odds_73 (by decide) (fun c_73 => ?_) (fun c_73 => ?_)
      · (try simp (disch := omega) only [i32_lti, i32_lei, i32_eqi, nI_toInt, i32z] at c_73)
        refine ev_lload (pc := 90) dX11_odds_90 rfl ?_
        refine ev_lret (pc := 92) dX11_odds_92 rfl (Nat.le_of_ble_eq_true rfl) (Nat.le_of_ble_eq_true rfl) ?_
        exact ⟨by unfold odN; rw [eb], rfl⟩
      · exfalso; (try simp (disch := omega) only [i32_lti, i32_lei, i32_eqi, nI_toInt, i32z] at c_73); omega
    | succ c ih =>
      intro j hj
      refine ev_iload (pc := 70) dX11_odds_70 rfl ?_
      refine ev_iload_n (pc := 72) dX11_odds_72 rfl ?_
      refine ev_icmp_ge (pc := 73) 90 dX11_odds_73 (by decide) (fun c_73 => ?_) (fun c_73 => ?_)
      · exfalso; (try simp (disch := omega) only [i32_lti, i32_lei, i32_eqi, nI_toInt, i32z] at c_73); omega
      · (try simp (disch := omega) only [i32_lti, i32_lei, i32_eqi, nI_toInt, i32z] at c_73)
        refine ev_lload (pc := 76) dX11_odds_76 rfl ?_
        refine ev_iload (pc := 78) dX11_odds_78 rfl ?_
        refine ev_i2l (pc := 80) dX11_odds_80 ?_
        rw [nI_l (by omega)]
        refine ev_lmul (pc := 81) dX11_odds_81 ?_
        rw [lN_mul, ← Nat.pow_succ]
        refine ev_lstore (pc := 82) (L' := [_, _, _, _, _, _, _, _, _]) dX11_odds_82 (Nat.le_of_ble_eq_true rfl) rfl ?_
        refine ev_iinc (pc := 84) (L' := [_, _, _, _, _, _, _, _, _]) dX11_odds_84 rfl (nI_1 _) rfl ?_
        refine ev_goto (pc := 87) 70 dX11_odds_87 (by decide) ?_
        exact ih (j + 1) (by omega)
  have go : ∀ (a : Nat), a ≤ 10 → a = (if decide (w.toInt = 0) = true then 10 - x else 10) → Ev X (mi_X11_odds 1 0 0) (QP (.long (lN (odN x y (decide (w.toInt = 0))))) (h, z)) 0 0 (h, z) 55 [.ref d, .int (nI x), .int (nI y), .int w, .int (nI (cdN 32 10 (10 - x))), .retAddr 0, .retAddr 0, .retAddr 0, .retAddr 0] [.int (nI a)] := by
    intro a ha ea
    have hd : a / max (cdN 32 10 (10 - x)) 1 ≤ 10 := Nat.le_trans (Nat.div_le_self _ _) ha
    refine ev_iload (pc := 55) dX11_odds_55 rfl ?_
    refine ev_iconst (pc := 57) (v := nI 1) dX11_odds_57 kc_1 ?_
    refine ev_mmax (pc := 58) dX11_odds_58 tw_764 (Nat.le_of_ble_eq_true rfl) (Nat.le_of_ble_eq_true rfl) (Nat.le_of_ble_eq_true rfl) (Nat.le_of_ble_eq_true rfl) ?_
    rw [mx_nI (by omega) (by omega)]
    refine ev_idiv (pc := 61) dX11_odds_61 (fun q => by rw [nI_e0 (by omega)] at q; omega) ?_
    rw [pk_div (by omega) (by omega) (by omega)]
    refine ev_istore (pc := 62) (L' := [_, _, _, _, _, _, _, _, _]) dX11_odds_62 (Nat.le_of_ble_eq_true rfl) rfl ?_
    refine ev_lconst (pc := 64) (v := 1) dX11_odds_64 kl_1 ?_
    refine ev_lstore (pc := 65) (L' := [_, _, _, _, _, _, _, _, _]) dX11_odds_65 (Nat.le_of_ble_eq_true rfl) rfl ?_
    refine ev_iconst (pc := 67) (v := nI 0) dX11_odds_67 kc_0 ?_
    refine ev_istore (pc := 68) (L' := [_, _, _, _, _, _, _, _, _]) dX11_odds_68 (Nat.le_of_ble_eq_true rfl) rfl ?_
    exact loop _ _ hd (by rw [ea]) y 0 (by omega)
  refine ev_iload_n (pc := 0) dX11_odds_0 rfl ?_
  refine ev_if_lt (pc := 1) 27 dX11_odds_1 (by decide) (fun c_1 => ?_) (fun c_1 => ?_)
  · exfalso; (try simp (disch := omega) only [i32_lti, i32_lei, i32_eqi, nI_toInt, i32z] at c_1); omega
  · (try simp (disch := omega) only [i32_lti, i32_lei, i32_eqi, nI_toInt, i32z] at c_1)
    refine ev_iload_n (pc := 4) dX11_odds_4 rfl ?_
    refine ev_bipush (pc := 5) (v := nI 10) dX11_odds_5 kb_10 ?_
    refine ev_icmp_gt (pc := 7) 27 dX11_odds_7 (by decide) (fun c_7 => ?_) (fun c_7 => ?_)
    · exfalso; (try simp (disch := omega) only [i32_lti, i32_lei, i32_eqi, nI_toInt, i32z] at c_7); omega
    · (try simp (disch := omega) only [i32_lti, i32_lei, i32_eqi, nI_toInt, i32z] at c_7)
      refine ev_iload_n (pc := 10) dX11_odds_10 rfl ?_
      refine ev_if_lt (pc := 11) 27 dX11_odds_11 (by decide) (fun c_11 => ?_) (fun c_11 => ?_)
      · exfalso; (try simp (disch := omega) only [i32_lti, i32_lei, i32_eqi, nI_toInt, i32z] at c_11); omega
      · (try simp (disch := omega) only [i32_lti, i32_lei, i32_eqi, nI_toInt, i32z] at c_11)
        refine ev_iload_n (pc := 14) dX11_odds_14 rfl ?_
        refine ev_bipush (pc := 15) (v := nI 9) dX11_odds_15 kb_9 ?_
        refine ev_icmp_gt (pc := 17) 27 dX11_odds_17 (by decide) (fun c_17 => ?_) (fun c_17 => ?_)
        · exfalso; (try simp (disch := omega) only [i32_lti, i32_lei, i32_eqi, nI_toInt, i32z] at c_17); omega
        · (try simp (disch := omega) only [i32_lti, i32_lei, i32_eqi, nI_toInt, i32z] at c_17)
          refine ev_iload_n (pc := 20) dX11_odds_20 rfl ?_
          refine iv_X11_204 (pc := 21) rfl dX11_odds_21 (Nat.le_of_ble_eq_true rfl) (Nat.le_of_ble_eq_true rfl) (Nat.le_of_ble_eq_true rfl) (Nat.le_of_ble_eq_true rfl) (c_isPairPart w) (kp ?_)
          rw [decide_eq_true hw]
          refine ev_if_ne (pc := 24) 31 dX11_odds_24 (by decide) (fun c_24 => ?_) (fun c_24 => ?_)
          · (try simp (disch := omega) only [i32_lti, i32_lei, i32_eqi, nI_toInt, i32z] at c_24)
            refine ev_bipush (pc := 31) (v := nI 10) dX11_odds_31 kb_10 ?_
            refine ev_bipush (pc := 33) (v := nI 10) dX11_odds_33 kb_10 ?_
            refine ev_iload_n (pc := 35) dX11_odds_35 rfl ?_
            refine ev_isub (pc := 36) dX11_odds_36 ?_
            rw [nI_sub hx]
            refine iv_X11_261 (pc := 37) rfl dX11_odds_37 (Nat.le_of_ble_eq_true rfl) (Nat.le_of_ble_eq_true rfl) (Nat.le_of_ble_eq_true rfl) (Nat.le_of_ble_eq_true rfl) (c_commonDivisor (by omega) (by omega)) (kp ?_)
            refine ev_istore (pc := 40) (L' := [_, _, _, _, _, _, _, _, _]) dX11_odds_40 (Nat.le_of_ble_eq_true rfl) rfl ?_
            refine ev_iload_n (pc := 42) dX11_odds_42 rfl ?_
            refine ev_if_ne (pc := 43) 53 dX11_odds_43 (by decide) (fun c_43 => ?_) (fun c_43 => ?_)
            · (try simp (disch := omega) only [i32_lti, i32_lei, i32_eqi, nI_toInt, i32z] at c_43)
              refine ev_bipush (pc := 53) (v := nI 10) dX11_odds_53 kb_10 ?_
              first | exact go _ (by omega) (by rw [if_pos (decide_eq_true c_43)]) | exact go _ (by omega) (by rw [if_neg (by rw [decide_eq_false c_43]; decide)])
            · (try simp (disch := omega) only [i32_lti, i32_lei, i32_eqi, nI_toInt, i32z] at c_43)
              refine ev_bipush (pc := 46) (v := nI 10) dX11_odds_46 kb_10 ?_
              refine ev_iload_n (pc := 48) dX11_odds_48 rfl ?_
              refine ev_isub (pc := 49) dX11_odds_49 ?_
              rw [nI_sub hx]
              refine ev_goto (pc := 50) 55 dX11_odds_50 (by decide) ?_
              first | exact go _ (by omega) (by rw [if_pos (decide_eq_true c_43)]) | exact go _ (by omega) (by rw [if_neg (by rw [decide_eq_false c_43]; decide)])
          · exact absurd c_24 (by decide)
end KIN
