/-! ===== DawnTales: on, by, images, kinds, odds ===== -/
theorem mkRows {h h' : Hp} {r size full : Nat} {lb osz' nx' : Int32} {B : Bk} {kn : Bool} (e : ∀ q : Nat, ((r + 1 ≤ q ∧ q < r + 5) ∨ (r + 11 ≤ q ∧ q < r + 15)) → h' q = h q) (p1' : pRO h' r size full kn lb osz' nx') (a' : pAux h' r) (rs : ∃ rs : List Nat, h (r + 1) = some (.inr (0, .inl (rs.map nI))) ∧ rs.length = 1957) (t1 : pTab h r [] B 0) (l1 : ∃ L : Bk, pBook h (r + 11) L) (k1 : kn = true → tabOk h r B size full) (k2 : lb = -9 ∨ lb = nI (bestN (bLong B 8))) : pRows h' r B kn := by
  obtain ⟨rs, r1, r2⟩ := rs
  obtain ⟨L, l1⟩ := l1
  refine ⟨size, full, lb, osz', nx', p1', ⟨rs, (e _ (by omega)).trans r1, r2⟩, t1.fr (fun q a b => e q (by omega)), a', ⟨L, l1.fr (fun q a b => e q (by omega))⟩, ?_, k2⟩
  intro hk
  obtain ⟨e1, e2, q2, t2⟩ := k1 hk
  exact ⟨e1, e2, pRow.fr q2 (e _ (by omega)), t2.fr (fun q a b => e q (by omega))⟩
def aBy (B : Bk) (f : Int32) : Int32 := if f.toInt < 0 then -1 else match sprD (bT B) 6 f.toInt.toNat [] with
  | none => -1
  | some w => nI (outW B w).length
def sdI (I : Im) (N : Tl) (P : List Tl) : Tl × List Tl := I.getD (N, P)
section ON2A
variable {X : Cx} {h : Hp} {z r size full : Nat} {kn : Bool} {lb osz nx : Int32}
theorem c_spread_n2 {f : Int32} {n : Nat} (hf : f.toInt < 0) (p : pRO h r size full kn lb osz nx) : Ct X 1 mt_X5_spread [.ref r, .int f, .int (nI n)] (h, z) 0 0 (Qi (fun v S' => v = 0 ∧ S'.2 = z ∧ (∀ q : Nat, q ≠ r → S'.1 q = h q) ∧ pRO S'.1 r size full kn lb (nI 0) nx)) := by
  unfold pRO at p
  refine mk_X5_spread (Nat.le_of_ble_eq_true rfl) (L := [.ref r, .int f, .int (nI n), .retAddr 0, .retAddr 0, .retAddr 0, .retAddr 0]) rfl ?_
  refine ev_aload_n (pc := 0) dX5_spread_0 rfl ?_
  refine ev_iconst (pc := 1) (v := nI 0) dX5_spread_1 kc_0 ?_
  refine pf_X5_47 (pc := 2) rfl dX5_spread_2 (by (try dsimp only); (repeat (first | rw [up_s] | rw [up_n (by omega)])) <;> first | rfl | assumption) ?_
  refine ev_iload_n (pc := 5) dX5_spread_5 rfl ?_
  refine ev_if_ge (pc := 6) 11 dX5_spread_6 (by decide) (fun c_6 => ?_) (fun c_6 => ?_)
  · exfalso; (try simp (disch := omega) only [i32_lti, i32_lei, i32_eqi, nI_toInt, i32z] at c_6); omega
  · (try simp (disch := omega) only [i32_lti, i32_lei, i32_eqi, nI_toInt, i32z] at c_6)
    refine ev_iconst (pc := 9) (v := nI 0) dX5_spread_9 kc_0 ?_
    refine ev_iret (pc := 10) dX5_spread_10 rfl rfl (Nat.le_of_ble_eq_true rfl) (Nat.le_of_ble_eq_true rfl) ?_
    exact ⟨_, rfl, rfl, rfl, (by intro q hq1; (try dsimp only); (repeat (first | rw [up_n (by omega)]))), (by unfold pRO; (try dsimp only); (repeat (first | rw [up_s] | rw [up_n (by omega)])) <;> first | rfl | assumption)⟩
end ON2A
section ON2
variable {X : Cx} {h : Hp} {z d n m : Nat} {cs : List Nat} {B : Bk} {N : Tl} {P : List Tl} {I J : Im} {wn op : List Nat} {tr : Int64}
theorem c_D_on (p : pC h d cs B N P I J wn op n tr) (b9 : wB m B) (hm : m < 99) (w : wT N) (hN : tN N ≤ 200) : Ct X 4 mt_X11_on [.ref d] (h, z) 0 0 (Qi (fun r S' => r = nI (onW B 30 N) ∧ S'.2 = z ∧ hfr h S'.1 d 174 ∧ pC S'.1 d cs B N P I J wn op n tr)) := by
  obtain ⟨po, -, pb, -, ps, -, ⟨kn, pr⟩, -⟩ := id p
  unfold pDO at po
  have hs := ps.obj
  obtain ⟨size, full, lb, osz, nx, p1, rs, t1, a1, l1, k1, k2⟩ := id pr
  have p1' := p1
  unfold pRO at p1'
  refine mk_X11_on (Nat.le_of_ble_eq_true rfl) (L := [.ref d]) rfl ?_
  refine ev_aload_n (pc := 0) dX11_on_0 rfl ?_
  refine gf_X11_40 (pc := 1) rfl dX11_on_1 (by (try dsimp only); (repeat (first | rw [up_s] | rw [up_n (by omega)])) <;> first | rfl | assumption) ?_
  refine ev_aload_n (pc := 4) dX11_on_4 rfl ?_
  refine gf_X11_19 (pc := 5) rfl dX11_on_5 (by (try dsimp only); (repeat (first | rw [up_s] | rw [up_n (by omega)])) <;> first | rfl | assumption) ?_
  refine ev_aload_n (pc := 8) dX11_on_8 rfl ?_
  refine gf_X11_29 (pc := 9) rfl dX11_on_9 (by (try dsimp only); (repeat (first | rw [up_s] | rw [up_n (by omega)])) <;> first | rfl | assumption) ?_
  refine gf_X11_102 (pc := 12) rfl dX11_on_12 (by (try dsimp only); (repeat (first | rw [up_s] | rw [up_n (by omega)])) <;> first | rfl | assumption) ?_
  refine iv_X11_190 (pc := 15) rfl dX11_on_15 (by (try dsimp only); (repeat (first | rw [up_s] | rw [up_n (by omega)])) <;> first | rfl | assumption) (Nat.le_of_ble_eq_true rfl) (Nat.le_of_ble_eq_true rfl) (Nat.le_of_ble_eq_true rfl) (Nat.le_of_ble_eq_true rfl) (c_walkOn b9 (by omega) pb (by omega) p1 a1.1 ps.now w hN (by omega)) (ki (fun r S' hS => ?_))
  obtain ⟨h1, z'⟩ := S'
  obtain ⟨rfl, rfl, f1, r1⟩ := hS
  refine ev_iret (pc := 18) dX11_on_18 rfl rfl (Nat.le_of_ble_eq_true rfl) (Nat.le_of_ble_eq_true rfl) ?_
  refine ⟨_, rfl, rfl, rfl, (fun q a => f1 q (by omega)), p.rw (fun q a => f1 q (by omega)) (mkRows (fun q a => f1 q (by omega)) ((f1 _ (by omega)).trans p1) ?_ rs t1 l1 k1 k2)⟩
  obtain ⟨-, ⟨xs, x1, x2⟩, ⟨os, o1, o2⟩⟩ := a1
  exact ⟨r1, ⟨xs, (f1 _ (by omega)).trans x1, x2⟩, ⟨os, (f1 _ (by omega)).trans o1, o2⟩⟩
theorem c_D_by (p : pC h d cs B N P I J wn op n tr) (b9 : wB m B) (hm : m < 99) (f : Int32) : Ct X 4 mt_X11_by [.ref d, .int f] (h, z) 0 0 (Qi (fun r S' => r = aBy B f ∧ S'.2 = z ∧ hfr h S'.1 d 174 ∧ pC S'.1 d cs B N P I J wn op n tr)) := by
  obtain ⟨po, -, pb, -, ps, -, ⟨kn, pr⟩, -⟩ := id p
  unfold pDO at po
  have hb := pb.1
  have h6 := b9.1
  obtain ⟨size, full, lb, osz, nx, p1, rs, t1, a1, l1, k1, k2⟩ := id pr
  have p1' := p1
  unfold pRO at p1'
  obtain ⟨a2, ⟨xs, x1, x2⟩, oo⟩ := id a1
  refine mk_X11_by (Nat.le_of_ble_eq_true rfl) (L := [.ref d, .int f]) rfl ?_
  by_cases hf : f.toInt < 0
  · have ea : aBy B f = -1 := if_pos hf
    rw [ea]
    refine ev_aload_n (pc := 0) dX11_by_0 rfl ?_
    refine gf_X11_40 (pc := 1) rfl dX11_by_1 (by (try dsimp only); (repeat (first | rw [up_s] | rw [up_n (by omega)])) <;> first | rfl | assumption) ?_
    refine ev_iload_n (pc := 4) dX11_by_4 rfl ?_
    refine ev_aload_n (pc := 5) dX11_by_5 rfl ?_
    refine gf_X11_19 (pc := 6) rfl dX11_by_6 (by (try dsimp only); (repeat (first | rw [up_s] | rw [up_n (by omega)])) <;> first | rfl | assumption) ?_
    refine gf_X11_194 (pc := 9) rfl dX11_by_9 (by (try dsimp only); (repeat (first | rw [up_s] | rw [up_n (by omega)])) <;> first | rfl | assumption) ?_
    refine iv_X11_197 (pc := 12) rfl dX11_by_12 (by (try dsimp only); (repeat (first | rw [up_s] | rw [up_n (by omega)])) <;> first | rfl | assumption) (Nat.le_of_ble_eq_true rfl) (Nat.le_of_ble_eq_true rfl) (Nat.le_of_ble_eq_true rfl) (Nat.le_of_ble_eq_true rfl) (c_spread_n2 hf p1) (ki (fun r S' hS => ?_))
    obtain ⟨h1, z'⟩ := S'
    obtain ⟨rfl, rfl, f1, q1⟩ := hS
    refine ev_if_eq (pc := 15) 32 dX11_by_15 (by decide) (fun c_15 => ?_) (fun c_15 => ?_)
    · (try simp (disch := omega) only [i32_lti, i32_lei, i32_eqi, nI_toInt, i32z] at c_15)
      refine ev_iconst (pc := 32) (v := (-1)) dX11_by_32 kc_m1 ?_
      refine ev_iret (pc := 33) dX11_by_33 rfl rfl (Nat.le_of_ble_eq_true rfl) (Nat.le_of_ble_eq_true rfl) ?_
      exact ⟨_, rfl, rfl, rfl, (fun q a => f1 q (by omega)), p.rw (fun q a => f1 q (by omega)) (mkRows (fun q a => f1 q (by omega)) q1 ⟨a2.fr (fun q a b => f1 q (by omega)), ⟨xs, (f1 _ (by omega)).trans x1, x2⟩, (by obtain ⟨os, o1, o2, -⟩ := oo; exact ⟨os, (f1 _ (by omega)).trans o1, o2, fun k hk => (nomatch hk)⟩)⟩ rs t1 l1 k1 k2)⟩
    · exact absurd rfl c_15
  · have ef : f = nI f.toInt.toNat := i32_nat (by omega)
    have hf31 : f.toInt.toNat < 2 ^ 31 := by have := f.toInt_lt; omega
    have ea : aBy B f = match sprD (bT B) 6 f.toInt.toNat [] with | none => -1 | some w => nI (outW B w).length := if_neg hf
    rw [ea, ef]
    generalize f.toInt.toNat = fn at hf31 ef ea
    have en : (nI fn).toInt.toNat = fn := by rw [nI_toInt hf31]; omega
    rw [en]
    refine ev_aload_n (pc := 0) dX11_by_0 rfl ?_
    refine gf_X11_40 (pc := 1) rfl dX11_by_1 (by (try dsimp only); (repeat (first | rw [up_s] | rw [up_n (by omega)])) <;> first | rfl | assumption) ?_
    refine ev_iload_n (pc := 4) dX11_by_4 rfl ?_
    refine ev_aload_n (pc := 5) dX11_by_5 rfl ?_
    refine gf_X11_19 (pc := 6) rfl dX11_by_6 (by (try dsimp only); (repeat (first | rw [up_s] | rw [up_n (by omega)])) <;> first | rfl | assumption) ?_
    refine gf_X11_194 (pc := 9) rfl dX11_by_9 (by (try dsimp only); (repeat (first | rw [up_s] | rw [up_n (by omega)])) <;> first | rfl | assumption) ?_
    refine iv_X11_197 (pc := 12) rfl dX11_by_12 (by (try dsimp only); (repeat (first | rw [up_s] | rw [up_n (by omega)])) <;> first | rfl | assumption) (Nat.le_of_ble_eq_true rfl) (Nat.le_of_ble_eq_true rfl) (Nat.le_of_ble_eq_true rfl) (Nat.le_of_ble_eq_true rfl) (c_spread hf31 h6 p1 oo) (ki (fun r S' hS => ?_))
    obtain ⟨h1, z'⟩ := S'
    obtain ⟨rfl, rfl, f1, k9, q1, qo, qw⟩ := hS
    have po1 := (f1 d (by omega) (by omega)).trans po
    have q1' := q1
    unfold pRO at q1'
    have rT := a2.fr (fun q a b => f1 q (by omega) (by omega))
    have x1' := (f1 (d + 58 + 9) (by omega) (by omega)).trans x1
    refine ev_if_eq (pc := 15) 32 dX11_by_15 (by decide) (fun c_15 => ?_) (fun c_15 => ?_)
    · simp only [b2i_e0, Bool.not_eq_false] at c_15
      have es : sprD (bT B) 6 fn [] = none := by simpa using c_15
      rw [es]
      have fr9 : hfr h h1 d 174 := fun q a => f1 q (by omega) (by omega)
      have fin9 : pC h1 d cs B N P I J wn op n tr := p.rw (fun q a => f1 q (by omega) (by omega)) (mkRows (fun q a => f1 q (by omega) (by omega)) q1 ⟨rT, ⟨xs, x1', x2⟩, qo⟩ rs t1 l1 k1 k2)
      refine ev_iconst (pc := 32) (v := (-1)) dX11_by_32 kc_m1 ?_
      refine ev_iret (pc := 33) dX11_by_33 rfl rfl (Nat.le_of_ble_eq_true rfl) (Nat.le_of_ble_eq_true rfl) ?_
      exact ⟨_, rfl, rfl, rfl, fr9, fin9⟩
    · simp only [b2i_e0, Bool.not_eq_false] at c_15
      obtain ⟨w, hw⟩ := Option.isSome_iff_exists.mp c_15
      obtain ⟨rfl, qw2⟩ := qw w hw
      obtain ⟨y1, y2, y3, -⟩ := sprD_ok 6 fn [] (fun t ht => (nomatch ht)) List.nodup_nil w hw
      rw [hw]
      refine ev_aload_n (pc := 18) dX11_by_18 rfl ?_
      refine gf_X11_40 (pc := 19) rfl dX11_by_19 (by (try dsimp only); (repeat (first | rw [up_s] | rw [up_n (by omega)])) <;> first | rfl | assumption) ?_
      refine ev_aload_n (pc := 22) dX11_by_22 rfl ?_
      refine gf_X11_19 (pc := 23) rfl dX11_by_23 (by (try dsimp only); (repeat (first | rw [up_s] | rw [up_n (by omega)])) <;> first | rfl | assumption) ?_
      refine iv_X11_201 (pc := 26) rfl dX11_by_26 (by (try dsimp only); (repeat (first | rw [up_s] | rw [up_n (by omega)])) <;> first | rfl | assumption) (Nat.le_of_ble_eq_true rfl) (Nat.le_of_ble_eq_true rfl) (Nat.le_of_ble_eq_true rfl) (Nat.le_of_ble_eq_true rfl) (c_walk b9 (by omega) (pb.fr (fun q a b => f1 q (by omega) (by omega))) (by omega) q1 qw2 y1 y3 rT ⟨xs, x1', x2⟩) (ki (fun r S' hS => ?_))
      obtain ⟨h2, z'⟩ := S'
      obtain ⟨rfl, rfl, f2, rT2, o2, q2⟩ := hS
      obtain ⟨os, u1, u2, -⟩ := qo
      have fr9 : hfr h h2 d 174 := fun q a => (f2 q (by omega) (by omega)).trans (f1 q (by omega) (by omega))
      have fin9 : pC h2 d cs B N P I J wn op n tr := p.rw (fun q a => (f2 q (by omega) (by omega)).trans (f1 q (by omega) (by omega))) (mkRows (fun q a => (f2 q (by omega) (by omega)).trans (f1 q (by omega) (by omega))) q2 ⟨rT2, ⟨_, o2, rfl⟩, ⟨os, (f2 _ (by omega) (by omega)).trans u1, u2, fun k hk => (nomatch hk)⟩⟩ rs t1 l1 k1 k2)
      refine ev_goto (pc := 29) 33 dX11_by_29 (by decide) ?_
      refine ev_iret (pc := 33) dX11_by_33 rfl rfl (Nat.le_of_ble_eq_true rfl) (Nat.le_of_ble_eq_true rfl) ?_
      exact ⟨_, rfl, rfl, rfl, fr9, fin9⟩
theorem kI_set : ∀ a b : Bool, nI ((if a then 1 else 0) + (if b then 2 else 0)) ||| (nI 1 <<< (nI 0 &&& 31)) = nI (1 + (if b then 2 else 0)) ∧ nI ((if a then 1 else 0) + (if b then 2 else 0)) ||| (nI 1 <<< (nI 1 &&& 31)) = nI ((if a then 1 else 0) + 2) := by decide
theorem kI_get : ∀ a b : Bool, (nI ((if a then 1 else 0) + (if b then 2 else 0)) >>> (nI 0 &&& 31)) &&& nI 1 = b2i a ∧ (nI ((if a then 1 else 0) + (if b then 2 else 0)) >>> (nI 1 &&& 31)) &&& nI 1 = b2i b := by decide
theorem pC.im {I' J' : Im} {h' : Hp} (p : pC h d cs B N P I J wn op n tr) (e : ∀ q : Nat, q ≠ d → q < d + 82 → h' q = h q) (o : pDO h' d (nI (kI I' J')) (nI n)) (x : pIm h' (d + 82) I') (y : pIm h' (d + 128) J') : pC h' d cs B N P I' J' wn op n tr := by
  obtain ⟨po, px, pb, ⟨B2, pd⟩, ps, pia, ⟨kn, pr⟩, ph, pka, pkd, pi, pj⟩ := p
  exact ⟨o, px.fr (fun q a b => e q (by omega) (by omega)), pb.fr (fun q a b => e q (by omega) (by omega)), ⟨B2, pd.fr (fun q a b => e q (by omega) (by omega))⟩, ps.fr (fun q a b => e q (by omega) (by omega)), (e _ (by omega) (by omega)).trans pia, ⟨kn, pr.fr (fun q a b => e q (by omega) (by omega))⟩, ph.fr (e _ (by omega) (by omega)) (e _ (by omega) (by omega)), (e _ (by omega) (by omega)).trans pka, pkd.fr (fun q a b => e q (by omega) (by omega)), x, y⟩
theorem c_D_keep_bad {x : Int32} (hx : ¬ (0 ≤ x.toInt ∧ x.toInt < 2)) : Ct X 3 mt_X11_keep [.ref d, .int x] (h, z) 0 0 (QP (.int (-1)) (h, z)) := by
  refine mk_X11_keep (Nat.le_of_ble_eq_true rfl) (L := [.ref d, .int x]) rfl ?_
  refine ev_iload_n (pc := 0) dX11_keep_0 rfl ?_
  refine iv_X11_274 (pc := 1) rfl dX11_keep_1 (Nat.le_of_ble_eq_true rfl) (Nat.le_of_ble_eq_true rfl) (Nat.le_of_ble_eq_true rfl) (Nat.le_of_ble_eq_true rfl) (c_isImage x) (kp ?_)
  rw [decide_eq_false hx]
  refine ev_if_ne (pc := 4) 9 dX11_keep_4 (by decide) (fun c_4 => ?_) (fun c_4 => ?_)
  · exact absurd rfl c_4
  · (try simp (disch := omega) only [i32_lti, i32_lei, i32_eqi, nI_toInt, i32z] at c_4)
    refine ev_iconst (pc := 7) (v := (-1)) dX11_keep_7 kc_m1 ?_
    refine ev_iret (pc := 8) dX11_keep_8 rfl rfl (Nat.le_of_ble_eq_true rfl) (Nat.le_of_ble_eq_true rfl) ?_
    exact ⟨rfl, rfl⟩
theorem c_D_keep0 (p : pC h d cs B N P I J wn op n tr) : Ct X 3 mt_X11_keep [.ref d, .int (nI 0)] (h, z) 0 0 (Qi (fun r S' => r = nI (tN N) ∧ S'.2 = z ∧ hfr h S'.1 d 174 ∧ pC S'.1 d cs B N P (some (N, P)) J wn op n tr)) := by
  obtain ⟨po, -, -, -, ps, pia, -, -, -, -, pi, pj⟩ := id p
  unfold pDO at po
  unfold pIa at pia
  have hs := ps.obj
  have ri := pi.raw
  obtain ⟨ix0, k0, -, ri1, -⟩ := id ri
  have hk := (kI_set I.isSome J.isSome).1
  refine mk_X11_keep (Nat.le_of_ble_eq_true rfl) (L := [.ref d, .int (nI 0)]) rfl ?_
  refine ev_iload_n (pc := 0) dX11_keep_0 rfl ?_
  refine iv_X11_274 (pc := 1) rfl dX11_keep_1 (Nat.le_of_ble_eq_true rfl) (Nat.le_of_ble_eq_true rfl) (Nat.le_of_ble_eq_true rfl) (Nat.le_of_ble_eq_true rfl) (c_isImage (nI 0)) (kp ?_)
  rw [decide_eq_true (by decide)]
  refine ev_if_ne (pc := 4) 9 dX11_keep_4 (by decide) (fun c_4 => ?_) (fun c_4 => ?_)
  · (try simp (disch := omega) only [i32_lti, i32_lei, i32_eqi, nI_toInt, i32z] at c_4)
    refine ev_aload_n (pc := 9) dX11_keep_9 rfl ?_
    refine gf_X11_33 (pc := 10) rfl dX11_keep_10 (by (try dsimp only); (repeat (first | rw [up_s] | rw [up_n (by omega)])) <;> first | rfl | assumption) ?_
    refine ev_iload_n (pc := 13) dX11_keep_13 rfl ?_
    refine ev_aald (pc := 14) (t := 5) dX11_keep_14 rfl (by (try dsimp only); (repeat (first | rw [up_s] | rw [up_n (by omega)])) <;> first | rfl | assumption) (nI_toInt (by omega)) rfl ?_
    refine ev_aload_n (pc := 15) dX11_keep_15 rfl ?_
    refine gf_X11_29 (pc := 16) rfl dX11_keep_16 (by (try dsimp only); (repeat (first | rw [up_s] | rw [up_n (by omega)])) <;> first | rfl | assumption) ?_
    refine iv_X11_277 (pc := 19) rfl dX11_keep_19 (by (try dsimp only); (repeat (first | rw [up_s] | rw [up_n (by omega)])) <;> first | rfl | assumption) (Nat.le_of_ble_eq_true rfl) (Nat.le_of_ble_eq_true rfl) (Nat.le_of_ble_eq_true rfl) (Nat.le_of_ble_eq_true rfl) (c_Stand_copy ri ps (by omega)) (kv (fun S' hS => ?_))
    obtain ⟨h1, z'⟩ := S'
    obtain ⟨rfl, f1, s1⟩ := hS
    have po1 := (f1 d (by omega)).trans po
    have hs1 := (f1 _ (by omega)).trans hs
    have hn1 := (f1 _ (by omega)).trans ps.now.1
    refine ev_aload_n (pc := 22) dX11_keep_22 rfl ?_
    refine ev_dup (pc := 23) dX11_keep_23 rfl ?_
    refine gf_X11_280 (pc := 24) rfl dX11_keep_24 (by (try dsimp only); (repeat (first | rw [up_s] | rw [up_n (by omega)])) <;> first | rfl | assumption) ?_
    refine ev_iconst (pc := 27) (v := nI 1) dX11_keep_27 kc_1 ?_
    refine ev_iload_n (pc := 28) dX11_keep_28 rfl ?_
    refine ev_ishl (pc := 29) dX11_keep_29 ?_
    refine ev_ior (pc := 30) dX11_keep_30 ?_
    rw [show nI (kI I J) ||| (nI 1 <<< (nI 0 &&& 31)) = nI (kI (some (N, P)) J) from hk]
    refine pf_X11_280 (pc := 31) rfl dX11_keep_31 (by (try dsimp only); (repeat (first | rw [up_s] | rw [up_n (by omega)])) <;> first | rfl | assumption) ?_
    refine ev_aload_n (pc := 34) dX11_keep_34 rfl ?_
    refine gf_X11_29 (pc := 35) rfl dX11_keep_35 (by (try dsimp only); (repeat (first | rw [up_s] | rw [up_n (by omega)])) <;> first | rfl | assumption) ?_
    refine gf_X11_102 (pc := 38) rfl dX11_keep_38 (by (try dsimp only); (repeat (first | rw [up_s] | rw [up_n (by omega)])) <;> first | rfl | assumption) ?_
    refine gf_X11_174 (pc := 41) rfl dX11_keep_41 (by (try dsimp only); (repeat (first | rw [up_s] | rw [up_n (by omega)])) <;> first | rfl | assumption) ?_
    refine ev_iret (pc := 44) dX11_keep_44 rfl rfl (Nat.le_of_ble_eq_true rfl) (Nat.le_of_ble_eq_true rfl) ?_
    exact ⟨_, rfl, rfl, rfl, (by intro q hq; (try dsimp only); (repeat (first | rw [up_n (by omega)])); exact f1 q (by omega)), p.im (by intro q h1 h2; (try dsimp only); (repeat (first | rw [up_n (by omega)])); exact f1 q (by omega)) (by unfold pDO; exact (by (try dsimp only); (repeat (first | rw [up_s] | rw [up_n (by omega)])) <;> first | rfl | assumption)) (pIm.fr (I := some (N, P)) s1 (fun q a b => by (try dsimp only); rw [up_n (by omega)])) (pj.fr (fun q a b => by (try dsimp only); rw [up_n (by omega)]; exact f1 q (by omega)))⟩
  · exact absurd c_4 (by decide)
theorem c_D_keep1 (p : pC h d cs B N P I J wn op n tr) : Ct X 3 mt_X11_keep [.ref d, .int (nI 1)] (h, z) 0 0 (Qi (fun r S' => r = nI (tN N) ∧ S'.2 = z ∧ hfr h S'.1 d 174 ∧ pC S'.1 d cs B N P I (some (N, P)) wn op n tr)) := by
  obtain ⟨po, -, -, -, ps, pia, -, -, -, -, pi, pj⟩ := id p
  unfold pDO at po
  unfold pIa at pia
  have hs := ps.obj
  have rj := pj.raw
  obtain ⟨ix0, k0, -, rj1, -⟩ := id rj
  have hk := (kI_set I.isSome J.isSome).2
  refine mk_X11_keep (Nat.le_of_ble_eq_true rfl) (L := [.ref d, .int (nI 1)]) rfl ?_
  refine ev_iload_n (pc := 0) dX11_keep_0 rfl ?_
  refine iv_X11_274 (pc := 1) rfl dX11_keep_1 (Nat.le_of_ble_eq_true rfl) (Nat.le_of_ble_eq_true rfl) (Nat.le_of_ble_eq_true rfl) (Nat.le_of_ble_eq_true rfl) (c_isImage (nI 1)) (kp ?_)
  rw [decide_eq_true (by decide)]
  refine ev_if_ne (pc := 4) 9 dX11_keep_4 (by decide) (fun c_4 => ?_) (fun c_4 => ?_)
  · (try simp (disch := omega) only [i32_lti, i32_lei, i32_eqi, nI_toInt, i32z] at c_4)
    refine ev_aload_n (pc := 9) dX11_keep_9 rfl ?_
    refine gf_X11_33 (pc := 10) rfl dX11_keep_10 (by (try dsimp only); (repeat (first | rw [up_s] | rw [up_n (by omega)])) <;> first | rfl | assumption) ?_
    refine ev_iload_n (pc := 13) dX11_keep_13 rfl ?_
    refine ev_aald (pc := 14) (t := 5) dX11_keep_14 rfl (by (try dsimp only); (repeat (first | rw [up_s] | rw [up_n (by omega)])) <;> first | rfl | assumption) (nI_toInt (by omega)) rfl ?_
    refine ev_aload_n (pc := 15) dX11_keep_15 rfl ?_
    refine gf_X11_29 (pc := 16) rfl dX11_keep_16 (by (try dsimp only); (repeat (first | rw [up_s] | rw [up_n (by omega)])) <;> first | rfl | assumption) ?_
    refine iv_X11_277 (pc := 19) rfl dX11_keep_19 (by (try dsimp only); (repeat (first | rw [up_s] | rw [up_n (by omega)])) <;> first | rfl | assumption) (Nat.le_of_ble_eq_true rfl) (Nat.le_of_ble_eq_true rfl) (Nat.le_of_ble_eq_true rfl) (Nat.le_of_ble_eq_true rfl) (c_Stand_copy rj ps (by omega)) (kv (fun S' hS => ?_))
    obtain ⟨h1, z'⟩ := S'
    obtain ⟨rfl, f1, s1⟩ := hS
    have po1 := (f1 d (by omega)).trans po
    have hs1 := (f1 _ (by omega)).trans hs
    have hn1 := (f1 _ (by omega)).trans ps.now.1
    refine ev_aload_n (pc := 22) dX11_keep_22 rfl ?_
    refine ev_dup (pc := 23) dX11_keep_23 rfl ?_
    refine gf_X11_280 (pc := 24) rfl dX11_keep_24 (by (try dsimp only); (repeat (first | rw [up_s] | rw [up_n (by omega)])) <;> first | rfl | assumption) ?_
    refine ev_iconst (pc := 27) (v := nI 1) dX11_keep_27 kc_1 ?_
    refine ev_iload_n (pc := 28) dX11_keep_28 rfl ?_
    refine ev_ishl (pc := 29) dX11_keep_29 ?_
    refine ev_ior (pc := 30) dX11_keep_30 ?_
    rw [show nI (kI I J) ||| (nI 1 <<< (nI 1 &&& 31)) = nI (kI I (some (N, P))) from hk]
    refine pf_X11_280 (pc := 31) rfl dX11_keep_31 (by (try dsimp only); (repeat (first | rw [up_s] | rw [up_n (by omega)])) <;> first | rfl | assumption) ?_
    refine ev_aload_n (pc := 34) dX11_keep_34 rfl ?_
    refine gf_X11_29 (pc := 35) rfl dX11_keep_35 (by (try dsimp only); (repeat (first | rw [up_s] | rw [up_n (by omega)])) <;> first | rfl | assumption) ?_
    refine gf_X11_102 (pc := 38) rfl dX11_keep_38 (by (try dsimp only); (repeat (first | rw [up_s] | rw [up_n (by omega)])) <;> first | rfl | assumption) ?_
    refine gf_X11_174 (pc := 41) rfl dX11_keep_41 (by (try dsimp only); (repeat (first | rw [up_s] | rw [up_n (by omega)])) <;> first | rfl | assumption) ?_
    refine ev_iret (pc := 44) dX11_keep_44 rfl rfl (Nat.le_of_ble_eq_true rfl) (Nat.le_of_ble_eq_true rfl) ?_
    exact ⟨_, rfl, rfl, rfl, (by intro q hq; (try dsimp only); (repeat (first | rw [up_n (by omega)])); exact f1 q (by omega)), p.im (by intro q h1 h2; (try dsimp only); (repeat (first | rw [up_n (by omega)])); exact f1 q (by omega)) (by unfold pDO; exact (by (try dsimp only); (repeat (first | rw [up_s] | rw [up_n (by omega)])) <;> first | rfl | assumption)) (pi.fr (fun q a b => by (try dsimp only); rw [up_n (by omega)]; exact f1 q (by omega))) (pIm.fr (I := some (N, P)) s1 (fun q a b => by (try dsimp only); rw [up_n (by omega)]))⟩
  · exact absurd c_4 (by decide)
theorem c_D_back_bad {x : Int32} (hx : ¬ (0 ≤ x.toInt ∧ x.toInt < 2)) : Ct X 3 mt_X11_back [.ref d, .int x] (h, z) 0 0 (QP (.int (-1)) (h, z)) := by
  refine mk_X11_back (Nat.le_of_ble_eq_true rfl) (L := [.ref d, .int x]) rfl ?_
  refine ev_iload_n (pc := 0) dX11_back_0 rfl ?_
  refine iv_X11_274 (pc := 1) rfl dX11_back_1 (Nat.le_of_ble_eq_true rfl) (Nat.le_of_ble_eq_true rfl) (Nat.le_of_ble_eq_true rfl) (Nat.le_of_ble_eq_true rfl) (c_isImage x) (kp ?_)
  rw [decide_eq_false hx]
  refine ev_if_ne (pc := 4) 9 dX11_back_4 (by decide) (fun c_4 => ?_) (fun c_4 => ?_)
  · exact absurd rfl c_4
  · (try simp (disch := omega) only [i32_lti, i32_lei, i32_eqi, nI_toInt, i32z] at c_4)
    refine ev_iconst (pc := 7) (v := (-1)) dX11_back_7 kc_m1 ?_
    refine ev_iret (pc := 8) dX11_back_8 rfl rfl (Nat.le_of_ble_eq_true rfl) (Nat.le_of_ble_eq_true rfl) ?_
    exact ⟨rfl, rfl⟩
theorem c_D_back0_no (p : pC h d cs B N P none J wn op n tr) : Ct X 3 mt_X11_back [.ref d, .int (nI 0)] (h, z) 0 0 (QP (.int (-2)) (h, z)) := by
  obtain ⟨po, -⟩ := id p
  unfold pDO at po
  have hk := (kI_get false J.isSome).1
  refine mk_X11_back (Nat.le_of_ble_eq_true rfl) (L := [.ref d, .int (nI 0)]) rfl ?_
  refine ev_iload_n (pc := 0) dX11_back_0 rfl ?_
  refine iv_X11_274 (pc := 1) rfl dX11_back_1 (Nat.le_of_ble_eq_true rfl) (Nat.le_of_ble_eq_true rfl) (Nat.le_of_ble_eq_true rfl) (Nat.le_of_ble_eq_true rfl) (c_isImage (nI 0)) (kp ?_)
  rw [decide_eq_true (by decide)]
  refine ev_if_ne (pc := 4) 9 dX11_back_4 (by decide) (fun c_4 => ?_) (fun c_4 => ?_)
  · (try simp (disch := omega) only [i32_lti, i32_lei, i32_eqi, nI_toInt, i32z] at c_4)
    refine ev_aload_n (pc := 9) dX11_back_9 rfl ?_
    refine gf_X11_280 (pc := 10) rfl dX11_back_10 (by (try dsimp only); (repeat (first | rw [up_s] | rw [up_n (by omega)])) <;> first | rfl | assumption) ?_
    refine ev_iload_n (pc := 13) dX11_back_13 rfl ?_
    refine ev_ishr (pc := 14) dX11_back_14 ?_
    refine ev_iconst (pc := 15) (v := nI 1) dX11_back_15 kc_1 ?_
    refine ev_iand (pc := 16) dX11_back_16 ?_
    rw [show (nI (kI none J) >>> (nI 0 &&& 31)) &&& nI 1 = b2i false from hk]
    refine ev_if_ne (pc := 17) 23 dX11_back_17 (by decide) (fun c_17 => ?_) (fun c_17 => ?_)
    · exact absurd rfl c_17
    · (try simp (disch := omega) only [i32_lti, i32_lei, i32_eqi, nI_toInt, i32z] at c_17)
      refine ev_bipush (pc := 20) (v := (-2)) dX11_back_20 kb_m2 ?_
      refine ev_iret (pc := 22) dX11_back_22 rfl rfl (Nat.le_of_ble_eq_true rfl) (Nat.le_of_ble_eq_true rfl) ?_
      exact ⟨rfl, rfl⟩
  · exact absurd c_4 (by decide)
theorem c_D_back1_no (p : pC h d cs B N P I none wn op n tr) : Ct X 3 mt_X11_back [.ref d, .int (nI 1)] (h, z) 0 0 (QP (.int (-2)) (h, z)) := by
  obtain ⟨po, -⟩ := id p
  unfold pDO at po
  have hk := (kI_get I.isSome false).2
  refine mk_X11_back (Nat.le_of_ble_eq_true rfl) (L := [.ref d, .int (nI 1)]) rfl ?_
  refine ev_iload_n (pc := 0) dX11_back_0 rfl ?_
  refine iv_X11_274 (pc := 1) rfl dX11_back_1 (Nat.le_of_ble_eq_true rfl) (Nat.le_of_ble_eq_true rfl) (Nat.le_of_ble_eq_true rfl) (Nat.le_of_ble_eq_true rfl) (c_isImage (nI 1)) (kp ?_)
  rw [decide_eq_true (by decide)]
  refine ev_if_ne (pc := 4) 9 dX11_back_4 (by decide) (fun c_4 => ?_) (fun c_4 => ?_)
  · (try simp (disch := omega) only [i32_lti, i32_lei, i32_eqi, nI_toInt, i32z] at c_4)
    refine ev_aload_n (pc := 9) dX11_back_9 rfl ?_
    refine gf_X11_280 (pc := 10) rfl dX11_back_10 (by (try dsimp only); (repeat (first | rw [up_s] | rw [up_n (by omega)])) <;> first | rfl | assumption) ?_
    refine ev_iload_n (pc := 13) dX11_back_13 rfl ?_
    refine ev_ishr (pc := 14) dX11_back_14 ?_
    refine ev_iconst (pc := 15) (v := nI 1) dX11_back_15 kc_1 ?_
    refine ev_iand (pc := 16) dX11_back_16 ?_
    rw [show (nI (kI I none) >>> (nI 1 &&& 31)) &&& nI 1 = b2i false from hk]
    refine ev_if_ne (pc := 17) 23 dX11_back_17 (by decide) (fun c_17 => ?_) (fun c_17 => ?_)
    · exact absurd rfl c_17
    · (try simp (disch := omega) only [i32_lti, i32_lei, i32_eqi, nI_toInt, i32z] at c_17)
      refine ev_bipush (pc := 20) (v := (-2)) dX11_back_20 kb_m2 ?_
      refine ev_iret (pc := 22) dX11_back_22 rfl rfl (Nat.le_of_ble_eq_true rfl) (Nat.le_of_ble_eq_true rfl) ?_
      exact ⟨rfl, rfl⟩
  · exact absurd c_4 (by decide)
theorem c_D_back0 {N' : Tl} {P' : List Tl} (p : pC h d cs B N P (some (N', P')) J wn op n tr) : Ct X 3 mt_X11_back [.ref d, .int (nI 0)] (h, z) 0 0 (Qi (fun r S' => r = nI (tN N') ∧ S'.2 = z ∧ hfr h S'.1 d 174 ∧ pC S'.1 d cs B N' P' (some (N', P')) J wn op n tr)) := by
  obtain ⟨po, -, -, -, ps, pia, -, -, -, -, pi, pj⟩ := id p
  unfold pDO at po
  unfold pIa at pia
  have hs := ps.obj
  have pi' : pStand h (d + 82) N' P' := pi
  have hk := (kI_get true J.isSome).1
  refine mk_X11_back (Nat.le_of_ble_eq_true rfl) (L := [.ref d, .int (nI 0)]) rfl ?_
  refine ev_iload_n (pc := 0) dX11_back_0 rfl ?_
  refine iv_X11_274 (pc := 1) rfl dX11_back_1 (Nat.le_of_ble_eq_true rfl) (Nat.le_of_ble_eq_true rfl) (Nat.le_of_ble_eq_true rfl) (Nat.le_of_ble_eq_true rfl) (c_isImage (nI 0)) (kp ?_)
  rw [decide_eq_true (by decide)]
  refine ev_if_ne (pc := 4) 9 dX11_back_4 (by decide) (fun c_4 => ?_) (fun c_4 => ?_)
  · (try simp (disch := omega) only [i32_lti, i32_lei, i32_eqi, nI_toInt, i32z] at c_4)
    refine ev_aload_n (pc := 9) dX11_back_9 rfl ?_
    refine gf_X11_280 (pc := 10) rfl dX11_back_10 (by (try dsimp only); (repeat (first | rw [up_s] | rw [up_n (by omega)])) <;> first | rfl | assumption) ?_
    refine ev_iload_n (pc := 13) dX11_back_13 rfl ?_
    refine ev_ishr (pc := 14) dX11_back_14 ?_
    refine ev_iconst (pc := 15) (v := nI 1) dX11_back_15 kc_1 ?_
    refine ev_iand (pc := 16) dX11_back_16 ?_
    rw [show (nI (kI (some (N', P')) J) >>> (nI 0 &&& 31)) &&& nI 1 = b2i true from hk]
    refine ev_if_ne (pc := 17) 23 dX11_back_17 (by decide) (fun c_17 => ?_) (fun c_17 => ?_)
    · (try simp (disch := omega) only [i32_lti, i32_lei, i32_eqi, nI_toInt, i32z] at c_17)
      refine ev_aload_n (pc := 23) dX11_back_23 rfl ?_
      refine gf_X11_29 (pc := 24) rfl dX11_back_24 (by (try dsimp only); (repeat (first | rw [up_s] | rw [up_n (by omega)])) <;> first | rfl | assumption) ?_
      refine ev_aload_n (pc := 27) dX11_back_27 rfl ?_
      refine gf_X11_33 (pc := 28) rfl dX11_back_28 (by (try dsimp only); (repeat (first | rw [up_s] | rw [up_n (by omega)])) <;> first | rfl | assumption) ?_
      refine ev_iload_n (pc := 31) dX11_back_31 rfl ?_
      refine ev_aald (pc := 32) (t := 5) dX11_back_32 rfl (by (try dsimp only); (repeat (first | rw [up_s] | rw [up_n (by omega)])) <;> first | rfl | assumption) (nI_toInt (by omega)) rfl ?_
      refine iv_X11_277 (pc := 33) rfl dX11_back_33 (by (try dsimp only); (repeat (first | rw [up_s] | rw [up_n (by omega)])) <;> first | rfl | assumption) (Nat.le_of_ble_eq_true rfl) (Nat.le_of_ble_eq_true rfl) (Nat.le_of_ble_eq_true rfl) (Nat.le_of_ble_eq_true rfl) (c_Stand_copy ps.raw pi' (by omega)) (kv (fun S' hS => ?_))
      obtain ⟨h1, z'⟩ := S'
      obtain ⟨rfl, f1, s1⟩ := hS
      have po1 := (f1 d (by omega)).trans po
      have hs1 := s1.obj
      have hn1 := s1.now.1
      refine ev_aload_n (pc := 36) dX11_back_36 rfl ?_
      refine gf_X11_29 (pc := 37) rfl dX11_back_37 (by (try dsimp only); (repeat (first | rw [up_s] | rw [up_n (by omega)])) <;> first | rfl | assumption) ?_
      refine gf_X11_102 (pc := 40) rfl dX11_back_40 (by (try dsimp only); (repeat (first | rw [up_s] | rw [up_n (by omega)])) <;> first | rfl | assumption) ?_
      refine gf_X11_174 (pc := 43) rfl dX11_back_43 (by (try dsimp only); (repeat (first | rw [up_s] | rw [up_n (by omega)])) <;> first | rfl | assumption) ?_
      refine ev_iret (pc := 46) dX11_back_46 rfl rfl (Nat.le_of_ble_eq_true rfl) (Nat.le_of_ble_eq_true rfl) ?_
      exact ⟨_, rfl, rfl, rfl, (fun q a => f1 q (by omega)), p.sd (fun q a => f1 q (by omega)) s1⟩
    · exact absurd c_17 (by decide)
  · exact absurd c_4 (by decide)
theorem c_D_back1 {N' : Tl} {P' : List Tl} (p : pC h d cs B N P I (some (N', P')) wn op n tr) : Ct X 3 mt_X11_back [.ref d, .int (nI 1)] (h, z) 0 0 (Qi (fun r S' => r = nI (tN N') ∧ S'.2 = z ∧ hfr h S'.1 d 174 ∧ pC S'.1 d cs B N' P' I (some (N', P')) wn op n tr)) := by
  obtain ⟨po, -, -, -, ps, pia, -, -, -, -, pi, pj⟩ := id p
  unfold pDO at po
  unfold pIa at pia
  have hs := ps.obj
  have pj' : pStand h (d + 128) N' P' := pj
  have hk := (kI_get I.isSome true).2
  refine mk_X11_back (Nat.le_of_ble_eq_true rfl) (L := [.ref d, .int (nI 1)]) rfl ?_
  refine ev_iload_n (pc := 0) dX11_back_0 rfl ?_
  refine iv_X11_274 (pc := 1) rfl dX11_back_1 (Nat.le_of_ble_eq_true rfl) (Nat.le_of_ble_eq_true rfl) (Nat.le_of_ble_eq_true rfl) (Nat.le_of_ble_eq_true rfl) (c_isImage (nI 1)) (kp ?_)
  rw [decide_eq_true (by decide)]
  refine ev_if_ne (pc := 4) 9 dX11_back_4 (by decide) (fun c_4 => ?_) (fun c_4 => ?_)
  · (try simp (disch := omega) only [i32_lti, i32_lei, i32_eqi, nI_toInt, i32z] at c_4)
    refine ev_aload_n (pc := 9) dX11_back_9 rfl ?_
    refine gf_X11_280 (pc := 10) rfl dX11_back_10 (by (try dsimp only); (repeat (first | rw [up_s] | rw [up_n (by omega)])) <;> first | rfl | assumption) ?_
    refine ev_iload_n (pc := 13) dX11_back_13 rfl ?_
    refine ev_ishr (pc := 14) dX11_back_14 ?_
    refine ev_iconst (pc := 15) (v := nI 1) dX11_back_15 kc_1 ?_
    refine ev_iand (pc := 16) dX11_back_16 ?_
    rw [show (nI (kI I (some (N', P'))) >>> (nI 1 &&& 31)) &&& nI 1 = b2i true from hk]
    refine ev_if_ne (pc := 17) 23 dX11_back_17 (by decide) (fun c_17 => ?_) (fun c_17 => ?_)
    · (try simp (disch := omega) only [i32_lti, i32_lei, i32_eqi, nI_toInt, i32z] at c_17)
      refine ev_aload_n (pc := 23) dX11_back_23 rfl ?_
      refine gf_X11_29 (pc := 24) rfl dX11_back_24 (by (try dsimp only); (repeat (first | rw [up_s] | rw [up_n (by omega)])) <;> first | rfl | assumption) ?_
      refine ev_aload_n (pc := 27) dX11_back_27 rfl ?_
      refine gf_X11_33 (pc := 28) rfl dX11_back_28 (by (try dsimp only); (repeat (first | rw [up_s] | rw [up_n (by omega)])) <;> first | rfl | assumption) ?_
      refine ev_iload_n (pc := 31) dX11_back_31 rfl ?_
      refine ev_aald (pc := 32) (t := 5) dX11_back_32 rfl (by (try dsimp only); (repeat (first | rw [up_s] | rw [up_n (by omega)])) <;> first | rfl | assumption) (nI_toInt (by omega)) rfl ?_
      refine iv_X11_277 (pc := 33) rfl dX11_back_33 (by (try dsimp only); (repeat (first | rw [up_s] | rw [up_n (by omega)])) <;> first | rfl | assumption) (Nat.le_of_ble_eq_true rfl) (Nat.le_of_ble_eq_true rfl) (Nat.le_of_ble_eq_true rfl) (Nat.le_of_ble_eq_true rfl) (c_Stand_copy ps.raw pj' (by omega)) (kv (fun S' hS => ?_))
      obtain ⟨h1, z'⟩ := S'
      obtain ⟨rfl, f1, s1⟩ := hS
      have po1 := (f1 d (by omega)).trans po
      have hs1 := s1.obj
      have hn1 := s1.now.1
      refine ev_aload_n (pc := 36) dX11_back_36 rfl ?_
      refine gf_X11_29 (pc := 37) rfl dX11_back_37 (by (try dsimp only); (repeat (first | rw [up_s] | rw [up_n (by omega)])) <;> first | rfl | assumption) ?_
      refine gf_X11_102 (pc := 40) rfl dX11_back_40 (by (try dsimp only); (repeat (first | rw [up_s] | rw [up_n (by omega)])) <;> first | rfl | assumption) ?_
      refine gf_X11_174 (pc := 43) rfl dX11_back_43 (by (try dsimp only); (repeat (first | rw [up_s] | rw [up_n (by omega)])) <;> first | rfl | assumption) ?_
      refine ev_iret (pc := 46) dX11_back_46 rfl rfl (Nat.le_of_ble_eq_true rfl) (Nat.le_of_ble_eq_true rfl) ?_
      exact ⟨_, rfl, rfl, rfl, (fun q a => f1 q (by omega)), p.sd (fun q a => f1 q (by omega)) s1⟩
    · exact absurd c_17 (by decide)
  · exact absurd c_4 (by decide)
end ON2
