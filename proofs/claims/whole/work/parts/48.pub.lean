/-! ===== DawnTales: its calls (text, tales, telling) ===== -/
section PC
variable {h h' : Hp} {d n : Nat} {cs : List Nat} {B : Bk} {N : Tl} {P : List Tl} {I J : Im} {wn op : List Nat} {tr : Int64}
theorem pC.fr (p : pC h d cs B N P I J wn op n tr) (e : ∀ q : Nat, d ≤ q → q < d + 174 → h' q = h q) : pC h' d cs B N P I J wn op n tr := by
  obtain ⟨po, px, pb, ⟨B2, pd⟩, ps, pia, ⟨kn, pr⟩, ph, pka, pkd, pi, pj⟩ := p
  exact ⟨(e d (by omega) (by omega)).trans po, px.fr (fun q a b => e q (by omega) (by omega)), pb.fr (fun q a b => e q (by omega) (by omega)), ⟨B2, pd.fr (fun q a b => e q (by omega) (by omega))⟩, ps.fr (fun q a b => e q (by omega) (by omega)), (e _ (by omega) (by omega)).trans pia, ⟨kn, pr.fr (fun q a b => e q (by omega) (by omega))⟩, ph.fr (e _ (by omega) (by omega)) (e _ (by omega) (by omega)), (e _ (by omega) (by omega)).trans pka, pkd.fr (fun q a b => e q (by omega) (by omega)), pi.fr (fun q a b => e q (by omega) (by omega)), pj.fr (fun q a b => e q (by omega) (by omega))⟩
theorem pC.tx {cs' : List Nat} (p : pC h d cs B N P I J wn op n tr) (e : ∀ q : Nat, (q < d + 1 ∨ d + 3 ≤ q) → h' q = h q) (x : pTx h' (d + 1) cs') : pC h' d cs' B N P I J wn op n tr := by
  obtain ⟨po, px, pb, ⟨B2, pd⟩, ps, pia, ⟨kn, pr⟩, ph, pka, pkd, pi, pj⟩ := p
  exact ⟨(e d (by omega)).trans po, x, pb.fr (fun q a b => e q (by omega)), ⟨B2, pd.fr (fun q a b => e q (by omega))⟩, ps.fr (fun q a b => e q (by omega)), (e _ (by omega)).trans pia, ⟨kn, pr.fr (fun q a b => e q (by omega))⟩, ph.fr (e _ (by omega)) (e _ (by omega)), (e _ (by omega)).trans pka, pkd.fr (fun q a b => e q (by omega)), pi.fr (fun q a b => e q (by omega)), pj.fr (fun q a b => e q (by omega))⟩
theorem pC.sd {N' : Tl} {P' : List Tl} (p : pC h d cs B N P I J wn op n tr) (e : ∀ q : Nat, (q < d + 11 ∨ d + 57 ≤ q) → h' q = h q) (x : pStand h' (d + 11) N' P') : pC h' d cs B N' P' I J wn op n tr := by
  obtain ⟨po, px, pb, ⟨B2, pd⟩, ps, pia, ⟨kn, pr⟩, ph, pka, pkd, pi, pj⟩ := p
  exact ⟨(e d (by omega)).trans po, px.fr (fun q a b => e q (by omega)), pb.fr (fun q a b => e q (by omega)), ⟨B2, pd.fr (fun q a b => e q (by omega))⟩, x, (e _ (by omega)).trans pia, ⟨kn, pr.fr (fun q a b => e q (by omega))⟩, ph.fr (e _ (by omega)) (e _ (by omega)), (e _ (by omega)).trans pka, pkd.fr (fun q a b => e q (by omega)), pi.fr (fun q a b => e q (by omega)), pj.fr (fun q a b => e q (by omega))⟩
theorem pC.rw {kn' : Bool} (p : pC h d cs B N P I J wn op n tr) (e : ∀ q : Nat, (q < d + 58 ∨ d + 73 ≤ q) → h' q = h q) (x : pRows h' (d + 58) B kn') : pC h' d cs B N P I J wn op n tr := by
  obtain ⟨po, px, pb, ⟨B2, pd⟩, ps, pia, ⟨kn, pr⟩, ph, pka, pkd, pi, pj⟩ := p
  exact ⟨(e d (by omega)).trans po, px.fr (fun q a b => e q (by omega)), pb.fr (fun q a b => e q (by omega)), ⟨B2, pd.fr (fun q a b => e q (by omega))⟩, ps.fr (fun q a b => e q (by omega)), (e _ (by omega)).trans pia, ⟨kn', x⟩, ph.fr (e _ (by omega)) (e _ (by omega)), (e _ (by omega)).trans pka, pkd.fr (fun q a b => e q (by omega)), pi.fr (fun q a b => e q (by omega)), pj.fr (fun q a b => e q (by omega))⟩
end PC
def gT (B : Bk) (m : Nat) (T : Tl) : Prop := wT T ∧ wF B T ∧ tN T ≤ m ∧ ∀ t : Nat, (tB T).testBit t = true → t < bT B
theorem wB.w {m : Nat} {B : Bk} (w : wB m B) : ∀ i : Nat, i < bT B → gN (bW B) i < 10 := fun i hi => (w.2.2.2.2.2.1 i hi).2.2
def aNow (B : Bk) (N : Tl) (x : Int32) : Int32 := if x.toInt = 0 then nI (tN N) else if x.toInt = 1 then nI (tH N) else if x.toInt = 2 then nI (tO N).length else if x.toInt = 3 then inn N else if x.toInt = 4 then b2i (tV N) else if x.toInt = 5 then nI (tS N) else if x.toInt = 6 then nI (endN N 6) else if x.toInt = 7 then nI (mayBN B N (bT B)) else -1
def aTale (B : Bk) (N : Tl) (k : Nat) (x : Int32) : Int32 := if x.toInt = 0 then nI (gN (bP B) k) else if x.toInt = 1 then nI (gN (bW B) k) else if x.toInt = 2 then nI (gN (tF N) k) else if x.toInt = 3 then b2i ((tB N).testBit k) else if x.toInt = 4 then (if k ∈ tO N then nI ((tO N).idxOf k) else -9) else if x.toInt = 5 then (if (tB N).testBit k = true then nI (gN (tA N) k) else -9) else -1
def aCount (cs : List Nat) (B : Bk) (P : List Tl) (n : Nat) (x : Int32) : Int32 := if x.toInt = 0 then nI (bT B) else if x.toInt = 1 then nI (bK B) else if x.toInt = 2 then nI (bM B) else if x.toInt = 3 then nI (bD B) else if x.toInt = 4 then nI n else if x.toInt = 5 then nI P.length else if x.toInt = 6 then nI cs.length else -1
section PUB
variable {X : Cx} {h : Hp} {z d n m : Nat} {cs : List Nat} {B : Bk} {N : Tl} {P : List Tl} {I J : Im} {wn op : List Nat} {tr : Int64}
theorem c_D_type_bad (p : pC h d cs B N P I J wn op n tr) {c : Int32} (hc : ¬ (0 ≤ c.toInt ∧ c.toInt ≤ 255)) : Ct X 1 mt_X11_type [.ref d, .int c] (h, z) 0 0 (QP (.int (-1)) (h, z)) := by
  refine mk_X11_type (Nat.le_of_ble_eq_true rfl) (L := [.ref d, .int c]) rfl ?_
  refine ev_iload_n (pc := 0) dX11_type_0 rfl ?_
  refine ev_if_lt (pc := 1) 11 dX11_type_1 (by decide) (fun c_1 => ?_) (fun c_1 => ?_)
  · (try simp (disch := omega) only [i32_lti, i32_lei, i32_eqi, nI_toInt, i32z] at c_1)
    refine ev_iconst (pc := 11) (v := (-1)) dX11_type_11 kc_m1 ?_
    refine ev_iret (pc := 12) dX11_type_12 rfl rfl (Nat.le_of_ble_eq_true rfl) (Nat.le_of_ble_eq_true rfl) ?_
    exact ⟨rfl, rfl⟩
  · (try simp (disch := omega) only [i32_lti, i32_lei, i32_eqi, nI_toInt, i32z] at c_1)
    refine ev_iload_n (pc := 4) dX11_type_4 rfl ?_
    refine ev_sipush (pc := 5) (v := nI 255) dX11_type_5 ks_255 ?_
    refine ev_icmp_le (pc := 8) 13 dX11_type_8 (by decide) (fun c_8 => ?_) (fun c_8 => ?_)
    · exfalso; (try simp (disch := omega) only [i32_lti, i32_lei, i32_eqi, nI_toInt, i32z] at c_8); omega
    · (try simp (disch := omega) only [i32_lti, i32_lei, i32_eqi, nI_toInt, i32z] at c_8)
      refine ev_iconst (pc := 11) (v := (-1)) dX11_type_11 kc_m1 ?_
      refine ev_iret (pc := 12) dX11_type_12 rfl rfl (Nat.le_of_ble_eq_true rfl) (Nat.le_of_ble_eq_true rfl) ?_
      exact ⟨rfl, rfl⟩
theorem c_D_type (p : pC h d cs B N P I J wn op n tr) {c : Nat} (hc : c < 256) : Ct X 1 mt_X11_type [.ref d, .int (nI c)] (h, z) 0 0 (Qi (fun r S' => r = (if cs.length < 150 then nI (cs.length + 1) else -3) ∧ S'.2 = z ∧ hfr h S'.1 d 174 ∧ pC S'.1 d (if cs.length < 150 then cs ++ [c] else cs) B N P I J wn op n tr)) := by
  obtain ⟨po, ⟨i0, af, tk, va, x1, x2, px⟩, -⟩ := id p
  unfold pDO at po
  have hx := px.1
  refine mk_X11_type (Nat.le_of_ble_eq_true rfl) (L := [.ref d, .int (nI c)]) rfl ?_
  refine ev_iload_n (pc := 0) dX11_type_0 rfl ?_
  refine ev_if_lt (pc := 1) 11 dX11_type_1 (by decide) (fun c_1 => ?_) (fun c_1 => ?_)
  · exfalso; (try simp (disch := omega) only [i32_lti, i32_lei, i32_eqi, nI_toInt, i32z] at c_1); omega
  · (try simp (disch := omega) only [i32_lti, i32_lei, i32_eqi, nI_toInt, i32z] at c_1)
    refine ev_iload_n (pc := 4) dX11_type_4 rfl ?_
    refine ev_sipush (pc := 5) (v := nI 255) dX11_type_5 ks_255 ?_
    refine ev_icmp_le (pc := 8) 13 dX11_type_8 (by decide) (fun c_8 => ?_) (fun c_8 => ?_)
    · (try simp (disch := omega) only [i32_lti, i32_lei, i32_eqi, nI_toInt, i32z] at c_8)
      refine ev_aload_n (pc := 13) dX11_type_13 rfl ?_
      refine gf_X11_10 (pc := 14) rfl dX11_type_14 (by (try dsimp only); (repeat (first | rw [up_s] | rw [up_n (by omega)])) <;> first | rfl | assumption) ?_
      refine ev_iload_n (pc := 17) dX11_type_17 rfl ?_
      refine iv_X11_76 (pc := 18) rfl dX11_type_18 (by (try dsimp only); (repeat (first | rw [up_s] | rw [up_n (by omega)])) <;> first | rfl | assumption) (Nat.le_of_ble_eq_true rfl) (Nat.le_of_ble_eq_true rfl) (Nat.le_of_ble_eq_true rfl) (Nat.le_of_ble_eq_true rfl) (c_add px hc) (ki (fun r S' hS => ?_))
      obtain ⟨h1, z'⟩ := S'
      obtain ⟨rfl, rfl, f1, p1⟩ := hS
      have po1 := (f1 d (by omega)).trans po
      have fin := p.tx (fun q a => f1 q (by omega)) ⟨_, _, _, _, x1, x2, p1⟩
      have hx1 := p1.1
      refine ev_if_eq (pc := 21) 34 dX11_type_21 (by decide) (fun c_21 => ?_) (fun c_21 => ?_)
      · simp only [b2i_e0, Bool.not_eq_false] at c_21
        rw [decide_eq_false_iff_not] at c_21
        refine ev_bipush (pc := 34) (v := (-3)) dX11_type_34 kb_m3 ?_
        refine ev_iret (pc := 36) dX11_type_36 rfl rfl (Nat.le_of_ble_eq_true rfl) (Nat.le_of_ble_eq_true rfl) ?_
        first | exact ⟨_, rfl, by rw [if_pos c_21, List.length_append]; rfl, rfl, fun q a => f1 q (by omega), fin⟩ | exact ⟨_, rfl, by rw [if_neg c_21], rfl, fun q a => f1 q (by omega), fin⟩
      · simp only [b2i_e0, Bool.not_eq_false] at c_21
        rw [decide_eq_true_eq] at c_21
        rw [if_pos c_21] at hx1
        refine ev_aload_n (pc := 24) dX11_type_24 rfl ?_
        refine gf_X11_10 (pc := 25) rfl dX11_type_25 (by (try dsimp only); (repeat (first | rw [up_s] | rw [up_n (by omega)])) <;> first | rfl | assumption) ?_
        refine gf_X11_80 (pc := 28) rfl dX11_type_28 (by (try dsimp only); (repeat (first | rw [up_s] | rw [up_n (by omega)])) <;> first | rfl | assumption) ?_
        refine ev_goto (pc := 31) 36 dX11_type_31 (by decide) ?_
        refine ev_iret (pc := 36) dX11_type_36 rfl rfl (Nat.le_of_ble_eq_true rfl) (Nat.le_of_ble_eq_true rfl) ?_
        first | exact ⟨_, rfl, by rw [if_pos c_21, List.length_append]; rfl, rfl, fun q a => f1 q (by omega), fin⟩ | exact ⟨_, rfl, by rw [if_neg c_21], rfl, fun q a => f1 q (by omega), fin⟩
    · exfalso; (try simp (disch := omega) only [i32_lti, i32_lei, i32_eqi, nI_toInt, i32z] at c_8); omega
theorem c_D_clear (p : pC h d cs B N P I J wn op n tr) : Ct X 1 mt_X11_clear [.ref d] (h, z) 0 0 (Qi (fun r S' => r = nI cs.length ∧ S'.2 = z ∧ hfr h S'.1 d 174 ∧ pC S'.1 d [] B N P I J wn op n tr)) := by
  obtain ⟨po, ⟨i0, af, tk, va, x1, x2, px⟩, -⟩ := id p
  unfold pDO at po
  have hx := px.1
  refine mk_X11_clear (Nat.le_of_ble_eq_true rfl) (L := [.ref d]) rfl ?_
  refine ev_aload_n (pc := 0) dX11_clear_0 rfl ?_
  refine gf_X11_10 (pc := 1) rfl dX11_clear_1 (by (try dsimp only); (repeat (first | rw [up_s] | rw [up_n (by omega)])) <;> first | rfl | assumption) ?_
  refine iv_X11_84 (pc := 4) rfl dX11_clear_4 (by (try dsimp only); (repeat (first | rw [up_s] | rw [up_n (by omega)])) <;> first | rfl | assumption) (Nat.le_of_ble_eq_true rfl) (Nat.le_of_ble_eq_true rfl) (Nat.le_of_ble_eq_true rfl) (Nat.le_of_ble_eq_true rfl) (c_empty px) (ki (fun r S' hS => ?_))
  obtain ⟨h1, z'⟩ := S'
  obtain ⟨rfl, rfl, f1, p1⟩ := hS
  refine ev_iret (pc := 7) dX11_clear_7 rfl rfl (Nat.le_of_ble_eq_true rfl) (Nat.le_of_ble_eq_true rfl) ?_
  exact ⟨_, rfl, rfl, rfl, fun q a => f1 q (by omega), p.tx (fun q a => f1 q (by omega)) ⟨_, _, _, _, x1, x2, p1⟩⟩
theorem c_D_hours_bad {x : Int32} (hx : ¬ (0 ≤ x.toInt ∧ x.toInt ≤ 200)) : Ct X 1 mt_X11_hours [.ref d, .int x] (h, z) 0 0 (QP (.int (-1)) (h, z)) := by
  refine mk_X11_hours (Nat.le_of_ble_eq_true rfl) (L := [.ref d, .int x]) rfl ?_
  refine ev_iload_n (pc := 0) dX11_hours_0 rfl ?_
  refine ev_if_lt (pc := 1) 11 dX11_hours_1 (by decide) (fun c_1 => ?_) (fun c_1 => ?_)
  · (try simp (disch := omega) only [i32_lti, i32_lei, i32_eqi, nI_toInt, i32z] at c_1)
    refine ev_iconst (pc := 11) (v := (-1)) dX11_hours_11 kc_m1 ?_
    refine ev_goto (pc := 12) 23 dX11_hours_12 (by decide) ?_
    refine ev_iret (pc := 23) dX11_hours_23 rfl rfl (Nat.le_of_ble_eq_true rfl) (Nat.le_of_ble_eq_true rfl) ?_
    exact ⟨rfl, rfl⟩
  · (try simp (disch := omega) only [i32_lti, i32_lei, i32_eqi, nI_toInt, i32z] at c_1)
    refine ev_iload_n (pc := 4) dX11_hours_4 rfl ?_
    refine ev_sipush (pc := 5) (v := nI 200) dX11_hours_5 ks_200 ?_
    refine ev_icmp_le (pc := 8) 15 dX11_hours_8 (by decide) (fun c_8 => ?_) (fun c_8 => ?_)
    · exfalso; (try simp (disch := omega) only [i32_lti, i32_lei, i32_eqi, nI_toInt, i32z] at c_8); omega
    · (try simp (disch := omega) only [i32_lti, i32_lei, i32_eqi, nI_toInt, i32z] at c_8)
      refine ev_iconst (pc := 11) (v := (-1)) dX11_hours_11 kc_m1 ?_
      refine ev_goto (pc := 12) 23 dX11_hours_12 (by decide) ?_
      refine ev_iret (pc := 23) dX11_hours_23 rfl rfl (Nat.le_of_ble_eq_true rfl) (Nat.le_of_ble_eq_true rfl) ?_
      exact ⟨rfl, rfl⟩
theorem c_D_hours (p : pC h d cs B N P I J wn op n tr) (b9 : wB m B) {k : Nat} (hk : k ≤ 200) : Ct X 1 mt_X11_hours [.ref d, .int (nI k)] (h, z) 0 0 (QP (.int (nI (hoN B k))) (h, z)) := by
  obtain ⟨po, -, pb, -⟩ := id p
  unfold pDO at po
  obtain ⟨hb, -⟩ := id pb
  refine mk_X11_hours (Nat.le_of_ble_eq_true rfl) (L := [.ref d, .int (nI k)]) rfl ?_
  refine ev_iload_n (pc := 0) dX11_hours_0 rfl ?_
  refine ev_if_lt (pc := 1) 11 dX11_hours_1 (by decide) (fun c_1 => ?_) (fun c_1 => ?_)
  · exfalso; (try simp (disch := omega) only [i32_lti, i32_lei, i32_eqi, nI_toInt, i32z] at c_1); omega
  · (try simp (disch := omega) only [i32_lti, i32_lei, i32_eqi, nI_toInt, i32z] at c_1)
    refine ev_iload_n (pc := 4) dX11_hours_4 rfl ?_
    refine ev_sipush (pc := 5) (v := nI 200) dX11_hours_5 ks_200 ?_
    refine ev_icmp_le (pc := 8) 15 dX11_hours_8 (by decide) (fun c_8 => ?_) (fun c_8 => ?_)
    · (try simp (disch := omega) only [i32_lti, i32_lei, i32_eqi, nI_toInt, i32z] at c_8)
      refine ev_aload_n (pc := 15) dX11_hours_15 rfl ?_
      refine gf_X11_19 (pc := 16) rfl dX11_hours_16 (by (try dsimp only); (repeat (first | rw [up_s] | rw [up_n (by omega)])) <;> first | rfl | assumption) ?_
      refine ev_iload_n (pc := 19) dX11_hours_19 rfl ?_
      refine iv_X11_127 (pc := 20) rfl dX11_hours_20 (by (try dsimp only); (repeat (first | rw [up_s] | rw [up_n (by omega)])) <;> first | rfl | assumption) (Nat.le_of_ble_eq_true rfl) (Nat.le_of_ble_eq_true rfl) (Nat.le_of_ble_eq_true rfl) (Nat.le_of_ble_eq_true rfl) (c_hoursOf pb b9.2.1 b9.2.2.1 (by omega)) (kp ?_)
      refine ev_iret (pc := 23) dX11_hours_23 rfl rfl (Nat.le_of_ble_eq_true rfl) (Nat.le_of_ble_eq_true rfl) ?_
      exact ⟨rfl, rfl⟩
    · exfalso; (try simp (disch := omega) only [i32_lti, i32_lei, i32_eqi, nI_toInt, i32z] at c_8); omega
theorem c_D_now (p : pC h d cs B N P I J wn op n tr) (b9 : wB m B) (w : wT N) (x : Int32) : Ct X 3 mt_X11_now [.ref d, .int x] (h, z) 0 0 (QP (.int (aNow B N x)) (h, z)) := by
  obtain ⟨po, -, pb, -, ps, -⟩ := id p
  unfold pDO at po
  have hs := ps.obj
  have pn := ps.now
  have hn := pn.1
  refine mk_X11_now (Nat.le_of_ble_eq_true rfl) (L := [.ref d, .int x, .retAddr 0]) rfl ?_
  unfold aNow
  refine ev_aload_n (pc := 0) dX11_now_0 rfl ?_
  refine gf_X11_29 (pc := 1) rfl dX11_now_1 (by (try dsimp only); (repeat (first | rw [up_s] | rw [up_n (by omega)])) <;> first | rfl | assumption) ?_
  refine gf_X11_102 (pc := 4) rfl dX11_now_4 (by (try dsimp only); (repeat (first | rw [up_s] | rw [up_n (by omega)])) <;> first | rfl | assumption) ?_
  refine ev_astore_n (pc := 7) (L' := [_, _, _]) dX11_now_7 (Nat.le_of_ble_eq_true rfl) rfl ?_
  refine ev_iload_n (pc := 8) dX11_now_8 rfl ?_
  by_cases s9_0 : (x).toInt = 0
  · refine ev_tableIn (pc := 9) 56 dX11_now_9 (by omega) (by omega) (by rw [s9_0]; rfl) (by decide) ?_
    refine ev_aload_n (pc := 56) dX11_now_56 rfl ?_
    refine gf_X11_174 (pc := 57) rfl dX11_now_57 (by (try dsimp only); (repeat (first | rw [up_s] | rw [up_n (by omega)])) <;> first | rfl | assumption) ?_
    refine ev_iret (pc := 60) dX11_now_60 rfl rfl (Nat.le_of_ble_eq_true rfl) (Nat.le_of_ble_eq_true rfl) ?_
    first | exact ⟨by (repeat (first | rw [if_pos (by omega)] | rw [if_neg (by omega)])); first | done | (rw [c_80]; rfl), rfl⟩
  by_cases s9_1 : (x).toInt = 1
  · refine ev_tableIn (pc := 9) 61 dX11_now_9 (by omega) (by omega) (by rw [s9_1]; rfl) (by decide) ?_
    refine ev_aload_n (pc := 61) dX11_now_61 rfl ?_
    refine gf_X11_141 (pc := 62) rfl dX11_now_62 (by (try dsimp only); (repeat (first | rw [up_s] | rw [up_n (by omega)])) <;> first | rfl | assumption) ?_
    refine ev_iret (pc := 65) dX11_now_65 rfl rfl (Nat.le_of_ble_eq_true rfl) (Nat.le_of_ble_eq_true rfl) ?_
    first | exact ⟨by (repeat (first | rw [if_pos (by omega)] | rw [if_neg (by omega)])); first | done | (rw [c_80]; rfl), rfl⟩
  by_cases s9_2 : (x).toInt = 2
  · refine ev_tableIn (pc := 9) 66 dX11_now_9 (by omega) (by omega) (by rw [s9_2]; rfl) (by decide) ?_
    refine ev_aload_n (pc := 66) dX11_now_66 rfl ?_
    refine gf_X11_148 (pc := 67) rfl dX11_now_67 (by (try dsimp only); (repeat (first | rw [up_s] | rw [up_n (by omega)])) <;> first | rfl | assumption) ?_
    refine ev_iret (pc := 70) dX11_now_70 rfl rfl (Nat.le_of_ble_eq_true rfl) (Nat.le_of_ble_eq_true rfl) ?_
    first | exact ⟨by (repeat (first | rw [if_pos (by omega)] | rw [if_neg (by omega)])); first | done | (rw [c_80]; rfl), rfl⟩
  by_cases s9_3 : (x).toInt = 3
  · refine ev_tableIn (pc := 9) 71 dX11_now_9 (by omega) (by omega) (by rw [s9_3]; rfl) (by decide) ?_
    refine ev_aload_n (pc := 71) dX11_now_71 rfl ?_
    refine iv_X11_151 (pc := 72) rfl dX11_now_72 (by (try dsimp only); (repeat (first | rw [up_s] | rw [up_n (by omega)])) <;> first | rfl | assumption) (Nat.le_of_ble_eq_true rfl) (Nat.le_of_ble_eq_true rfl) (Nat.le_of_ble_eq_true rfl) (Nat.le_of_ble_eq_true rfl) (c_innermost pn w.2.2.2.1) (kp ?_)
    refine ev_iret (pc := 75) dX11_now_75 rfl rfl (Nat.le_of_ble_eq_true rfl) (Nat.le_of_ble_eq_true rfl) ?_
    first | exact ⟨by (repeat (first | rw [if_pos (by omega)] | rw [if_neg (by omega)])); first | done | (rw [c_80]; rfl), rfl⟩
  by_cases s9_4 : (x).toInt = 4
  · refine ev_tableIn (pc := 9) 76 dX11_now_9 (by omega) (by omega) (by rw [s9_4]; rfl) (by decide) ?_
    refine ev_aload_n (pc := 76) dX11_now_76 rfl ?_
    refine gf_X11_177 (pc := 77) rfl dX11_now_77 (by (try dsimp only); (repeat (first | rw [up_s] | rw [up_n (by omega)])) <;> first | rfl | assumption) ?_
    refine ev_if_eq (pc := 80) 87 dX11_now_80 (by decide) (fun c_80 => ?_) (fun c_80 => ?_)
    · simp only [b2i_e0, Bool.not_eq_false] at c_80
      refine ev_iconst (pc := 87) (v := nI 0) dX11_now_87 kc_0 ?_
      refine ev_iret (pc := 88) dX11_now_88 rfl rfl (Nat.le_of_ble_eq_true rfl) (Nat.le_of_ble_eq_true rfl) ?_
      first | exact ⟨by (repeat (first | rw [if_pos (by omega)] | rw [if_neg (by omega)])); first | done | (rw [c_80]; rfl), rfl⟩
    · simp only [b2i_e0, Bool.not_eq_false] at c_80
      refine ev_iconst (pc := 83) (v := nI 1) dX11_now_83 kc_1 ?_
      refine ev_goto (pc := 84) 88 dX11_now_84 (by decide) ?_
      refine ev_iret (pc := 88) dX11_now_88 rfl rfl (Nat.le_of_ble_eq_true rfl) (Nat.le_of_ble_eq_true rfl) ?_
      first | exact ⟨by (repeat (first | rw [if_pos (by omega)] | rw [if_neg (by omega)])); first | done | (rw [c_80]; rfl), rfl⟩
  by_cases s9_5 : (x).toInt = 5
  · refine ev_tableIn (pc := 9) 89 dX11_now_9 (by omega) (by omega) (by rw [s9_5]; rfl) (by decide) ?_
    refine ev_aload_n (pc := 89) dX11_now_89 rfl ?_
    refine gf_X11_181 (pc := 90) rfl dX11_now_90 (by (try dsimp only); (repeat (first | rw [up_s] | rw [up_n (by omega)])) <;> first | rfl | assumption) ?_
    refine ev_iret (pc := 93) dX11_now_93 rfl rfl (Nat.le_of_ble_eq_true rfl) (Nat.le_of_ble_eq_true rfl) ?_
    first | exact ⟨by (repeat (first | rw [if_pos (by omega)] | rw [if_neg (by omega)])); first | done | (rw [c_80]; rfl), rfl⟩
  by_cases s9_6 : (x).toInt = 6
  · refine ev_tableIn (pc := 9) 94 dX11_now_9 (by omega) (by omega) (by rw [s9_6]; rfl) (by decide) ?_
    refine ev_aload_n (pc := 94) dX11_now_94 rfl ?_
    refine iv_X11_184 (pc := 95) rfl dX11_now_95 (by (try dsimp only); (repeat (first | rw [up_s] | rw [up_n (by omega)])) <;> first | rfl | assumption) (Nat.le_of_ble_eq_true rfl) (Nat.le_of_ble_eq_true rfl) (Nat.le_of_ble_eq_true rfl) (Nat.le_of_ble_eq_true rfl) (c_endedBits pn w) (kp ?_)
    refine ev_iret (pc := 98) dX11_now_98 rfl rfl (Nat.le_of_ble_eq_true rfl) (Nat.le_of_ble_eq_true rfl) ?_
    first | exact ⟨by (repeat (first | rw [if_pos (by omega)] | rw [if_neg (by omega)])); first | done | (rw [c_80]; rfl), rfl⟩
  by_cases s9_7 : (x).toInt = 7
  · refine ev_tableIn (pc := 9) 99 dX11_now_9 (by omega) (by omega) (by rw [s9_7]; rfl) (by decide) ?_
    refine ev_aload_n (pc := 99) dX11_now_99 rfl ?_
    refine ev_aload_n (pc := 100) dX11_now_100 rfl ?_
    refine gf_X11_19 (pc := 101) rfl dX11_now_101 (by (try dsimp only); (repeat (first | rw [up_s] | rw [up_n (by omega)])) <;> first | rfl | assumption) ?_
    refine iv_X11_187 (pc := 104) rfl dX11_now_104 (by (try dsimp only); (repeat (first | rw [up_s] | rw [up_n (by omega)])) <;> first | rfl | assumption) (Nat.le_of_ble_eq_true rfl) (Nat.le_of_ble_eq_true rfl) (Nat.le_of_ble_eq_true rfl) (Nat.le_of_ble_eq_true rfl) (c_mayBeginBits pn w pb b9.1 b9.2.2.2.2.1 b9.w) (kp ?_)
    refine ev_iret (pc := 107) dX11_now_107 rfl rfl (Nat.le_of_ble_eq_true rfl) (Nat.le_of_ble_eq_true rfl) ?_
    first | exact ⟨by (repeat (first | rw [if_pos (by omega)] | rw [if_neg (by omega)])); first | done | (rw [c_80]; rfl), rfl⟩
  refine ev_tableOut (pc := 9) 108 dX11_now_9 (by omega) (by decide) ?_
  refine ev_iconst (pc := 108) (v := (-1)) dX11_now_108 kc_m1 ?_
  refine ev_iret (pc := 109) dX11_now_109 rfl rfl (Nat.le_of_ble_eq_true rfl) (Nat.le_of_ble_eq_true rfl) ?_
  first | exact ⟨by (repeat (first | rw [if_pos (by omega)] | rw [if_neg (by omega)])); first | done | (rw [c_80]; rfl), rfl⟩
theorem c_D_tale_bad (p : pC h d cs B N P I J wn op n tr) (b9 : wB m B) {t x : Int32} (ht : iTn (bT B) t = false) : Ct X 2 mt_X11_tale [.ref d, .int t, .int x] (h, z) 0 0 (QP (.int (-1)) (h, z)) := by
  obtain ⟨po, -, pb, -, ps, -⟩ := id p
  unfold pDO at po
  have hb := pb.1
  refine mk_X11_tale (Nat.le_of_ble_eq_true rfl) (L := [.ref d, .int t, .int x, .retAddr 0]) rfl ?_
  refine ev_aload_n (pc := 0) dX11_tale_0 rfl ?_
  refine gf_X11_19 (pc := 1) rfl dX11_tale_1 (by (try dsimp only); (repeat (first | rw [up_s] | rw [up_n (by omega)])) <;> first | rfl | assumption) ?_
  refine ev_iload_n (pc := 4) dX11_tale_4 rfl ?_
  refine iv_X11_99 (pc := 5) rfl dX11_tale_5 (by (try dsimp only); (repeat (first | rw [up_s] | rw [up_n (by omega)])) <;> first | rfl | assumption) (Nat.le_of_ble_eq_true rfl) (Nat.le_of_ble_eq_true rfl) (Nat.le_of_ble_eq_true rfl) (Nat.le_of_ble_eq_true rfl) (c_isTale pb b9.1 t) (kp ?_)
  rw [ht]
  refine ev_if_ne (pc := 8) 13 dX11_tale_8 (by decide) (fun c_8 => ?_) (fun c_8 => ?_)
  · exact absurd rfl c_8
  · (try simp (disch := omega) only [i32_lti, i32_lei, i32_eqi, nI_toInt, i32z] at c_8)
    refine ev_iconst (pc := 11) (v := (-1)) dX11_tale_11 kc_m1 ?_
    refine ev_iret (pc := 12) dX11_tale_12 rfl rfl (Nat.le_of_ble_eq_true rfl) (Nat.le_of_ble_eq_true rfl) ?_
    exact ⟨rfl, rfl⟩
theorem c_D_tale (p : pC h d cs B N P I J wn op n tr) (b9 : wB m B) (w : wT N) {k : Nat} (hk : k < bT B) (x : Int32) : Ct X 2 mt_X11_tale [.ref d, .int (nI k), .int x] (h, z) 0 0 (QP (.int (aTale B N k x)) (h, z)) := by
  obtain ⟨po, -, pb, -, ps, -⟩ := id p
  unfold pDO at po
  have hb := pb.1
  have hs := ps.obj
  have pn := ps.now
  have hn := pn.1
  have h6 := b9.1
  refine mk_X11_tale (Nat.le_of_ble_eq_true rfl) (L := [.ref d, .int (nI k), .int x, .retAddr 0]) rfl ?_
  unfold aTale
  refine ev_aload_n (pc := 0) dX11_tale_0 rfl ?_
  refine gf_X11_19 (pc := 1) rfl dX11_tale_1 (by (try dsimp only); (repeat (first | rw [up_s] | rw [up_n (by omega)])) <;> first | rfl | assumption) ?_
  refine ev_iload_n (pc := 4) dX11_tale_4 rfl ?_
  refine iv_X11_99 (pc := 5) rfl dX11_tale_5 (by (try dsimp only); (repeat (first | rw [up_s] | rw [up_n (by omega)])) <;> first | rfl | assumption) (Nat.le_of_ble_eq_true rfl) (Nat.le_of_ble_eq_true rfl) (Nat.le_of_ble_eq_true rfl) (Nat.le_of_ble_eq_true rfl) (c_isTale pb b9.1 (nI k)) (kp ?_)
  rw [iTn_nI (by omega), decide_eq_true hk]
  refine ev_if_ne (pc := 8) 13 dX11_tale_8 (by decide) (fun c_8 => ?_) (fun c_8 => ?_)
  · (try simp (disch := omega) only [i32_lti, i32_lei, i32_eqi, nI_toInt, i32z] at c_8)
    refine ev_aload_n (pc := 13) dX11_tale_13 rfl ?_
    refine gf_X11_29 (pc := 14) rfl dX11_tale_14 (by (try dsimp only); (repeat (first | rw [up_s] | rw [up_n (by omega)])) <;> first | rfl | assumption) ?_
    refine gf_X11_102 (pc := 17) rfl dX11_tale_17 (by (try dsimp only); (repeat (first | rw [up_s] | rw [up_n (by omega)])) <;> first | rfl | assumption) ?_
    refine ev_astore_n (pc := 20) (L' := [_, _, _, _]) dX11_tale_20 (Nat.le_of_ble_eq_true rfl) rfl ?_
    refine ev_iload_n (pc := 21) dX11_tale_21 rfl ?_
    by_cases s22_0 : (x).toInt = 0
    · refine ev_tableIn (pc := 22) 60 dX11_tale_22 (by omega) (by omega) (by rw [s22_0]; rfl) (by decide) ?_
      refine ev_aload_n (pc := 60) dX11_tale_60 rfl ?_
      refine gf_X11_19 (pc := 61) rfl dX11_tale_61 (by (try dsimp only); (repeat (first | rw [up_s] | rw [up_n (by omega)])) <;> first | rfl | assumption) ?_
      refine ev_iload_n (pc := 64) dX11_tale_64 rfl ?_
      refine iv_X11_106 (pc := 65) rfl dX11_tale_65 (by (try dsimp only); (repeat (first | rw [up_s] | rw [up_n (by omega)])) <;> first | rfl | assumption) (Nat.le_of_ble_eq_true rfl) (Nat.le_of_ble_eq_true rfl) (Nat.le_of_ble_eq_true rfl) (Nat.le_of_ble_eq_true rfl) (c_partsOf pb b9.1 (by omega)) (kp ?_)
      rw [if_pos hk]
      refine ev_iret (pc := 68) dX11_tale_68 rfl rfl (Nat.le_of_ble_eq_true rfl) (Nat.le_of_ble_eq_true rfl) ?_
      refine ⟨?_, rfl⟩
      repeat (first | rw [if_pos (by omega)] | rw [if_neg (by omega)])
      first | done | (rw [c_89]; rfl) | (rw [if_pos c_109]) | (rw [if_neg (by rw [c_109]; decide)])
    by_cases s22_1 : (x).toInt = 1
    · refine ev_tableIn (pc := 22) 69 dX11_tale_22 (by omega) (by omega) (by rw [s22_1]; rfl) (by decide) ?_
      refine ev_aload_n (pc := 69) dX11_tale_69 rfl ?_
      refine gf_X11_19 (pc := 70) rfl dX11_tale_70 (by (try dsimp only); (repeat (first | rw [up_s] | rw [up_n (by omega)])) <;> first | rfl | assumption) ?_
      refine ev_iload_n (pc := 73) dX11_tale_73 rfl ?_
      refine iv_X11_110 (pc := 74) rfl dX11_tale_74 (by (try dsimp only); (repeat (first | rw [up_s] | rw [up_n (by omega)])) <;> first | rfl | assumption) (Nat.le_of_ble_eq_true rfl) (Nat.le_of_ble_eq_true rfl) (Nat.le_of_ble_eq_true rfl) (Nat.le_of_ble_eq_true rfl) (c_withinOf pb b9.1 (by omega)) (kp ?_)
      rw [if_pos hk]
      refine ev_iret (pc := 77) dX11_tale_77 rfl rfl (Nat.le_of_ble_eq_true rfl) (Nat.le_of_ble_eq_true rfl) ?_
      refine ⟨?_, rfl⟩
      repeat (first | rw [if_pos (by omega)] | rw [if_neg (by omega)])
      first | done | (rw [c_89]; rfl) | (rw [if_pos c_109]) | (rw [if_neg (by rw [c_109]; decide)])
    by_cases s22_2 : (x).toInt = 2
    · refine ev_tableIn (pc := 22) 78 dX11_tale_22 (by omega) (by omega) (by rw [s22_2]; rfl) (by decide) ?_
      refine ev_aload_n (pc := 78) dX11_tale_78 rfl ?_
      refine ev_iload_n (pc := 79) dX11_tale_79 rfl ?_
      refine iv_X11_113 (pc := 80) rfl dX11_tale_80 (by (try dsimp only); (repeat (first | rw [up_s] | rw [up_n (by omega)])) <;> first | rfl | assumption) (Nat.le_of_ble_eq_true rfl) (Nat.le_of_ble_eq_true rfl) (Nat.le_of_ble_eq_true rfl) (Nat.le_of_ble_eq_true rfl) (c_leftOf pn (by omega)) (kp ?_)
      refine ev_iret (pc := 83) dX11_tale_83 rfl rfl (Nat.le_of_ble_eq_true rfl) (Nat.le_of_ble_eq_true rfl) ?_
      refine ⟨?_, rfl⟩
      repeat (first | rw [if_pos (by omega)] | rw [if_neg (by omega)])
      first | done | (rw [c_89]; rfl) | (rw [if_pos c_109]) | (rw [if_neg (by rw [c_109]; decide)])
    by_cases s22_3 : (x).toInt = 3
    · refine ev_tableIn (pc := 22) 84 dX11_tale_22 (by omega) (by omega) (by rw [s22_3]; rfl) (by decide) ?_
      refine ev_aload_n (pc := 84) dX11_tale_84 rfl ?_
      refine ev_iload_n (pc := 85) dX11_tale_85 rfl ?_
      refine iv_X11_118 (pc := 86) rfl dX11_tale_86 (by (try dsimp only); (repeat (first | rw [up_s] | rw [up_n (by omega)])) <;> first | rfl | assumption) (Nat.le_of_ble_eq_true rfl) (Nat.le_of_ble_eq_true rfl) (Nat.le_of_ble_eq_true rfl) (Nat.le_of_ble_eq_true rfl) (c_isBegun pn w.2.2.1 (by omega)) (kp ?_)
      refine ev_if_eq (pc := 89) 96 dX11_tale_89 (by decide) (fun c_89 => ?_) (fun c_89 => ?_)
      · simp only [b2i_e0, Bool.not_eq_false] at c_89
        refine ev_iconst (pc := 96) (v := nI 0) dX11_tale_96 kc_0 ?_
        refine ev_iret (pc := 97) dX11_tale_97 rfl rfl (Nat.le_of_ble_eq_true rfl) (Nat.le_of_ble_eq_true rfl) ?_
        refine ⟨?_, rfl⟩
        repeat (first | rw [if_pos (by omega)] | rw [if_neg (by omega)])
        first | done | (rw [c_89]; rfl) | (rw [if_pos c_109]) | (rw [if_neg (by rw [c_109]; decide)])
      · simp only [b2i_e0, Bool.not_eq_false] at c_89
        refine ev_iconst (pc := 92) (v := nI 1) dX11_tale_92 kc_1 ?_
        refine ev_goto (pc := 93) 97 dX11_tale_93 (by decide) ?_
        refine ev_iret (pc := 97) dX11_tale_97 rfl rfl (Nat.le_of_ble_eq_true rfl) (Nat.le_of_ble_eq_true rfl) ?_
        refine ⟨?_, rfl⟩
        repeat (first | rw [if_pos (by omega)] | rw [if_neg (by omega)])
        first | done | (rw [c_89]; rfl) | (rw [if_pos c_109]) | (rw [if_neg (by rw [c_109]; decide)])
    by_cases s22_4 : (x).toInt = 4
    · refine ev_tableIn (pc := 22) 98 dX11_tale_22 (by omega) (by omega) (by rw [s22_4]; rfl) (by decide) ?_
      refine ev_aload_n (pc := 98) dX11_tale_98 rfl ?_
      refine ev_iload_n (pc := 99) dX11_tale_99 rfl ?_
      refine iv_X11_121 (pc := 100) rfl dX11_tale_100 (by (try dsimp only); (repeat (first | rw [up_s] | rw [up_n (by omega)])) <;> first | rfl | assumption) (Nat.le_of_ble_eq_true rfl) (Nat.le_of_ble_eq_true rfl) (Nat.le_of_ble_eq_true rfl) (Nat.le_of_ble_eq_true rfl) (c_placeOf pn w (by omega)) (kp ?_)
      refine ev_iret (pc := 103) dX11_tale_103 rfl rfl (Nat.le_of_ble_eq_true rfl) (Nat.le_of_ble_eq_true rfl) ?_
      exact ⟨by rw [if_neg s22_0, if_neg s22_1, if_neg s22_2, if_neg s22_3, if_pos s22_4], rfl⟩
    by_cases s22_5 : (x).toInt = 5
    · refine ev_tableIn (pc := 22) 104 dX11_tale_22 (by omega) (by omega) (by rw [s22_5]; rfl) (by decide) ?_
      refine ev_aload_n (pc := 104) dX11_tale_104 rfl ?_
      refine ev_iload_n (pc := 105) dX11_tale_105 rfl ?_
      refine iv_X11_118 (pc := 106) rfl dX11_tale_106 (by (try dsimp only); (repeat (first | rw [up_s] | rw [up_n (by omega)])) <;> first | rfl | assumption) (Nat.le_of_ble_eq_true rfl) (Nat.le_of_ble_eq_true rfl) (Nat.le_of_ble_eq_true rfl) (Nat.le_of_ble_eq_true rfl) (c_isBegun pn w.2.2.1 (by omega)) (kp ?_)
      refine ev_if_eq (pc := 109) 120 dX11_tale_109 (by decide) (fun c_109 => ?_) (fun c_109 => ?_)
      · simp only [b2i_e0, Bool.not_eq_false] at c_109
        refine ev_bipush (pc := 120) (v := (-9)) dX11_tale_120 kb_m9 ?_
        refine ev_iret (pc := 122) dX11_tale_122 rfl rfl (Nat.le_of_ble_eq_true rfl) (Nat.le_of_ble_eq_true rfl) ?_
        refine ⟨?_, rfl⟩
        repeat (first | rw [if_pos (by omega)] | rw [if_neg (by omega)])
        first | done | (rw [c_89]; rfl) | (rw [if_pos c_109]) | (rw [if_neg (by rw [c_109]; decide)])
      · simp only [b2i_e0, Bool.not_eq_false] at c_109
        refine ev_aload_n (pc := 112) dX11_tale_112 rfl ?_
        refine ev_iload_n (pc := 113) dX11_tale_113 rfl ?_
        refine iv_X11_124 (pc := 114) rfl dX11_tale_114 (by (try dsimp only); (repeat (first | rw [up_s] | rw [up_n (by omega)])) <;> first | rfl | assumption) (Nat.le_of_ble_eq_true rfl) (Nat.le_of_ble_eq_true rfl) (Nat.le_of_ble_eq_true rfl) (Nat.le_of_ble_eq_true rfl) (c_lastNightOf pn (by omega) c_109) (kp ?_)
        refine ev_goto (pc := 117) 122 dX11_tale_117 (by decide) ?_
        refine ev_iret (pc := 122) dX11_tale_122 rfl rfl (Nat.le_of_ble_eq_true rfl) (Nat.le_of_ble_eq_true rfl) ?_
        refine ⟨?_, rfl⟩
        repeat (first | rw [if_pos (by omega)] | rw [if_neg (by omega)])
        first | done | (rw [c_89]; rfl) | (rw [if_pos c_109]) | (rw [if_neg (by rw [c_109]; decide)])
    refine ev_tableOut (pc := 22) 123 dX11_tale_22 (by omega) (by decide) ?_
    refine ev_iconst (pc := 123) (v := (-1)) dX11_tale_123 kc_m1 ?_
    refine ev_iret (pc := 124) dX11_tale_124 rfl rfl (Nat.le_of_ble_eq_true rfl) (Nat.le_of_ble_eq_true rfl) ?_
    refine ⟨?_, rfl⟩
    repeat (first | rw [if_pos (by omega)] | rw [if_neg (by omega)])
    first | done | (rw [c_89]; rfl) | (rw [if_pos c_109]) | (rw [if_neg (by rw [c_109]; decide)])
  · exact absurd c_8 (by decide)
theorem c_D_count (p : pC h d cs B N P I J wn op n tr) (x : Int32) : Ct X 0 mt_X11_count [.ref d, .int x] (h, z) 0 0 (QP (.int (aCount cs B P n x)) (h, z)) := by
  obtain ⟨po, ⟨i0, af, tk, va, x1, x2, px⟩, pb, -, ps, -⟩ := id p
  unfold pDO at po
  have hb := pb.1
  have hs := ps.obj
  have hx := px.1
  refine mk_X11_count (Nat.le_of_ble_eq_true rfl) (L := [.ref d, .int x]) rfl ?_
  unfold aCount
  refine ev_iload_n (pc := 0) dX11_count_0 rfl ?_
  by_cases s1_0 : (x).toInt = 0
  · refine ev_tableIn (pc := 1) 44 dX11_count_1 (by omega) (by omega) (by rw [s1_0]; rfl) (by decide) ?_
    refine ev_aload_n (pc := 44) dX11_count_44 rfl ?_
    refine gf_X11_19 (pc := 45) rfl dX11_count_45 (by (try dsimp only); (repeat (first | rw [up_s] | rw [up_n (by omega)])) <;> first | rfl | assumption) ?_
    refine gf_X11_194 (pc := 48) rfl dX11_count_48 (by (try dsimp only); (repeat (first | rw [up_s] | rw [up_n (by omega)])) <;> first | rfl | assumption) ?_
    refine ev_iret (pc := 51) dX11_count_51 rfl rfl (Nat.le_of_ble_eq_true rfl) (Nat.le_of_ble_eq_true rfl) ?_
    exact ⟨by (repeat (first | rw [if_pos (by omega)] | rw [if_neg (by omega)])), rfl⟩
  by_cases s1_1 : (x).toInt = 1
  · refine ev_tableIn (pc := 1) 52 dX11_count_1 (by omega) (by omega) (by rw [s1_1]; rfl) (by decide) ?_
    refine ev_aload_n (pc := 52) dX11_count_52 rfl ?_
    refine gf_X11_19 (pc := 53) rfl dX11_count_53 (by (try dsimp only); (repeat (first | rw [up_s] | rw [up_n (by omega)])) <;> first | rfl | assumption) ?_
    refine gf_X11_283 (pc := 56) rfl dX11_count_56 (by (try dsimp only); (repeat (first | rw [up_s] | rw [up_n (by omega)])) <;> first | rfl | assumption) ?_
    refine ev_iret (pc := 59) dX11_count_59 rfl rfl (Nat.le_of_ble_eq_true rfl) (Nat.le_of_ble_eq_true rfl) ?_
    exact ⟨by (repeat (first | rw [if_pos (by omega)] | rw [if_neg (by omega)])), rfl⟩
  by_cases s1_2 : (x).toInt = 2
  · refine ev_tableIn (pc := 1) 60 dX11_count_1 (by omega) (by omega) (by rw [s1_2]; rfl) (by decide) ?_
    refine ev_aload_n (pc := 60) dX11_count_60 rfl ?_
    refine gf_X11_19 (pc := 61) rfl dX11_count_61 (by (try dsimp only); (repeat (first | rw [up_s] | rw [up_n (by omega)])) <;> first | rfl | assumption) ?_
    refine gf_X11_286 (pc := 64) rfl dX11_count_64 (by (try dsimp only); (repeat (first | rw [up_s] | rw [up_n (by omega)])) <;> first | rfl | assumption) ?_
    refine ev_iret (pc := 67) dX11_count_67 rfl rfl (Nat.le_of_ble_eq_true rfl) (Nat.le_of_ble_eq_true rfl) ?_
    exact ⟨by (repeat (first | rw [if_pos (by omega)] | rw [if_neg (by omega)])), rfl⟩
  by_cases s1_3 : (x).toInt = 3
  · refine ev_tableIn (pc := 1) 68 dX11_count_1 (by omega) (by omega) (by rw [s1_3]; rfl) (by decide) ?_
    refine ev_aload_n (pc := 68) dX11_count_68 rfl ?_
    refine gf_X11_19 (pc := 69) rfl dX11_count_69 (by (try dsimp only); (repeat (first | rw [up_s] | rw [up_n (by omega)])) <;> first | rfl | assumption) ?_
    refine gf_X11_289 (pc := 72) rfl dX11_count_72 (by (try dsimp only); (repeat (first | rw [up_s] | rw [up_n (by omega)])) <;> first | rfl | assumption) ?_
    refine ev_iret (pc := 75) dX11_count_75 rfl rfl (Nat.le_of_ble_eq_true rfl) (Nat.le_of_ble_eq_true rfl) ?_
    exact ⟨by (repeat (first | rw [if_pos (by omega)] | rw [if_neg (by omega)])), rfl⟩
  by_cases s1_4 : (x).toInt = 4
  · refine ev_tableIn (pc := 1) 76 dX11_count_1 (by omega) (by omega) (by rw [s1_4]; rfl) (by decide) ?_
    refine ev_aload_n (pc := 76) dX11_count_76 rfl ?_
    refine gf_X11_244 (pc := 77) rfl dX11_count_77 (by (try dsimp only); (repeat (first | rw [up_s] | rw [up_n (by omega)])) <;> first | rfl | assumption) ?_
    refine ev_iret (pc := 80) dX11_count_80 rfl rfl (Nat.le_of_ble_eq_true rfl) (Nat.le_of_ble_eq_true rfl) ?_
    exact ⟨by (repeat (first | rw [if_pos (by omega)] | rw [if_neg (by omega)])), rfl⟩
  by_cases s1_5 : (x).toInt = 5
  · refine ev_tableIn (pc := 1) 81 dX11_count_1 (by omega) (by omega) (by rw [s1_5]; rfl) (by decide) ?_
    refine ev_aload_n (pc := 81) dX11_count_81 rfl ?_
    refine gf_X11_29 (pc := 82) rfl dX11_count_82 (by (try dsimp only); (repeat (first | rw [up_s] | rw [up_n (by omega)])) <;> first | rfl | assumption) ?_
    refine gf_X11_171 (pc := 85) rfl dX11_count_85 (by (try dsimp only); (repeat (first | rw [up_s] | rw [up_n (by omega)])) <;> first | rfl | assumption) ?_
    refine ev_iret (pc := 88) dX11_count_88 rfl rfl (Nat.le_of_ble_eq_true rfl) (Nat.le_of_ble_eq_true rfl) ?_
    exact ⟨by (repeat (first | rw [if_pos (by omega)] | rw [if_neg (by omega)])), rfl⟩
  by_cases s1_6 : (x).toInt = 6
  · refine ev_tableIn (pc := 1) 89 dX11_count_1 (by omega) (by omega) (by rw [s1_6]; rfl) (by decide) ?_
    refine ev_aload_n (pc := 89) dX11_count_89 rfl ?_
    refine gf_X11_10 (pc := 90) rfl dX11_count_90 (by (try dsimp only); (repeat (first | rw [up_s] | rw [up_n (by omega)])) <;> first | rfl | assumption) ?_
    refine gf_X11_80 (pc := 93) rfl dX11_count_93 (by (try dsimp only); (repeat (first | rw [up_s] | rw [up_n (by omega)])) <;> first | rfl | assumption) ?_
    refine ev_iret (pc := 96) dX11_count_96 rfl rfl (Nat.le_of_ble_eq_true rfl) (Nat.le_of_ble_eq_true rfl) ?_
    exact ⟨by (repeat (first | rw [if_pos (by omega)] | rw [if_neg (by omega)])), rfl⟩
  refine ev_tableOut (pc := 1) 97 dX11_count_1 (by omega) (by decide) ?_
  refine ev_iconst (pc := 97) (v := (-1)) dX11_count_97 kc_m1 ?_
  refine ev_iret (pc := 98) dX11_count_98 rfl rfl (Nat.le_of_ble_eq_true rfl) (Nat.le_of_ble_eq_true rfl) ?_
  exact ⟨by (repeat (first | rw [if_pos (by omega)] | rw [if_neg (by omega)])), rfl⟩
end PUB
