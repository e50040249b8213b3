/-! ===== Rows: known, dropped, longer ===== -/
def nW (B : Bk) : Nat := (allW (bT B) (bT B)).length
def rW (B : Bk) (i : Nat) : List Nat := gW (allW (bT B) (bT B)) i
/-- the most dawns -/
def bestN (B : Bk) : Nat := (outW B (rW B (bIx (fun i => (outW B (rW B i)).length) (nW B)))).length
def tabOk (h : Hp) (r : Nat) (B : Bk) (size full : Nat) : Prop := size = nW B ∧ full = (preW (bT B) (bT B)).length ∧ pRow h r (allW (bT B) (bT B)) ∧ pTab h r (allW (bT B) (bT B)) B size
def pRows (h : Hp) (r : Nat) (B : Bk) (kn : Bool) : Prop := ∃ (size full : Nat) (lb osz nx : Int32), pRO h r size full kn lb osz nx ∧ (∃ rs : List Nat, h (r + 1) = some (.inr (0, .inl (rs.map nI))) ∧ rs.length = 1957) ∧ pTab h r [] B 0 ∧ pAux h r ∧ (∃ L : Bk, pBook h (r + 11) L) ∧ (kn = true → tabOk h r B size full) ∧ (lb = -9 ∨ lb = nI (bestN (bLong B 8)))
section KNOW
variable {X : Cx} {h : Hp} {z r b m : Nat} {kn : Bool} {B : Bk}
theorem c_drop (p : pRows h r B kn) (B' : Bk) : Ct X 0 mt_X5_drop [.ref r] (h, z) 0 0 (Qv (fun S' => S'.2 = z ∧ hfr h S'.1 r 1 ∧ pRows S'.1 r B' false)) := by
  obtain ⟨size, full, lb, osz, nx, p1, ⟨rs, r1, r2⟩, t1, a1, ⟨L, l1⟩, k1, k2⟩ := p
  unfold pRO at p1
  refine mk_X5_drop (Nat.le_of_ble_eq_true rfl) (L := [.ref r]) rfl ?_
  refine ev_aload_n (pc := 0) dX5_drop_0 rfl ?_
  refine ev_iconst (pc := 1) (v := nI 0) dX5_drop_1 kc_0 ?_
  refine pf_X5_112 (pc := 2) rfl dX5_drop_2 (by first | exact Or.inl rfl | exact Or.inr rfl) (by (try dsimp only); (repeat (first | rw [up_s] | rw [up_n (by omega)])) <;> first | rfl | assumption) ?_
  refine ev_aload_n (pc := 5) dX5_drop_5 rfl ?_
  refine ev_bipush (pc := 6) (v := (-9)) dX5_drop_6 kb_m9 ?_
  refine pf_X5_116 (pc := 8) rfl dX5_drop_8 (by (try dsimp only); (repeat (first | rw [up_s] | rw [up_n (by omega)])) <;> first | rfl | assumption) ?_
  refine ev_ret (pc := 11) dX5_drop_11 rfl (Nat.le_of_ble_eq_true rfl) (Nat.le_of_ble_eq_true rfl) ?_
  exact ⟨rfl, rfl, (by intro q hq; first | rfl | ((try dsimp only); (repeat (first | rw [up_n (by omega)])))), size, full, -9, osz, nx, (by unfold pRO; (try dsimp only); (repeat (first | rw [up_s] | rw [up_n (by omega)])) <;> first | rfl | assumption), ⟨rs, (by (try dsimp only); (repeat (first | rw [up_s] | rw [up_n (by omega)])) <;> first | rfl | assumption), r2⟩, (t1.fr (fun q h1 h2 => by dsimp only; rw [up_n (by omega), up_n (by omega)])).zero _ _, a1.fr (fun q h1 h2 => by dsimp only; rw [up_n (by omega), up_n (by omega)]), ⟨L, l1.fr (fun q h1 h2 => by dsimp only; rw [up_n (by omega), up_n (by omega)])⟩, (fun q => by cases q), Or.inl rfl⟩
theorem c_know (p : pRows h r B kn) (b9 : wB m B) (hm : m < 100) (q : pBook h b B) (d : b + 4 ≤ r ∨ r + 15 ≤ b) : Ct X 5 mt_X5_know [.ref r, .ref b] (h, z) 0 0 (Qv (fun S' => S'.2 = z ∧ hfr h S'.1 r 11 ∧ pRows S'.1 r B true)) := by
  obtain ⟨size, full, lb, osz, nx, p1, ⟨rs, r1, r2⟩, t1, a1, ⟨L, l1⟩, k1, k2⟩ := id p
  have p1' := p1
  unfold pRO at p1'
  refine mk_X5_know (Nat.le_of_ble_eq_true rfl) (L := [.ref r, .ref b]) rfl ?_
  have go : ∀ (h2 : Hp), pAll2 h h2 r kn lb B (allW (bT B) (bT B)).length → ∃ (size full : Nat) (osz nx : Int32), pRO h2 r size full kn lb osz nx ∧ tabOk h2 r B size full ∧ pAux h2 r := by
    intro h2 P
    obtain ⟨f2, ⟨o2, x2, p2⟩, q2, t2, a2⟩ := P
    exact ⟨_, _, o2, x2, p2, ⟨rfl, rfl, q2, t2⟩, a2⟩
  refine ev_aload_n (pc := 0) dX5_know_0 rfl ?_
  refine gf_X5_112 (pc := 1) rfl dX5_know_1 (by (try dsimp only); (repeat (first | rw [up_s] | rw [up_n (by omega)])) <;> first | rfl | assumption) ?_
  refine ev_if_ne (pc := 4) 17 dX5_know_4 (by decide) (fun c_4 => ?_) (fun c_4 => ?_)
  · simp only [b2i_e0, Bool.not_eq_false] at c_4
    refine ev_ret (pc := 17) dX5_know_17 rfl (Nat.le_of_ble_eq_true rfl) (Nat.le_of_ble_eq_true rfl) ?_
    first
    | exact ⟨rfl, rfl, (by intro y e; dsimp only; rw [up_n (by omega)]; exact f2 y e), s2, u2, lb, o2, x2, (by unfold pRO; (try dsimp only); (repeat (first | rw [up_s] | rw [up_n (by omega)])) <;> first | rfl | assumption), ⟨rs3, (by (try dsimp only); (repeat (first | rw [up_s] | rw [up_n (by omega)])) <;> first | rfl | assumption), g2⟩, (t2.fr (fun q h1 h2 => by dsimp only; rw [up_n (by omega)])).zero _ _, a2.fr (fun q h1 h2 => by dsimp only; rw [up_n (by omega)]), ⟨L, l1.fr (fun q h1 h2 => by dsimp only; rw [up_n (by omega)]; exact f2 q (by omega))⟩, fun _ => ⟨e1, e2, pRow.fr q2 (by dsimp only; rw [up_n (by omega)]), t2.fr (fun q h1 h2 => by dsimp only; rw [up_n (by omega)])⟩, k2⟩
    | exact ⟨rfl, rfl, hfr.rf _ _ _, c_4 ▸ p⟩
  · simp only [b2i_e0, Bool.not_eq_false] at c_4
    refine ev_aload_n (pc := 7) dX5_know_7 rfl ?_
    refine ev_aload_n (pc := 8) dX5_know_8 rfl ?_
    refine iv_X5_119 (pc := 9) rfl dX5_know_9 (by (try dsimp only); (repeat (first | rw [up_s] | rw [up_n (by omega)])) <;> first | rfl | assumption) (Nat.le_of_ble_eq_true rfl) (Nat.le_of_ble_eq_true rfl) (Nat.le_of_ble_eq_true rfl) (Nat.le_of_ble_eq_true rfl) (c_walkAll b9 hm q (by omega) p1 ⟨rs, r1, r2⟩ t1 a1) (kv (fun S' hS => ?_))
    obtain ⟨h2, z'⟩ := S'
    obtain ⟨rfl, P⟩ := hS
    obtain ⟨s2, u2, o2, x2, p2, ⟨e1, e2, q2, t2⟩, a2⟩ := go h2 P
    have f2 := P.1
    unfold pRO at p2
    obtain ⟨rs3, g1, g2, -⟩ := id q2
    refine ev_aload_n (pc := 12) dX5_know_12 rfl ?_
    refine ev_iconst (pc := 13) (v := nI 1) dX5_know_13 kc_1 ?_
    refine pf_X5_112 (pc := 14) rfl dX5_know_14 (by first | exact Or.inl rfl | exact Or.inr rfl) (by (try dsimp only); (repeat (first | rw [up_s] | rw [up_n (by omega)])) <;> first | rfl | assumption) ?_
    refine ev_ret (pc := 17) dX5_know_17 rfl (Nat.le_of_ble_eq_true rfl) (Nat.le_of_ble_eq_true rfl) ?_
    first
    | exact ⟨rfl, rfl, (by intro y e; dsimp only; rw [up_n (by omega)]; exact f2 y e), s2, u2, lb, o2, x2, (by unfold pRO; (try dsimp only); (repeat (first | rw [up_s] | rw [up_n (by omega)])) <;> first | rfl | assumption), ⟨rs3, (by (try dsimp only); (repeat (first | rw [up_s] | rw [up_n (by omega)])) <;> first | rfl | assumption), g2⟩, (t2.fr (fun q h1 h2 => by dsimp only; rw [up_n (by omega)])).zero _ _, a2.fr (fun q h1 h2 => by dsimp only; rw [up_n (by omega)]), ⟨L, l1.fr (fun q h1 h2 => by dsimp only; rw [up_n (by omega)]; exact f2 q (by omega))⟩, fun _ => ⟨e1, e2, pRow.fr q2 (by dsimp only; rw [up_n (by omega)]), t2.fr (fun q h1 h2 => by dsimp only; rw [up_n (by omega)])⟩, k2⟩
    | exact ⟨rfl, rfl, hfr.rf _ _ _, c_4 ▸ p⟩
end KNOW
