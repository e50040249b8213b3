/-! ===== DawnTales: startAnew ===== -/
theorem pRows.fr {h h' : Hp} {r : Nat} {B : Bk} {kn : Bool} (p : pRows h r B kn) (e : ∀ q : Nat, r ≤ q → q < r + 15 → h' q = h q) : pRows h' r B kn := by
  obtain ⟨size, full, lb, osz, nx, p1, ⟨rs, r1, r2⟩, t1, a1, ⟨L, l1⟩, k1, k2⟩ := p
  refine ⟨size, full, lb, osz, nx, (e r (by omega) (by omega)).trans p1, ⟨rs, (e _ (by omega) (by omega)).trans r1, r2⟩, t1.fr (fun q h1 h2 => e q (by omega) (by omega)), a1.fr (fun q h1 h2 => e q (by omega) (by omega)), ⟨L, l1.fr (fun q h1 h2 => e q (by omega) (by omega))⟩, ?_, k2⟩
  intro hk
  obtain ⟨e1, e2, q2, t2⟩ := k1 hk
  exact ⟨e1, e2, pRow.fr q2 (e _ (by omega) (by omega)), t2.fr (fun q h1 h2 => e q (by omega) (by omega))⟩
section ANEW
variable {X : Cx} {h : Hp} {z d m : Nat} {kept cnt : Int32} {B B0 : Bk} {kn : Bool}
theorem c_startAnew (pd : pDO h d kept cnt) (ps : rStand h (d + 11)) (q : pBook h (d + 3) B) (b9 : wB m B) (pr : pRows h (d + 58) B0 kn) : Ct X 4 mt_X11_startAnew [.ref d] (h, z) 0 0 (Qv (fun S' => S'.2 = z ∧ (∀ y : Nat, (y < d ∨ (d < y ∧ y < d + 11) ∨ y = d + 57 ∨ d + 59 ≤ y) → S'.1 y = h y) ∧ pDO S'.1 d 0 0 ∧ pStand S'.1 (d + 11) (startT B) [] ∧ pRows S'.1 (d + 58) B false)) := by
  have pd' := pd
  unfold pDO at pd'
  obtain ⟨b1, b2, b3, -⟩ := id b9
  obtain ⟨ix, k0, -, hs0, -⟩ := id ps
  obtain ⟨size, full, lb, osz, nx, p1, -⟩ := id pr
  unfold pRO at p1
  refine mk_X11_startAnew (Nat.le_of_ble_eq_true rfl) (L := [.ref d]) rfl ?_
  refine ev_aload_n (pc := 0) dX11_startAnew_0 rfl ?_
  refine gf_X11_29 (pc := 1) rfl dX11_startAnew_1 (by (try dsimp only); (repeat (first | rw [up_s] | rw [up_n (by omega)])) <;> first | rfl | assumption) ?_
  refine ev_aload_n (pc := 4) dX11_startAnew_4 rfl ?_
  refine gf_X11_19 (pc := 5) rfl dX11_startAnew_5 (by (try dsimp only); (repeat (first | rw [up_s] | rw [up_n (by omega)])) <;> first | rfl | assumption) ?_
  refine iv_X11_296 (pc := 8) rfl dX11_startAnew_8 (by (try dsimp only); (repeat (first | rw [up_s] | rw [up_n (by omega)])) <;> first | rfl | assumption) (Nat.le_of_ble_eq_true rfl) (Nat.le_of_ble_eq_true rfl) (Nat.le_of_ble_eq_true rfl) (Nat.le_of_ble_eq_true rfl) (c_Stand_start ps q b1 b2 b3 (by omega)) (kv (fun S' hS => ?_))
  obtain ⟨h2, z'⟩ := S'
  obtain ⟨rfl, f2, s2⟩ := hS
  have p2 := (f2 d (by omega)).trans pd'
  have r2 : pRows h2 (d + 58) B0 kn := pr.fr (fun y e1 e2 => f2 y (by omega))
  have g2 := (f2 (d + 58) (by omega)).trans p1
  refine ev_aload_n (pc := 11) dX11_startAnew_11 rfl ?_
  refine ev_iconst (pc := 12) (v := nI 0) dX11_startAnew_12 kc_0 ?_
  refine pf_X11_280 (pc := 13) rfl dX11_startAnew_13 (by (try dsimp only); (repeat (first | rw [up_s] | rw [up_n (by omega)])) <;> first | rfl | assumption) ?_
  refine ev_aload_n (pc := 16) dX11_startAnew_16 rfl ?_
  refine ev_iconst (pc := 17) (v := nI 0) dX11_startAnew_17 kc_0 ?_
  refine pf_X11_244 (pc := 18) rfl dX11_startAnew_18 (by (try dsimp only); (repeat (first | rw [up_s] | rw [up_n (by omega)])) <;> first | rfl | assumption) ?_
  refine ev_aload_n (pc := 21) dX11_startAnew_21 rfl ?_
  refine gf_X11_40 (pc := 22) rfl dX11_startAnew_22 (by (try dsimp only); (repeat (first | rw [up_s] | rw [up_n (by omega)])) <;> first | rfl | assumption) ?_
  refine iv_X11_299 (pc := 25) rfl dX11_startAnew_25 (by (try dsimp only); (repeat (first | rw [up_s] | rw [up_n (by omega)])) <;> first | rfl | assumption) (Nat.le_of_ble_eq_true rfl) (Nat.le_of_ble_eq_true rfl) (Nat.le_of_ble_eq_true rfl) (Nat.le_of_ble_eq_true rfl) (c_drop (r2.fr (fun y e1 e2 => by rw [up_n (by omega), up_n (by omega)])) B) (kv (fun S' hS => ?_))
  obtain ⟨h3, z'⟩ := S'
  obtain ⟨rfl, f3, r3⟩ := hS
  have p3 : h3 d = some (.inl (11, [.ref (d + 1), .ref (d + 3), .ref (d + 7), .ref (d + 11), .ref (d + 57), .int (nI 0), .ref (d + 58), .ref (d + 73), .ref (d + 74), .int (nI 0), .ref (d + 75)])) := (f3 d (by omega)).trans (by (try dsimp only); (repeat (first | rw [up_s] | rw [up_n (by omega)])) <;> first | rfl | assumption)
  have f23 : ∀ y : Nat, y ≠ d → y ≠ d + 58 → h3 y = h2 y := by intro y e1 e2; refine (f3 y (by omega)).trans ?_; rw [up_n (by omega), up_n (by omega)]
  refine ev_ret (pc := 28) dX11_startAnew_28 rfl (Nat.le_of_ble_eq_true rfl) (Nat.le_of_ble_eq_true rfl) ?_
  exact ⟨rfl, rfl, (fun y e => (f23 y (by omega) (by omega)).trans (f2 y (by omega))), p3, s2.fr (fun y e1 e2 => f23 y (by omega) (by omega)), r3⟩
end ANEW
