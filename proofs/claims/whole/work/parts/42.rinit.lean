/-! ===== Rows: made ===== -/
section RINIT
variable {X : Cx} {h : Hp} {z r : Nat}
theorem pTab.new {h : Hp} {r : Nat} (h1 : h (r + 2) = some (.inr (1, .inl (List.replicate 1957 0)))) (h2 : h (r + 3) = some (.inr (3, .inr (.inl (List.replicate 5871 0))))) (h3 : h (r + 4) = some (.inr (2, .inl (List.replicate 1957 0)))) : pTab h r [] bNew 0 := by
  refine ⟨List.replicate 1957 0, List.replicate 5871 0, List.replicate 1957 0, ?_, List.length_replicate, ?_, List.length_replicate, ?_, List.length_replicate, ?_, fun i w hi => absurd hi (by omega)⟩
  · rw [h1, List.map_replicate]; rfl
  · rw [h2, List.map_replicate]; rfl
  · rw [h3, List.map_replicate]; rfl
  · intro j
    left
    simp only [gN, List.getD_eq_getElem?_getD, List.getElem?_replicate]
    split <;> rfl
theorem c_Rows_init (ha : h r = some (.inl (5, [.null, .null, .null, .null, .int 0, .int 0, .int 0, .int 0, .null, .null, .null, .int 0, .int 0, .null]))) (hz : z = r + 1) : Ct X 3 mt_X5_init [.ref r] (h, z) 14 11806 (Qv (fun S' => S'.2 = r + 15 ∧ hfr h S'.1 r 15 ∧ ∃ (size full : Nat) (osz nx : Int32), pRO S'.1 r size full false 0 osz nx ∧ (∃ rs : List Nat, S'.1 (r + 1) = some (.inr (0, .inl (rs.map nI))) ∧ rs.length = 1957) ∧ pTab S'.1 r [] bNew 0 ∧ pAux S'.1 r ∧ ∃ L : Bk, pBook S'.1 (r + 11) L)) := by
  subst hz
  refine mk_X5_init (Nat.le_of_ble_eq_true rfl) (L := [.ref r]) rfl ?_
  refine ev_aload_n (pc := 0) dX5_init_0 rfl ?_
  refine ev_objInit (pc := 1) dX5_init_1 tw_178 tw_24 tw_25 (Nat.le_of_ble_eq_true rfl) (Nat.le_of_ble_eq_true rfl) ?_
  refine ev_aload_n (pc := 4) dX5_init_4 rfl ?_
  refine ev_sipush (pc := 5) (v := nI 1957) dX5_init_5 ks_1957 ?_
  refine ev_newi (pc := 8) (t := 0) (N := 1957) dX5_init_8 (Nat.le_of_ble_eq_true rfl) rfl tw_53 rfl (Nat.le_of_ble_eq_true rfl) (Nat.le_of_ble_eq_true rfl) (Nat.le_of_ble_eq_true rfl) ?_
  refine pf_X5_11 (pc := 10) rfl rfl dX5_init_10 (by (try dsimp only); (repeat (first | rw [up_s] | rw [up_n (by omega)])) <;> first | rfl | assumption) ?_
  refine ev_aload_n (pc := 13) dX5_init_13 rfl ?_
  refine ev_sipush (pc := 14) (v := nI 1957) dX5_init_14 ks_1957 ?_
  refine ev_newi (pc := 17) (t := 1) (N := 1957) dX5_init_17 (Nat.le_of_ble_eq_true rfl) rfl tw_228 rfl (Nat.le_of_ble_eq_true rfl) (Nat.le_of_ble_eq_true rfl) (Nat.le_of_ble_eq_true rfl) ?_
  refine pf_X5_15 (pc := 19) rfl rfl dX5_init_19 (by (try dsimp only); (repeat (first | rw [up_s] | rw [up_n (by omega)])) <;> first | rfl | assumption) ?_
  refine ev_aload_n (pc := 22) dX5_init_22 rfl ?_
  refine ev_sipush (pc := 23) (v := nI 5871) dX5_init_23 ks_5871 ?_
  refine ev_newl (pc := 26) (N := 5871) dX5_init_26 tw_229 rfl (Nat.le_of_ble_eq_true rfl) (Nat.le_of_ble_eq_true rfl) (Nat.le_of_ble_eq_true rfl) ?_
  refine pf_X5_19 (pc := 28) rfl rfl dX5_init_28 (by (try dsimp only); (repeat (first | rw [up_s] | rw [up_n (by omega)])) <;> first | rfl | assumption) ?_
  refine ev_aload_n (pc := 31) dX5_init_31 rfl ?_
  refine ev_sipush (pc := 32) (v := nI 1957) dX5_init_32 ks_1957 ?_
  refine ev_newi (pc := 35) (t := 2) (N := 1957) dX5_init_35 (Nat.le_of_ble_eq_true rfl) rfl tw_230 rfl (Nat.le_of_ble_eq_true rfl) (Nat.le_of_ble_eq_true rfl) (Nat.le_of_ble_eq_true rfl) ?_
  refine pf_X5_23 (pc := 37) rfl rfl dX5_init_37 (by (try dsimp only); (repeat (first | rw [up_s] | rw [up_n (by omega)])) <;> first | rfl | assumption) ?_
  refine ev_aload_n (pc := 40) dX5_init_40 rfl ?_
  refine ev_new (pc := 41) (ci := 8) (fs := [.int 0, .int 0, .int 0, .int 0, .int 0, .int 0, .int 0, .null, .null, .null]) dX5_init_41 rfl inT8 tyX8_ok tw_179 tw_114 tw_5 nd8 (Nat.le_of_ble_eq_true rfl) (Nat.le_of_ble_eq_true rfl) ?_
  refine ev_dup (pc := 44) dX5_init_44 rfl ?_
  refine iv_X5_29 (pc := 45) rfl dX5_init_45 (Nat.le_of_ble_eq_true rfl) (Nat.le_of_ble_eq_true rfl) (Nat.le_of_ble_eq_true rfl) (Nat.le_of_ble_eq_true rfl) (c_Tel_init (by (try dsimp only); (repeat (first | rw [up_s] | rw [up_n (by omega)])) <;> first | rfl | assumption) (by omega)) (kv (fun S' hS => ?_))
  obtain ⟨h2, z'⟩ := S'
  obtain ⟨rfl, f2, t2⟩ := hS
  have g0 : h2 r = some (.inl (5, [.ref (r + 1), .ref (r + 2), .ref (r + 3), .ref (r + 4), .int 0, .int 0, .int 0, .int 0, .null, .null, .null, .int 0, .int 0, .null])) := (f2 r (by omega)).trans (by (try dsimp only); (repeat (first | rw [up_s] | rw [up_n (by omega)])) <;> first | rfl | assumption)
  have g1 : h2 (r + 1) = some (.inr (0, .inl (List.replicate 1957 0))) := (f2 (r + 1) (by omega)).trans (by (try dsimp only); (repeat (first | rw [up_s] | rw [up_n (by omega)])) <;> first | rfl | assumption)
  have g2 : h2 (r + 2) = some (.inr (1, .inl (List.replicate 1957 0))) := (f2 (r + 2) (by omega)).trans (by (try dsimp only); (repeat (first | rw [up_s] | rw [up_n (by omega)])) <;> first | rfl | assumption)
  have g3 : h2 (r + 3) = some (.inr (3, .inr (.inl (List.replicate 5871 0)))) := (f2 (r + 3) (by omega)).trans (by (try dsimp only); (repeat (first | rw [up_s] | rw [up_n (by omega)])) <;> first | rfl | assumption)
  have g4 : h2 (r + 4) = some (.inr (2, .inl (List.replicate 1957 0))) := (f2 (r + 4) (by omega)).trans (by (try dsimp only); (repeat (first | rw [up_s] | rw [up_n (by omega)])) <;> first | rfl | assumption)
  have fa : ∀ y : Nat, y < r → h2 y = h y := by intro y e; refine (f2 y (by omega)).trans ?_; (try dsimp only); (repeat (first | rw [up_n (by omega)]))
  have fb : ∀ y : Nat, r + 15 ≤ y → h2 y = h y := by intro y e; refine (f2 y (by omega)).trans ?_; (try dsimp only); (repeat (first | rw [up_n (by omega)]))
  clear f2
  refine pf_X5_30 (pc := 48) rfl rfl dX5_init_48 (by (try dsimp only); (repeat (first | rw [up_s] | rw [up_n (by omega)])) <;> first | rfl | assumption) ?_
  refine ev_aload_n (pc := 51) dX5_init_51 rfl ?_
  refine ev_iconst (pc := 52) (v := nI 3) dX5_init_52 kc_3 ?_
  refine ev_newl (pc := 53) (N := 3) dX5_init_53 tw_229 rfl (Nat.le_of_ble_eq_true rfl) (Nat.le_of_ble_eq_true rfl) (Nat.le_of_ble_eq_true rfl) ?_
  refine pf_X5_34 (pc := 55) rfl rfl dX5_init_55 (by (try dsimp only); (repeat (first | rw [up_s] | rw [up_n (by omega)])) <;> first | rfl | assumption) ?_
  refine ev_aload_n (pc := 58) dX5_init_58 rfl ?_
  refine ev_bipush (pc := 59) (v := nI 6) dX5_init_59 kb_6 ?_
  refine ev_newi (pc := 61) (t := 0) (N := 6) dX5_init_61 (Nat.le_of_ble_eq_true rfl) rfl tw_53 rfl (Nat.le_of_ble_eq_true rfl) (Nat.le_of_ble_eq_true rfl) (Nat.le_of_ble_eq_true rfl) ?_
  refine pf_X5_37 (pc := 63) rfl rfl dX5_init_63 (by (try dsimp only); (repeat (first | rw [up_s] | rw [up_n (by omega)])) <;> first | rfl | assumption) ?_
  refine ev_aload_n (pc := 66) dX5_init_66 rfl ?_
  refine ev_new (pc := 67) (ci := 0) (fs := [.int 0, .null, .null, .int 0, .null, .int 0, .int 0]) dX5_init_67 rfl inT0 tyX0_ok tw_181 tw_55 tw_3 nd0 (Nat.le_of_ble_eq_true rfl) (Nat.le_of_ble_eq_true rfl) ?_
  refine ev_dup (pc := 70) dX5_init_70 rfl ?_
  refine iv_X5_42 (pc := 71) rfl dX5_init_71 (Nat.le_of_ble_eq_true rfl) (Nat.le_of_ble_eq_true rfl) (Nat.le_of_ble_eq_true rfl) (Nat.le_of_ble_eq_true rfl) (c_Book_init (by (try dsimp only); (repeat (first | rw [up_s] | rw [up_n (by omega)])) <;> first | rfl | assumption) (by omega)) (kv (fun S' hS => ?_))
  obtain ⟨h3, z'⟩ := S'
  obtain ⟨rfl, f3, b3⟩ := hS
  have k0 : h3 r = some (.inl (5, [.ref (r + 1), .ref (r + 2), .ref (r + 3), .ref (r + 4), .int 0, .int 0, .int 0, .int 0, .ref (r + 5), .ref (r + 9), .ref (r + 10), .int 0, .int 0, .null])) := (f3 r (by omega)).trans (by (try dsimp only); (repeat (first | rw [up_s] | rw [up_n (by omega)])) <;> first | rfl | assumption)
  have k1 := (f3 (r + 1) (by omega)).trans ((by (try dsimp only); (repeat (first | rw [up_n (by omega)])); exact g1 : _ = some (.inr (0, .inl (List.replicate 1957 0)))))
  have k2 := (f3 (r + 2) (by omega)).trans ((by (try dsimp only); (repeat (first | rw [up_n (by omega)])); exact g2 : _ = some (.inr (1, .inl (List.replicate 1957 0)))))
  have k3 := (f3 (r + 3) (by omega)).trans ((by (try dsimp only); (repeat (first | rw [up_n (by omega)])); exact g3 : _ = some (.inr (3, .inr (.inl (List.replicate 5871 0))))))
  have k4 := (f3 (r + 4) (by omega)).trans ((by (try dsimp only); (repeat (first | rw [up_n (by omega)])); exact g4 : _ = some (.inr (2, .inl (List.replicate 1957 0)))))
  have k9 : h3 (r + 9) = some (.inr (3, .inr (.inl (List.replicate 3 0)))) := (f3 (r + 9) (by omega)).trans (by (try dsimp only); (repeat (first | rw [up_s] | rw [up_n (by omega)])) <;> first | rfl | assumption)
  have k10 : h3 (r + 10) = some (.inr (0, .inl (List.replicate 6 0))) := (f3 (r + 10) (by omega)).trans (by (try dsimp only); (repeat (first | rw [up_s] | rw [up_n (by omega)])) <;> first | rfl | assumption)
  have kt : rTel h3 (r + 5) := t2.fr (fun y e1 e2 => (f3 y (by omega)).trans (by (try dsimp only); (repeat (first | rw [up_n (by omega)]))))
  have fc : ∀ y : Nat, (y < r ∨ r + 15 ≤ y) → h3 y = h y := fun y e => (f3 y (by omega)).trans (by (try dsimp only); (repeat (first | rw [up_n (by omega)])); rcases e with e | e; exact fa y e; exact fb y e)
  refine pf_X5_43 (pc := 74) rfl rfl dX5_init_74 (by (try dsimp only); (repeat (first | rw [up_s] | rw [up_n (by omega)])) <;> first | rfl | assumption) ?_
  refine ev_ret (pc := 77) dX5_init_77 rfl (Nat.le_of_ble_eq_true rfl) (Nat.le_of_ble_eq_true rfl) ?_
  exact ⟨rfl, rfl, (by intro y e; dsimp only; rw [up_n (by omega)]; exact fc y e), 0, 0, 0, 0, (by unfold pRO; (try dsimp only); (repeat (first | rw [up_s] | rw [up_n (by omega)])) <;> first | rfl | assumption), ⟨List.replicate 1957 0, (by dsimp only; rw [up_n (by omega), List.map_replicate]; exact k1), List.length_replicate⟩, pTab.new (by dsimp only; rw [up_n (by omega)]; exact k2) (by dsimp only; rw [up_n (by omega)]; exact k3) (by dsimp only; rw [up_n (by omega)]; exact k4), ⟨kt.fr (fun y e1 e2 => by dsimp only; rw [up_n (by omega)]), ⟨_, (by dsimp only; rw [up_n (by omega)]; exact k9), rfl⟩, ⟨List.replicate 6 0, (by dsimp only; rw [up_n (by omega), List.map_replicate]; exact k10), rfl, fun k hk => (nomatch hk)⟩⟩, ⟨bNew, b3.fr (fun y e1 e2 => by dsimp only; rw [up_n (by omega)])⟩⟩
end RINIT
