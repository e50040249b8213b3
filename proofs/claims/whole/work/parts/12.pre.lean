theorem kc_m1 : Int32.ofInt (-1) = (-1 : Int32) := by decide +kernel
theorem kc_0 : Int32.ofInt (0) = nI 0 := by decide +kernel
theorem kc_1 : Int32.ofInt (1) = nI 1 := by decide +kernel
theorem kc_2 : Int32.ofInt (2) = nI 2 := by decide +kernel
theorem kc_3 : Int32.ofInt (3) = nI 3 := by decide +kernel
theorem kc_4 : Int32.ofInt (4) = nI 4 := by decide +kernel
theorem kc_5 : Int32.ofInt (5) = nI 5 := by decide +kernel
theorem kb_m10 : (Int8.ofInt (-10)).toInt32 = (-10 : Int32) := by decide +kernel
theorem kb_m9 : (Int8.ofInt (-9)).toInt32 = (-9 : Int32) := by decide +kernel
theorem kb_m3 : (Int8.ofInt (-3)).toInt32 = (-3 : Int32) := by decide +kernel
theorem kb_m2 : (Int8.ofInt (-2)).toInt32 = (-2 : Int32) := by decide +kernel
theorem kb_6 : (Int8.ofInt (6)).toInt32 = nI 6 := by decide +kernel
theorem kb_7 : (Int8.ofInt (7)).toInt32 = nI 7 := by decide +kernel
theorem kb_8 : (Int8.ofInt (8)).toInt32 = nI 8 := by decide +kernel
theorem kb_9 : (Int8.ofInt (9)).toInt32 = nI 9 := by decide +kernel
theorem kb_10 : (Int8.ofInt (10)).toInt32 = nI 10 := by decide +kernel
theorem kb_16 : (Int8.ofInt (16)).toInt32 = nI 16 := by decide +kernel
theorem kb_22 : (Int8.ofInt (22)).toInt32 = nI 22 := by decide +kernel
theorem kb_28 : (Int8.ofInt (28)).toInt32 = nI 28 := by decide +kernel
theorem kb_29 : (Int8.ofInt (29)).toInt32 = nI 29 := by decide +kernel
theorem kb_30 : (Int8.ofInt (30)).toInt32 = nI 30 := by decide +kernel
theorem kb_31 : (Int8.ofInt (31)).toInt32 = nI 31 := by decide +kernel
theorem kb_32 : (Int8.ofInt (32)).toInt32 = nI 32 := by decide +kernel
theorem kb_48 : (Int8.ofInt (48)).toInt32 = nI 48 := by decide +kernel
theorem kb_57 : (Int8.ofInt (57)).toInt32 = nI 57 := by decide +kernel
theorem kb_59 : (Int8.ofInt (59)).toInt32 = nI 59 := by decide +kernel
theorem kb_63 : (Int8.ofInt (63)).toInt32 = nI 63 := by decide +kernel
theorem kb_97 : (Int8.ofInt (97)).toInt32 = nI 97 := by decide +kernel
theorem kb_99 : (Int8.ofInt (99)).toInt32 = nI 99 := by decide +kernel
theorem kb_100 : (Int8.ofInt (100)).toInt32 = nI 100 := by decide +kernel
theorem kb_109 : (Int8.ofInt (109)).toInt32 = nI 109 := by decide +kernel
theorem kb_110 : (Int8.ofInt (110)).toInt32 = nI 110 := by decide +kernel
theorem kb_116 : (Int8.ofInt (116)).toInt32 = nI 116 := by decide +kernel
theorem kb_122 : (Int8.ofInt (122)).toInt32 = nI 122 := by decide +kernel
theorem ks_150 : (Int16.ofInt (150)).toInt32 = nI 150 := by decide +kernel
theorem ks_200 : (Int16.ofInt (200)).toInt32 = nI 200 := by decide +kernel
theorem ks_255 : (Int16.ofInt (255)).toInt32 = nI 255 := by decide +kernel
theorem ks_290 : (Int16.ofInt (290)).toInt32 = nI 290 := by decide +kernel
theorem ks_321 : (Int16.ofInt (321)).toInt32 = nI 321 := by decide +kernel
theorem ks_642 : (Int16.ofInt (642)).toInt32 = nI 642 := by decide +kernel
theorem ks_1957 : (Int16.ofInt (1957)).toInt32 = nI 1957 := by decide +kernel
theorem ks_5871 : (Int16.ofInt (5871)).toInt32 = nI 5871 := by decide +kernel
theorem kl_0 : Int64.ofNat ((0 : Fin 2) : Nat) = 0 := by decide +kernel
theorem kl_1 : Int64.ofNat ((1 : Fin 2) : Nat) = 1 := by decide +kernel
theorem nd0 : ∀ j, j < 7 → defaultValue (tyX0 j) = vp_V [.int 0, .null, .null, .int 0, .null, .int 0, .int 0] j := fun j hj => match j, hj with
  | 0, _ => rfl
  | 1, _ => rfl
  | 2, _ => rfl
  | 3, _ => rfl
  | 4, _ => rfl
  | 5, _ => rfl
  | 6, _ => rfl
  | j + 7, h => absurd h (by omega)
theorem nd1 : ∀ j, j < 1 → defaultValue (tyX1 j) = vp_V [.long 0] j := fun j hj => match j, hj with
  | 0, _ => rfl
  | j + 1, h => absurd h (by omega)
theorem nd2 : ∀ j, j < 1 → defaultValue (tyX2 j) = vp_V [.long 0] j := fun j hj => match j, hj with
  | 0, _ => rfl
  | j + 1, h => absurd h (by omega)
theorem nd3 : ∀ j, j < 1 → defaultValue (tyX3 j) = vp_V [.long 0] j := fun j hj => match j, hj with
  | 0, _ => rfl
  | j + 1, h => absurd h (by omega)
theorem nd4 : ∀ j, j < 1 → defaultValue (tyX4 j) = vp_V [.long 0] j := fun j hj => match j, hj with
  | 0, _ => rfl
  | j + 1, h => absurd h (by omega)
theorem nd5 : ∀ j, j < 14 → defaultValue (tyX5 j) = vp_V [.null, .null, .null, .null, .int 0, .int 0, .int 0, .int 0, .null, .null, .null, .int 0, .int 0, .null] j := fun j hj => match j, hj with
  | 0, _ => rfl
  | 1, _ => rfl
  | 2, _ => rfl
  | 3, _ => rfl
  | 4, _ => rfl
  | 5, _ => rfl
  | 6, _ => rfl
  | 7, _ => rfl
  | 8, _ => rfl
  | 9, _ => rfl
  | 10, _ => rfl
  | 11, _ => rfl
  | 12, _ => rfl
  | 13, _ => rfl
  | j + 14, h => absurd h (by omega)
theorem nd6 : ∀ j, j < 3 → defaultValue (tyX6 j) = vp_V [.null, .null, .int 0] j := fun j hj => match j, hj with
  | 0, _ => rfl
  | 1, _ => rfl
  | 2, _ => rfl
  | j + 3, h => absurd h (by omega)
theorem nd7 : ∀ j, j < 1 → defaultValue (tyX7 j) = vp_V [.long 0] j := fun j hj => match j, hj with
  | 0, _ => rfl
  | j + 1, h => absurd h (by omega)
theorem nd8 : ∀ j, j < 10 → defaultValue (tyX8 j) = vp_V [.int 0, .int 0, .int 0, .int 0, .int 0, .int 0, .int 0, .null, .null, .null] j := fun j hj => match j, hj with
  | 0, _ => rfl
  | 1, _ => rfl
  | 2, _ => rfl
  | 3, _ => rfl
  | 4, _ => rfl
  | 5, _ => rfl
  | 6, _ => rfl
  | 7, _ => rfl
  | 8, _ => rfl
  | 9, _ => rfl
  | j + 10, h => absurd h (by omega)
theorem nd9 : ∀ j, j < 6 → defaultValue (tyX9 j) = vp_V [.null, .int 0, .int 0, .int 0, .int 0, .int 0] j := fun j hj => match j, hj with
  | 0, _ => rfl
  | 1, _ => rfl
  | 2, _ => rfl
  | 3, _ => rfl
  | 4, _ => rfl
  | 5, _ => rfl
  | j + 6, h => absurd h (by omega)
theorem nd10 : ∀ j, j < 1 → defaultValue (tyX10 j) = vp_V [.long 0] j := fun j hj => match j, hj with
  | 0, _ => rfl
  | j + 1, h => absurd h (by omega)
theorem nd11 : ∀ j, j < 11 → defaultValue (tyX11 j) = vp_V [.null, .null, .null, .null, .null, .int 0, .null, .null, .null, .int 0, .null] j := fun j hj => match j, hj with
  | 0, _ => rfl
  | 1, _ => rfl
  | 2, _ => rfl
  | 3, _ => rfl
  | 4, _ => rfl
  | 5, _ => rfl
  | 6, _ => rfl
  | 7, _ => rfl
  | 8, _ => rfl
  | 9, _ => rfl
  | 10, _ => rfl
  | j + 11, h => absurd h (by omega)
theorem nd12 : ∀ j, j < 37 → defaultValue (tyX12 j) = vp_V [.null, .int 0, .int 0, .int 0, .int 0, .int 0, .int 0, .int 0, .int 0, .int 0, .null, .null, .null, .int 0, .int 0, .int 0, .int 0, .null, .null, .null, .int 0, .null, .null, .int 0, .null, .int 0, .null, .int 0, .null, .null, .int 0, .int 0, .int 0, .null, .null, .long 0, .null] j := fun j hj => match j, hj with
  | 0, _ => rfl
  | 1, _ => rfl
  | 2, _ => rfl
  | 3, _ => rfl
  | 4, _ => rfl
  | 5, _ => rfl
  | 6, _ => rfl
  | 7, _ => rfl
  | 8, _ => rfl
  | 9, _ => rfl
  | 10, _ => rfl
  | 11, _ => rfl
  | 12, _ => rfl
  | 13, _ => rfl
  | 14, _ => rfl
  | 15, _ => rfl
  | 16, _ => rfl
  | 17, _ => rfl
  | 18, _ => rfl
  | 19, _ => rfl
  | 20, _ => rfl
  | 21, _ => rfl
  | 22, _ => rfl
  | 23, _ => rfl
  | 24, _ => rfl
  | 25, _ => rfl
  | 26, _ => rfl
  | 27, _ => rfl
  | 28, _ => rfl
  | 29, _ => rfl
  | 30, _ => rfl
  | 31, _ => rfl
  | 32, _ => rfl
  | 33, _ => rfl
  | 34, _ => rfl
  | 35, _ => rfl
  | 36, _ => rfl
  | j + 37, h => absurd h (by omega)
/-- the n-th of a list of numbers -/
abbrev gN (l : List Nat) (n : Nat) : Nat := l.getD n 0
theorem gm {l : List Nat} {n : Nat} (h : n < l.length) : (l.map nI)[n]? = some (nI (gN l n)) := by
  rw [List.getElem?_map, List.getElem?_eq_getElem h]
  simp [gN, List.getD_eq_getElem?_getD, List.getElem?_eq_getElem h]
theorem gs (l : List Nat) (n v : Nat) : (l.map nI).set n (nI v) = (l.set n v).map nI := (List.map_set ..).symm
def b2i (b : Bool) : Int32 := nI (cond b 1 0)
theorem b2i_t : b2i true = nI 1 := rfl
theorem b2i_f : b2i false = nI 0 := rfl
theorem nI_inj {a b : Nat} (ha : a < 2 ^ 31) (hb : b < 2 ^ 31) : nI a = nI b ↔ a = b := nI_eq ha hb
theorem b2i_e0 (b : Bool) : b2i b = 0 ↔ b = false := by cases b <;> decide
theorem b2i_n0 (b : Bool) : ¬ b2i b = 0 ↔ b = true := by cases b <;> decide
theorem b2i_z (b : Bool) : narrow .boolean (.int (b2i b)) = .int (b2i b) := by cases b <;> rfl
theorem b2i_01 (b : Bool) : b2i b = 0 ∨ b2i b = 1 := by cases b <;> simp [b2i] <;> decide
theorem nI_lt0 {a : Nat} (h : a < 2 ^ 31) : nI a < 0 ↔ False := ⟨fun q => nI_pos h q, False.elim⟩
theorem nI_ge0 {a : Nat} (h : a < 2 ^ 31) : 0 ≤ nI a ↔ True := ⟨fun _ => trivial, fun _ => nI_pos' h⟩
theorem nI_le0 {a : Nat} (h : a < 2 ^ 31) : nI a ≤ 0 ↔ a = 0 := by rw [← nI_0, nI_leI h (by omega)]; omega
theorem nI_gt0 {a : Nat} (h : a < 2 ^ 31) : 0 < nI a ↔ 0 < a := by rw [← nI_0, nI_ltI (by omega) h]
theorem nI_e0 {a : Nat} (h : a < 2 ^ 31) : nI a = 0 ↔ a = 0 := by rw [← nI_0, nI_eq h (by omega)]
theorem nI_sub1 {a : Nat} (h : 0 < a) : nI a - nI 1 = nI (a - 1) := by
  obtain ⟨b, rfl⟩ : ∃ b, a = b + 1 := ⟨a - 1, by omega⟩
  exact nI_pred b
theorem nI_sub {a b : Nat} (h : b ≤ a) : nI a - nI b = nI (a - b) := pk_sub h
theorem i32_lt {x : Int32} {n : Nat} (h : n < 2 ^ 31) : x < nI n ↔ x.toInt < n := by rw [Int32.lt_iff_toInt_lt, nI_toInt h]
theorem i32_le {x : Int32} {n : Nat} (h : n < 2 ^ 31) : nI n ≤ x ↔ (n : Int) ≤ x.toInt := by rw [Int32.le_iff_toInt_le, nI_toInt h]
theorem i32_le' {x : Int32} {n : Nat} (h : n < 2 ^ 31) : x ≤ nI n ↔ x.toInt ≤ n := by rw [Int32.le_iff_toInt_le, nI_toInt h]
theorem i32_gt {x : Int32} {n : Nat} (h : n < 2 ^ 31) : nI n < x ↔ (n : Int) < x.toInt := by rw [Int32.lt_iff_toInt_lt, nI_toInt h]
theorem i32_lt0 {x : Int32} : x < 0 ↔ x.toInt < 0 := by rw [Int32.lt_iff_toInt_lt]; rfl
theorem i32_ge0 {x : Int32} : 0 ≤ x ↔ 0 ≤ x.toInt := by rw [Int32.le_iff_toInt_le]; rfl
theorem i32_eq {x : Int32} {n : Nat} (h : n < 2 ^ 31) : x = nI n ↔ x.toInt = n := ⟨fun q => by rw [q, nI_toInt h], fun q => Int32.toInt_inj.mp (by rw [q, nI_toInt h])⟩
theorem i32_lti {x y : Int32} : x < y ↔ x.toInt < y.toInt := Int32.lt_iff_toInt_lt
theorem i32_lei {x y : Int32} : x ≤ y ↔ x.toInt ≤ y.toInt := Int32.le_iff_toInt_le
theorem i32_eqi {x y : Int32} : x = y ↔ x.toInt = y.toInt := Int32.toInt_inj.symm
theorem i32z : (0 : Int32).toInt = 0 := rfl
theorem i32m1 : (-1 : Int32).toInt = -1 := by decide +kernel
theorem i32m9 : (-9 : Int32).toInt = -9 := by decide +kernel
def hfr (h h' : Hp) (a n : Nat) : Prop := ∀ q : Nat, (q < a ∨ a + n ≤ q) → h' q = h q
theorem hfr.trans {h h1 h2 : Hp} {a n : Nat} (x : hfr h h1 a n) (y : hfr h1 h2 a n) : hfr h h2 a n := fun q hq => (y q hq).trans (x q hq)
theorem hfr.wide {h h1 : Hp} {a n b k : Nat} (x : hfr h h1 a n) (h1' : b ≤ a) (h2 : a + n ≤ b + k) : hfr h h1 b k := fun q hq => x q (by omega)
theorem hfr.rf (h : Hp) (a n : Nat) : hfr h h a n := fun _ _ => rfl
theorem qb1 {b : Bool} {S : Hs} (h : b = true) : QP (.int (b2i b)) S (some (.int (nI 1))) S := ⟨by rw [h]; rfl, rfl⟩
theorem qb0 {b : Bool} {S : Hs} (h : b = false) : QP (.int (b2i b)) S (some (.int (nI 0))) S := ⟨by rw [h]; rfl, rfl⟩
theorem i32_nat {x : Int32} {n : Nat} (h : x.toInt = n) : x = nI n := by
  have hb : x.toInt < 2 ^ 31 := x.toInt_lt
  exact (i32_eq (by omega)).mpr h
