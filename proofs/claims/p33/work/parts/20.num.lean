/-! NUMBERS: every int is zI of a whole number, every long yI of one; sums and products pass through, comparisons do where the numbers are in range -/
def zI (z : Int) : Int32 := Int32.ofInt z
def yI (z : Int) : Int64 := Int64.ofInt z
theorem zI_t {z : Int} (h1 : -2147483648 ≤ z) (h2 : z < 2147483648) : (zI z).toInt = z := Int32.toInt_ofInt_of_le (by omega) (by omega)
theorem yI_t {z : Int} (h1 : -9223372036854775808 ≤ z) (h2 : z < 9223372036854775808) : (yI z).toInt = z := Int64.toInt_ofInt_of_le (by omega) (by omega)
theorem zI_of (x : Int32) : ∃ z : Int, x = zI z ∧ -2147483648 ≤ z ∧ z < 2147483648 := ⟨x.toInt, (Int32.ofInt_toInt x).symm, by have := Int32.le_toInt x; omega, by have := Int32.toInt_lt x; omega⟩
theorem yI_of (x : Int64) : ∃ z : Int, x = yI z ∧ -9223372036854775808 ≤ z ∧ z < 9223372036854775808 := ⟨x.toInt, (Int64.ofInt_toInt x).symm, by have := Int64.le_toInt x; omega, by have := Int64.toInt_lt x; omega⟩
theorem z_add (a b : Int) : zI a + zI b = zI (a + b) := (Int32.ofInt_add a b).symm
theorem z_sub (a b : Int) : zI a - zI b = zI (a - b) := (Int32.ofInt_sub a b).symm
theorem z_mul (a b : Int) : zI a * zI b = zI (a * b) := (Int32.ofInt_mul a b).symm
theorem z_neg (a : Int) : -zI a = zI (-a) := (Int32.ofInt_neg a).symm
theorem y_add (a b : Int) : yI a + yI b = yI (a + b) := (Int64.ofInt_add a b).symm
theorem y_sub (a b : Int) : yI a - yI b = yI (a - b) := (Int64.ofInt_sub a b).symm
theorem y_mul (a b : Int) : yI a * yI b = yI (a * b) := (Int64.ofInt_mul a b).symm
theorem y_neg (a : Int) : -yI a = yI (-a) := (Int64.ofInt_neg a).symm
theorem z_lt {a b : Int} (h1 : -2147483648 ≤ a) (h2 : a < 2147483648) (h3 : -2147483648 ≤ b) (h4 : b < 2147483648) : (zI a < zI b) = (a < b) := propext (by rw [Int32.lt_iff_toInt_lt, zI_t h1 h2, zI_t h3 h4])
theorem z_le {a b : Int} (h1 : -2147483648 ≤ a) (h2 : a < 2147483648) (h3 : -2147483648 ≤ b) (h4 : b < 2147483648) : (zI a ≤ zI b) = (a ≤ b) := propext (by rw [Int32.le_iff_toInt_le, zI_t h1 h2, zI_t h3 h4])
theorem z_eq {a b : Int} (h1 : -2147483648 ≤ a) (h2 : a < 2147483648) (h3 : -2147483648 ≤ b) (h4 : b < 2147483648) : (zI a = zI b) = (a = b) := propext (by rw [← Int32.toInt_inj, zI_t h1 h2, zI_t h3 h4])
theorem y_lt {a b : Int} (h1 : -9223372036854775808 ≤ a) (h2 : a < 9223372036854775808) (h3 : -9223372036854775808 ≤ b) (h4 : b < 9223372036854775808) : (yI a < yI b) = (a < b) := propext (by rw [Int64.lt_iff_toInt_lt, yI_t h1 h2, yI_t h3 h4])
theorem y_le {a b : Int} (h1 : -9223372036854775808 ≤ a) (h2 : a < 9223372036854775808) (h3 : -9223372036854775808 ≤ b) (h4 : b < 9223372036854775808) : (yI a ≤ yI b) = (a ≤ b) := propext (by rw [Int64.le_iff_toInt_le, yI_t h1 h2, yI_t h3 h4])
theorem y_eq {a b : Int} (h1 : -9223372036854775808 ≤ a) (h2 : a < 9223372036854775808) (h3 : -9223372036854775808 ≤ b) (h4 : b < 9223372036854775808) : (yI a = yI b) = (a = b) := propext (by rw [← Int64.toInt_inj, yI_t h1 h2, yI_t h3 h4])
theorem z_nat {a : Int} (h1 : -2147483648 ≤ a) (h2 : a < 2147483648) : (zI a).toNatClampNeg = a.toNat := by
  show (zI a).toInt.toNat = _
  rw [zI_t h1 h2]
theorem z_toL {a : Int} (h1 : -2147483648 ≤ a) (h2 : a < 2147483648) : (zI a).toInt64 = yI a := by
  rw [← Int64.toInt_inj, Int32.toInt_toInt64, zI_t h1 h2, yI_t (by omega) (by omega)]
theorem y_toI (a : Int) : (yI a).toInt32 = zI a := Int64.toInt32_ofInt
theorem nI_z (n : Nat) : nI n = zI n := rfl
theorem z_div {a b : Int} (h1 : -2147483648 ≤ a) (h2 : a < 2147483648) (h3 : -2147483648 ≤ b) (h4 : b < 2147483648) : zI a / zI b = zI (a.tdiv b) := by
  rw [← Int32.toInt_inj, Int32.toInt_div, zI_t h1 h2, zI_t h3 h4]
  exact Int32.toInt_ofInt.symm
theorem y_div {a b : Int} (h1 : -9223372036854775808 ≤ a) (h2 : a < 9223372036854775808) (h3 : -9223372036854775808 ≤ b) (h4 : b < 9223372036854775808) : yI a / yI b = yI (a.tdiv b) := by
  rw [← Int64.toInt_inj, Int64.toInt_div, yI_t h1 h2, yI_t h3 h4]
  exact Int64.toInt_ofInt.symm
theorem letM_s {α β : Type} (x : α) (f : α → Option β) : letM x f = f x := Eq.trans rfl rfl
theorem clP_s {α β : Type} (a : α) (I : Mem) (f : α → Mem → Option β) : clP (some (a, I)) f = f a I := Eq.trans rfl rfl
theorem clM_s {α β : Type} (a : α) (f : α → Option β) : clM (some a) f = f a := Eq.trans rfl rfl
theorem st_s (I : Mem) (k j : Nat) (v : Int32) : st I k j v k j = v := by simp [st, upd]
theorem st_k {I : Mem} {k j a : Nat} {v : Int32} (h : a ≠ k) : st I k j v a = I a := by simp [st, h]
theorem st_j {I : Mem} {k j b : Nat} {v : Int32} (h : b ≠ j) : st I k j v k b = I k b := by simp [st, upd, h]
theorem st_row (I : Mem) (k j : Nat) (v : Int32) : st I k j v k = upd (I k) j v := by simp [st]
theorem l_m89910 : (-89910 : Int32) = zI (-89910) := rfl
theorem l_m999 : (-999 : Int32) = zI (-999) := rfl
theorem l_m9 : (-9 : Int32) = zI (-9) := rfl
theorem l_m4 : (-4 : Int32) = zI (-4) := rfl
theorem l_m3 : (-3 : Int32) = zI (-3) := rfl
theorem l_m2 : (-2 : Int32) = zI (-2) := rfl
theorem l_m1 : (-1 : Int32) = zI (-1) := rfl
theorem l_0 : (0 : Int32) = zI (0) := rfl
theorem l_1 : (1 : Int32) = zI (1) := rfl
theorem l_2 : (2 : Int32) = zI (2) := rfl
theorem l_3 : (3 : Int32) = zI (3) := rfl
theorem l_4 : (4 : Int32) = zI (4) := rfl
theorem l_5 : (5 : Int32) = zI (5) := rfl
theorem l_6 : (6 : Int32) = zI (6) := rfl
theorem l_7 : (7 : Int32) = zI (7) := rfl
theorem l_8 : (8 : Int32) = zI (8) := rfl
theorem l_9 : (9 : Int32) = zI (9) := rfl
theorem l_10 : (10 : Int32) = zI (10) := rfl
theorem l_11 : (11 : Int32) = zI (11) := rfl
theorem l_12 : (12 : Int32) = zI (12) := rfl
theorem l_13 : (13 : Int32) = zI (13) := rfl
theorem l_14 : (14 : Int32) = zI (14) := rfl
theorem l_18 : (18 : Int32) = zI (18) := rfl
theorem l_31 : (31 : Int32) = zI (31) := rfl
theorem l_32 : (32 : Int32) = zI (32) := rfl
theorem l_33 : (33 : Int32) = zI (33) := rfl
theorem l_43 : (43 : Int32) = zI (43) := rfl
theorem l_45 : (45 : Int32) = zI (45) := rfl
theorem l_48 : (48 : Int32) = zI (48) := rfl
theorem l_57 : (57 : Int32) = zI (57) := rfl
theorem l_64 : (64 : Int32) = zI (64) := rfl
theorem l_66 : (66 : Int32) = zI (66) := rfl
theorem l_80 : (80 : Int32) = zI (80) := rfl
theorem l_97 : (97 : Int32) = zI (97) := rfl
theorem l_100 : (100 : Int32) = zI (100) := rfl
theorem l_109 : (109 : Int32) = zI (109) := rfl
theorem l_118 : (118 : Int32) = zI (118) := rfl
theorem l_119 : (119 : Int32) = zI (119) := rfl
theorem l_200 : (200 : Int32) = zI (200) := rfl
theorem l_255 : (255 : Int32) = zI (255) := rfl
theorem l_462 : (462 : Int32) = zI (462) := rfl
theorem l_500 : (500 : Int32) = zI (500) := rfl
theorem l_676 : (676 : Int32) = zI (676) := rfl
theorem l_999 : (999 : Int32) = zI (999) := rfl
theorem l_1000 : (1000 : Int32) = zI (1000) := rfl
theorem l_1001 : (1001 : Int32) = zI (1001) := rfl
theorem l_9999 : (9999 : Int32) = zI (9999) := rfl
theorem l_10000 : (10000 : Int32) = zI (10000) := rfl
theorem l_99999 : (99999 : Int32) = zI (99999) := rfl
theorem l_100000 : (100000 : Int32) = zI (100000) := rfl
theorem l_447214 : (447214 : Int32) = zI (447214) := rfl
theorem l_1000000000 : (1000000000 : Int32) = zI (1000000000) := rfl
theorem m_m999 : (-999 : Int64) = yI (-999) := rfl
theorem m_m9 : (-9 : Int64) = yI (-9) := rfl
theorem m_0 : (0 : Int64) = yI (0) := rfl
theorem m_1 : (1 : Int64) = yI (1) := rfl
theorem m_2 : (2 : Int64) = yI (2) := rfl
theorem m_4 : (4 : Int64) = yI (4) := rfl
theorem m_9 : (9 : Int64) = yI (9) := rfl
theorem m_255 : (255 : Int64) = yI (255) := rfl
theorem m_500 : (500 : Int64) = yI (500) := rfl
theorem m_999 : (999 : Int64) = yI (999) := rfl
theorem m_9999 : (9999 : Int64) = yI (9999) := rfl
theorem m_10000 : (10000 : Int64) = yI (10000) := rfl
theorem m_99999 : (99999 : Int64) = yI (99999) := rfl
theorem m_200000000 : (200000000 : Int64) = yI (200000000) := rfl
theorem m_4294967295 : (4294967295 : Int64) = yI (4294967295) := rfl
theorem m_1442695040888963407 : (1442695040888963407 : Int64) = yI (1442695040888963407) := rfl
theorem m_6364136223846793005 : (6364136223846793005 : Int64) = yI (6364136223846793005) := rfl
theorem cmp_v {a b : Int} (h1 : -9223372036854775808 ≤ a) (h2 : a < 9223372036854775808) (h3 : -9223372036854775808 ≤ b) (h4 : b < 9223372036854775808) : lg_cmp (yI a) (yI b) = zI (if b < a then 1 else if a = b then 0 else -1) := by
  unfold lg_cmp
  simp only [gt_iff_lt, y_lt h3 h4 h1 h2, y_eq h1 h2 h3 h4]
  by_cases q1 : b < a
  · rw [if_pos q1, if_pos q1]; rfl
  · rw [if_neg q1, if_neg q1]
    by_cases q2 : a = b
    · rw [if_pos q2, if_pos q2]; rfl
    · rw [if_neg q2, if_neg q2]; rfl
theorem cmp_bd (a b : Int) : -1 ≤ (if b < a then (1 : Int) else if a = b then 0 else -1) ∧ (if b < a then (1 : Int) else if a = b then 0 else -1) ≤ 1 := by
  by_cases q1 : b < a
  · rw [if_pos q1]; omega
  · rw [if_neg q1]
    by_cases q2 : a = b
    · rw [if_pos q2]; omega
    · rw [if_neg q2]; omega
theorem cmp_lt {a b : Int} (h1 : -9223372036854775808 ≤ a) (h2 : a < 9223372036854775808) (h3 : -9223372036854775808 ≤ b) (h4 : b < 9223372036854775808) : (lg_cmp (yI a) (yI b) < zI 0) = (a < b) := by
  have hb := cmp_bd a b
  rw [cmp_v h1 h2 h3 h4, z_lt (by omega) (by omega) (by omega) (by omega)]
  apply propext
  by_cases q1 : b < a
  · rw [if_pos q1]; omega
  · rw [if_neg q1]
    by_cases q2 : a = b
    · rw [if_pos q2]; omega
    · rw [if_neg q2]; omega
theorem cmp_gt {a b : Int} (h1 : -9223372036854775808 ≤ a) (h2 : a < 9223372036854775808) (h3 : -9223372036854775808 ≤ b) (h4 : b < 9223372036854775808) : (zI 0 < lg_cmp (yI a) (yI b)) = (b < a) := by
  have hb := cmp_bd a b
  rw [cmp_v h1 h2 h3 h4, z_lt (by omega) (by omega) (by omega) (by omega)]
  apply propext
  by_cases q1 : b < a
  · rw [if_pos q1]; omega
  · rw [if_neg q1]
    by_cases q2 : a = b
    · rw [if_pos q2]; omega
    · rw [if_neg q2]; omega
theorem cmp_le {a b : Int} (h1 : -9223372036854775808 ≤ a) (h2 : a < 9223372036854775808) (h3 : -9223372036854775808 ≤ b) (h4 : b < 9223372036854775808) : (lg_cmp (yI a) (yI b) ≤ zI 0) = (a ≤ b) := by
  have hb := cmp_bd a b
  rw [cmp_v h1 h2 h3 h4, z_le (by omega) (by omega) (by omega) (by omega)]
  apply propext
  by_cases q1 : b < a
  · rw [if_pos q1]; omega
  · rw [if_neg q1]
    by_cases q2 : a = b
    · rw [if_pos q2]; omega
    · rw [if_neg q2]; omega
theorem cmp_ge {a b : Int} (h1 : -9223372036854775808 ≤ a) (h2 : a < 9223372036854775808) (h3 : -9223372036854775808 ≤ b) (h4 : b < 9223372036854775808) : (zI 0 ≤ lg_cmp (yI a) (yI b)) = (b ≤ a) := by
  have hb := cmp_bd a b
  rw [cmp_v h1 h2 h3 h4, z_le (by omega) (by omega) (by omega) (by omega)]
  apply propext
  by_cases q1 : b < a
  · rw [if_pos q1]; omega
  · rw [if_neg q1]
    by_cases q2 : a = b
    · rw [if_pos q2]; omega
    · rw [if_neg q2]; omega
