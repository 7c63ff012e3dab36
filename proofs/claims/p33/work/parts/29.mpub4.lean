/-! the reference's scripts and random speeds -/
theorem rnd_nat (x : Int64) : ∃ w : Nat, w < 2147483648 ∧ ((x.toUInt64 >>> (((33 : Int32)).toInt64.toUInt64 &&& Int64.toUInt64 63)).toInt64.toInt32) = zI (w : Int) := by
  have hs : (((33 : Int32)).toInt64.toUInt64 &&& Int64.toUInt64 63) = 33 := by decide +kernel
  rw [hs]
  have hn : (x.toUInt64 >>> 33).toNat = x.toUInt64.toNat / 8589934592 := by
    rw [UInt64.toNat_shiftRight]
    show x.toUInt64.toNat >>> 33 = _
    rw [Nat.shiftRight_eq_div_pow]
  have hlt : x.toUInt64.toNat < 18446744073709551616 := x.toUInt64.toNat_lt
  generalize x.toUInt64 >>> 33 = y at *
  have hy : y.toNat < 2147483648 := by omega
  refine ⟨y.toNat, hy, ?_⟩
  have e : y.toInt64 = yI (y.toNat : Int) := by
    refine Int64.toBitVec_inj.mp ?_
    rw [yN_bv]
    refine BitVec.eq_of_toNat_eq ?_
    rw [BitVec.toNat_ofNat, Nat.mod_eq_of_lt (by omega)]
    rfl
  rw [e, y_toI]
theorem rnd_v (x : Int64) : ∃ w : Nat, w < 2147483648 ∧ rndV x = w ∧ ((x.toUInt64 >>> (((33 : Int32)).toInt64.toUInt64 &&& Int64.toUInt64 63)).toInt64.toInt32) = zI (w : Int) := by
  obtain ⟨w, h1, h2⟩ := rnd_nat x
  refine ⟨w, h1, ?_, h2⟩
  unfold rndV
  rw [h2, zI_t (by omega) (by omega)]
theorem rem_lit {w : Nat} (d : Nat) (hw : w < 2147483648) (hd : 0 < d) (hd2 : d < 100000) : zI (w : Int) - zI (w : Int) / zI (d : Int) * zI (d : Int) = zI ((w % d : Nat) : Int) := by
  rw [z_divN hw (by omega), z_mul, z_sub]
  congr 1
  have := Nat.div_add_mod w d
  rw [Nat.mul_comm] at this
  have e : ((w / d : Nat) : Int) * (d : Int) = ((w / d * d : Nat) : Int) := by rw [Int.natCast_mul]
  rw [e]
  omega
theorem row_setV {I I1 : Mem} {k w : Nat} {s : Sg} (hR : RowR (I k) s) (h1 : I1 k = st I k 1 (zI (w : Int)) k) : RowR (I1 k) (setV s w) := by
  obtain ⟨a, v, x, y, t, n, d, m, i, l⟩ := s
  obtain ⟨r0, r1, r2, r3, r4, r5, r6, r7, r8, r9⟩ := hR
  rw [h1]
  refine ⟨by rw [st_j (by omega)]; exact r0, by rw [st_s], by rw [st_j (by omega)]; exact r2, by rw [st_j (by omega)]; exact r3, by rw [st_j (by omega)]; exact r4, by rw [st_j (by omega)]; exact r5, by rw [st_j (by omega)]; exact r6, by rw [st_j (by omega)]; exact r7, by rw [st_j (by omega)]; exact r8, fun j hj => ?_⟩
  rw [st_j (by omega), st_j (by omega), st_j (by omega)]
  exact r9 j hj
theorem nS_setV (s : Sg) (w : Nat) : nS (setV s w) = nS s := by
  obtain ⟨a, v, x, y, t, n, d, m, i, l⟩ := s
  rfl
theorem sT_setV (s : Sg) (w : Nat) : sT (setV s w) = sT s := by
  obtain ⟨a, v, x, y, t, n, d, m, i, l⟩ := s
  rfl
/-! scripts -/
theorem x_eq {x : Int32} {w : Nat} (hw : w < 1000) : (x = zI (w : Int)) = (x.toInt = (w : Int)) := by
  obtain ⟨a, rfl, h1, h2⟩ := zI_of x
  rw [z_eq h1 h2 (by omega) (by omega), zI_t h1 h2]
