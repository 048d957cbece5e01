/-! ===== Long.bitCount; ints and masks ===== -/
def cnt : Nat → Nat → Nat
  | _, 0 => 0
  | v, n + 1 => v % 2 + cnt (v / 2) n
theorem cnt_8 (v n : Nat) : cnt v (n + 8) = cnt (v % 256) 8 + cnt (v / 256) n := by
  have e : v / 2 / 2 / 2 / 2 / 2 / 2 / 2 / 2 = v / 256 := by omega
  simp only [cnt, e]
  omega
theorem and_sp (a b : Nat) : a &&& b = (a % 256 &&& b % 256) + 256 * (a / 256 &&& b / 256) := by
  have h1 := Nat.and_mod_two_pow (a := a) (b := b) (n := 8)
  have h2 := Nat.and_div_two_pow (a := a) (b := b) (n := 8)
  have h3 := Nat.mod_add_div (a &&& b) 256
  have e : (2 : Nat) ^ 8 = 256 := by decide
  rw [e] at h1 h2
  rw [← h1, ← h2]; omega
def mk (c : Nat) : Nat → Nat
  | 0 => 0
  | n + 1 => c + 256 * mk c n
theorem mk_and {c : Nat} (hc : c < 256) (a n : Nat) : a &&& mk c (n + 1) = (a % 256 &&& c) + 256 * (a / 256 &&& mk c n) := by
  rw [and_sp, mk, show (c + 256 * mk c n) % 256 = c by omega, show (c + 256 * mk c n) / 256 = mk c n by omega]
def f1 (n v : Nat) : Nat := v - (v / 2 &&& mk 85 n)
def f2 (n v : Nat) : Nat := (v &&& mk 51 n) + (v / 4 &&& mk 51 n)
def f3 (n v : Nat) : Nat := (v + v / 16) &&& mk 15 n
def g1 (u : Nat) : Nat := u - (u / 2 &&& 85)
def g2 (u : Nat) : Nat := (u &&& 51) + (u / 4 &&& 51)
theorem d1 : ∀ u : Fin 512, (u.val / 2 &&& 85) = (u.val % 256 / 2 &&& 85) ∧ (u.val % 256 / 2 &&& 85) ≤ u.val % 256 := by decide +kernel
theorem d2 : ∀ u : Fin 1024, (u.val / 4 &&& 51) = (u.val % 256 / 4 &&& 51) := by decide +kernel
theorem d3 : ∀ u : Fin 256, g1 u.val < 256 ∧ g2 (g1 u.val) < 69 ∧ g2 (g1 u.val) % 16 ≤ 4 ∧ (g2 (g1 u.val) + g2 (g1 u.val) / 16) % 16 = cnt u.val 8 ∧ cnt u.val 8 ≤ 8 := by decide +kernel
theorem d3v (v : Nat) : g1 (v % 256) < 256 ∧ g2 (g1 (v % 256)) < 69 ∧ g2 (g1 (v % 256)) % 16 ≤ 4 ∧ (g2 (g1 (v % 256)) + g2 (g1 (v % 256)) / 16) % 16 = cnt (v % 256) 8 ∧ cnt (v % 256) 8 ≤ 8 := d3 ⟨v % 256, by omega⟩
theorem f1_s (n v : Nat) : f1 (n + 1) v = g1 (v % 256) + 256 * f1 n (v / 256) := by
  have a := d1 ⟨v % 512, by omega⟩
  simp only [show v % 512 / 2 = v / 2 % 256 by omega, show v % 512 % 256 = v % 256 by omega] at a
  have b : (v / 256 / 2 &&& mk 85 n) ≤ v / 256 / 2 := Nat.and_le_left
  rw [f1, f1, g1, mk_and (by omega), a.1, show v / 2 / 256 = v / 256 / 2 by omega]
  omega
theorem f2_s (n v : Nat) : f2 (n + 1) v = g2 (v % 256) + 256 * f2 n (v / 256) := by
  have a := d2 ⟨v % 1024, by omega⟩
  simp only [show v % 1024 / 4 = v / 4 % 256 by omega, show v % 1024 % 256 = v % 256 by omega] at a
  rw [f2, f2, g2, mk_and (by omega), mk_and (by omega), a, show v / 4 / 256 = v / 256 / 4 by omega]
  omega
def f21 (n v : Nat) : Nat := f2 n (f1 n v)
theorem f21_s (n v : Nat) : f21 (n + 1) v = g2 (g1 (v % 256)) + 256 * f21 n (v / 256) := by
  have a := d3v v
  have b : f1 (n + 1) v % 256 = g1 (v % 256) := by rw [f1_s]; omega
  have c : f1 (n + 1) v / 256 = f1 n (v / 256) := by rw [f1_s]; omega
  rw [f21, f2_s, b, c, f21]
theorem f21_16 (n v : Nat) : f21 n v % 16 ≤ 4 := by
  cases n with
  | zero => simp [f21, f2, mk]
  | succ n =>
    have a := d3v v
    rw [f21_s]
    have := a.2.2.1
    omega
theorem f3_s (n v : Nat) : f3 (n + 1) (f21 (n + 1) v) = cnt (v % 256) 8 + 256 * f3 n (f21 n (v / 256)) := by
  have a := d3v v
  have b := f21_16 n (v / 256)
  rw [f21_s, f3, f3, mk_and (by omega)]
  generalize f21 n (v / 256) = r at b ⊢
  have a4 := a.2.2.2.1
  have a2 := a.2.1
  have e15 : ∀ z : Nat, (z &&& 15) = z % 16 := fun z => Nat.and_two_pow_sub_one_eq_mod z 4
  rw [e15]
  generalize g2 (g1 (v % 256)) = w at a2 a4 ⊢
  rw [show (w + 256 * r + (w + 256 * r) / 16) / 256 = r + r / 16 by omega]
  omega
theorem bc_nat (v : Nat) : f3 8 (f21 8 v) = cnt (v % 256) 8 + 256 * (cnt (v / 256 % 256) 8 + 256 * (cnt (v / 256 / 256 % 256) 8 + 256 * (cnt (v / 256 / 256 / 256 % 256) 8 + 256 * (cnt (v / 256 / 256 / 256 / 256 % 256) 8 + 256 * (cnt (v / 256 / 256 / 256 / 256 / 256 % 256) 8 + 256 * (cnt (v / 256 / 256 / 256 / 256 / 256 / 256 % 256) 8 + 256 * cnt (v / 256 / 256 / 256 / 256 / 256 / 256 / 256 % 256) 8)))))) := by
  rw [f3_s, f3_s, f3_s, f3_s, f3_s, f3_s, f3_s, f3_s]
  have : ∀ u, f3 0 u = 0 := fun u => by simp [f3, mk]
  rw [this, Nat.mul_zero, Nat.add_zero]
theorem cnt_64 (v : Nat) : cnt v 64 = cnt (v % 256) 8 + (cnt (v / 256 % 256) 8 + (cnt (v / 256 / 256 % 256) 8 + (cnt (v / 256 / 256 / 256 % 256) 8 + (cnt (v / 256 / 256 / 256 / 256 % 256) 8 + (cnt (v / 256 / 256 / 256 / 256 / 256 % 256) 8 + (cnt (v / 256 / 256 / 256 / 256 / 256 / 256 % 256) 8 + cnt (v / 256 / 256 / 256 / 256 / 256 / 256 / 256 % 256) 8)))))) := by
  have e1 : cnt v 64 = _ := cnt_8 v 56
  have e2 : cnt (v / 256) 56 = _ := cnt_8 (v / 256) 48
  have e3 : cnt (v / 256 / 256) 48 = _ := cnt_8 (v / 256 / 256) 40
  have e4 : cnt (v / 256 / 256 / 256) 40 = _ := cnt_8 (v / 256 / 256 / 256) 32
  have e5 : cnt (v / 256 / 256 / 256 / 256) 32 = _ := cnt_8 (v / 256 / 256 / 256 / 256) 24
  have e6 : cnt (v / 256 / 256 / 256 / 256 / 256) 24 = _ := cnt_8 (v / 256 / 256 / 256 / 256 / 256) 16
  have e7 : cnt (v / 256 / 256 / 256 / 256 / 256 / 256) 16 = _ := cnt_8 (v / 256 / 256 / 256 / 256 / 256 / 256) 8
  have e8 : cnt (v / 256 / 256 / 256 / 256 / 256 / 256 / 256) 8 = _ := cnt_8 (v / 256 / 256 / 256 / 256 / 256 / 256 / 256) 0
  have e9 : cnt (v / 256 / 256 / 256 / 256 / 256 / 256 / 256 / 256) 0 = 0 := rfl
  rw [e1, e2, e3, e4, e5, e6, e7]
  rw [e9, Nat.add_zero] at e8
  rw [e8]
theorem dv8 (c r : Nat) (h : c < 256) : (c + 256 * r) / 256 = r := by omega
theorem dv16 (c e r : Nat) (h : c < 256) (k : e < 256) : (c + 256 * (e + 256 * r)) / 65536 = r := by omega
theorem dv32 (c e f g r : Nat) (h : c < 256) (k : e < 256) (l : f < 256) (m : g < 256) : (c + 256 * (e + 256 * (f + 256 * (g + 256 * r)))) / 4294967296 = r := by omega
theorem md7 (c r : Nat) (h : c ≤ 64) : (c + 256 * r) % 128 = c := by omega
theorem cnt8_le (u : Nat) : cnt (u % 256) 8 ≤ 8 := (d3 ⟨u % 256, by omega⟩).2.2.2.2
/-- the word that bitCount comes to ahead of its last mask -/
def bcw (b : BitVec 64) : BitVec 64 :=
  let a1 := b - (b >>> 1 &&& 6148914691236517205#64)
  let a2 := (a1 &&& 3689348814741910323#64) + (a1 >>> 2 &&& 3689348814741910323#64)
  let a3 := (a2 + a2 >>> 4) &&& 1085102592571150095#64
  let a4 := a3 + a3 >>> 8
  let a5 := a4 + a4 >>> 16
  a5 + a5 >>> 32
theorem bw_lt (c0 c1 c2 c3 c4 c5 c6 c7 : Nat) (k0 : c0 ≤ 255) (k1 : c1 ≤ 255) (k2 : c2 ≤ 255) (k3 : c3 ≤ 255) (k4 : c4 ≤ 255) (k5 : c5 ≤ 255) (k6 : c6 ≤ 255) (k7 : c7 ≤ 255) : c0 + 256 * (c1 + 256 * (c2 + 256 * (c3 + 256 * (c4 + 256 * (c5 + 256 * (c6 + 256 * c7)))))) < 2 ^ 64 := by
  have a6 : c6 + 256 * c7 < 65536 := by omega
  have a5 : c5 + 256 * (c6 + 256 * c7) < 16777216 := by omega
  generalize c6 + 256 * c7 = b6 at *
  have a4 : c4 + 256 * (c5 + 256 * b6) < 4294967296 := by omega
  generalize c5 + 256 * b6 = b5 at *
  have a3 : c3 + 256 * (c4 + 256 * b5) < 1099511627776 := by omega
  generalize c4 + 256 * b5 = b4 at *
  have a2 : c2 + 256 * (c3 + 256 * b4) < 281474976710656 := by omega
  generalize c3 + 256 * b4 = b3 at *
  have a1 : c1 + 256 * (c2 + 256 * b3) < 72057594037927936 := by omega
  generalize c2 + 256 * b3 = b2 at *
  have e : (2 : Nat) ^ 64 = 18446744073709551616 := by decide
  rw [e]
  generalize c1 + 256 * b2 = b1 at *
  omega
theorem bw_fin {c0 c1 c2 c3 c4 c5 c6 c7 : Nat} (a3 : BitVec 64) (k0 : c0 ≤ 8) (k1 : c1 ≤ 8) (k2 : c2 ≤ 8) (k3 : c3 ≤ 8) (k4 : c4 ≤ 8) (k5 : c5 ≤ 8) (k6 : c6 ≤ 8) (k7 : c7 ≤ 8) : a3.toNat = c0 + 256 * (c1 + 256 * (c2 + 256 * (c3 + 256 * (c4 + 256 * (c5 + 256 * (c6 + 256 * c7)))))) → ((a3 + a3 >>> 8 + (a3 + a3 >>> 8) >>> 16) + (a3 + a3 >>> 8 + (a3 + a3 >>> 8) >>> 16) >>> 32).toNat % 128 = c0 + (c1 + (c2 + (c3 + (c4 + (c5 + (c6 + c7)))))) := by
  have p8 : (2 : Nat) ^ 8 = 256 := by decide
  have p16 : (2 : Nat) ^ 16 = 65536 := by decide
  have p32 : (2 : Nat) ^ 32 = 4294967296 := by decide
  have ad : ∀ x y u w : Nat, (x + 256 * y) + (u + 256 * w) = (x + u) + 256 * (y + w) := by intros; omega
  have rot : ∀ a b c : Nat, a + b + c = a + c + b := by intros; omega
  have v1 : ∀ r, (c0 + 256 * r) / 256 = r := fun r => dv8 c0 r (by omega)
  have v2 : ∀ r, (c0 + c1 + 256 * (c1 + c2 + 256 * r)) / 65536 = r := fun r => dv16 (c0 + c1) (c1 + c2) r (by omega) (by omega)
  have v3 : ∀ r, (c0 + c1 + (c2 + c3) + 256 * (c1 + c2 + (c3 + c4) + 256 * (c2 + c3 + (c4 + c5) + 256 * (c3 + c4 + (c5 + c6) + 256 * r)))) / 4294967296 = r := fun r => dv32 _ _ _ _ r (by omega) (by omega) (by omega) (by omega)
  have v4 : ∀ r, (c0 + c1 + (c2 + c3) + (c4 + c5 + (c6 + c7)) + 256 * r) % 128 = c0 + (c1 + (c2 + (c3 + (c4 + (c5 + (c6 + c7)))))) := fun r => (md7 _ r (by omega)).trans (by omega)
  obtain ⟨m1, m2, m3⟩ := And.intro (bw_lt (c0 + c1) (c1 + c2) (c2 + c3) (c3 + c4) (c4 + c5) (c5 + c6) (c6 + c7) c7 (by omega) (by omega) (by omega) (by omega) (by omega) (by omega) (by omega) (by omega)) (And.intro (bw_lt (c0 + c1 + (c2 + c3)) (c1 + c2 + (c3 + c4)) (c2 + c3 + (c4 + c5)) (c3 + c4 + (c5 + c6)) (c4 + c5 + (c6 + c7)) (c5 + c6 + c7) (c6 + c7) c7 (by omega) (by omega) (by omega) (by omega) (by omega) (by omega) (by omega) (by omega)) (bw_lt (c0 + c1 + (c2 + c3) + (c4 + c5 + (c6 + c7))) (c1 + c2 + (c3 + c4) + (c5 + c6 + c7)) (c2 + c3 + (c4 + c5) + (c6 + c7)) (c3 + c4 + (c5 + c6) + c7) (c4 + c5 + (c6 + c7)) (c5 + c6 + c7) (c6 + c7) c7 (by omega) (by omega) (by omega) (by omega) (by omega) (by omega) (by omega) (by omega)))
  clear k0 k1 k2 k3 k4 k5 k6 k7
  intro e4
  have e5 : (a3 + a3 >>> 8).toNat = (c0 + c1) + 256 * ((c1 + c2) + 256 * ((c2 + c3) + 256 * ((c3 + c4) + 256 * ((c4 + c5) + 256 * ((c5 + c6) + 256 * ((c6 + c7) + 256 * c7)))))) := by
    rw [BitVec.toNat_add, BitVec.toNat_ushiftRight, Nat.shiftRight_eq_div_pow, e4, p8, v1, ad, ad, ad, ad, ad, ad, rot c6 (256 * c7) c7]
    exact Nat.mod_eq_of_lt m1
  generalize a3 + a3 >>> 8 = a4 at e5 ⊢
  have e6 : (a4 + a4 >>> 16).toNat = (c0 + c1 + (c2 + c3)) + 256 * ((c1 + c2 + (c3 + c4)) + 256 * ((c2 + c3 + (c4 + c5)) + 256 * ((c3 + c4 + (c5 + c6)) + 256 * ((c4 + c5 + (c6 + c7)) + 256 * ((c5 + c6 + c7) + 256 * ((c6 + c7) + 256 * c7)))))) := by
    rw [BitVec.toNat_add, BitVec.toNat_ushiftRight, Nat.shiftRight_eq_div_pow, e5, p16, v2, ad, ad, ad, ad, ad, rot (c5 + c6) _ c7]
    exact Nat.mod_eq_of_lt m2
  generalize a4 + a4 >>> 16 = a5 at e6 ⊢
  rw [BitVec.toNat_add, BitVec.toNat_ushiftRight, Nat.shiftRight_eq_div_pow, e6, p32, v3, ad, ad, ad, rot (c3 + c4 + (c5 + c6)) _ c7, Nat.mod_eq_of_lt m3, v4]
theorem bcw_nat (b : BitVec 64) : (bcw b).toNat % 128 = cnt b.toNat 64 := by
  have hb := b.isLt
  have m5 : mk 85 8 = 6148914691236517205 := by decide +kernel
  have m3 : mk 51 8 = 3689348814741910323 := by decide +kernel
  have m0 : mk 15 8 = 1085102592571150095 := by decide +kernel
  have e1 : (b - (b >>> 1 &&& 6148914691236517205#64)).toNat = f1 8 b.toNat := by
    have le : (b.toNat / 2 &&& 6148914691236517205) ≤ b.toNat / 2 := Nat.and_le_left
    rw [BitVec.toNat_sub, BitVec.toNat_and, BitVec.toNat_ushiftRight, Nat.shiftRight_eq_div_pow, f1, m5]
    simp only [BitVec.toNat_ofNat, Nat.reducePow, Nat.reduceMod, Nat.pow_one] at hb ⊢
    generalize (b.toNat / 2 &&& 6148914691236517205) = t at le ⊢
    clear m5 m3 m0
    omega
  have l1 : f1 8 b.toNat ≤ b.toNat := by unfold f1; omega
  have e2 : ((b - (b >>> 1 &&& 6148914691236517205#64) &&& 3689348814741910323#64) + ((b - (b >>> 1 &&& 6148914691236517205#64)) >>> 2 &&& 3689348814741910323#64)).toNat = f21 8 b.toNat := by
    have le1 : (f1 8 b.toNat &&& 3689348814741910323) ≤ 3689348814741910323 := Nat.and_le_right
    have le2 : (f1 8 b.toNat / 4 &&& 3689348814741910323) ≤ 3689348814741910323 := Nat.and_le_right
    rw [BitVec.toNat_add, BitVec.toNat_and, BitVec.toNat_and, BitVec.toNat_ushiftRight, Nat.shiftRight_eq_div_pow, e1, f21, f2, m3]
    simp only [BitVec.toNat_ofNat, Nat.reducePow, Nat.reduceMod]
    generalize (f1 8 b.toNat &&& 3689348814741910323) = t1 at le1 ⊢
    generalize (f1 8 b.toNat / 4 &&& 3689348814741910323) = t2 at le2 ⊢
    clear m5 m3 m0 e1 l1
    omega
  have l2 : f21 8 b.toNat ≤ 7378697629483820646 := by
    have le1 : (f1 8 b.toNat &&& 3689348814741910323) ≤ 3689348814741910323 := Nat.and_le_right
    have le2 : (f1 8 b.toNat / 4 &&& 3689348814741910323) ≤ 3689348814741910323 := Nat.and_le_right
    rw [f21, f2, m3]
    generalize (f1 8 b.toNat &&& 3689348814741910323) = t1 at le1 ⊢
    generalize (f1 8 b.toNat / 4 &&& 3689348814741910323) = t2 at le2 ⊢
    clear m5 m3 m0 e1 l1 e2
    omega
  clear l1 e1 m5 m3
  have e3 := bc_nat b.toNat
  have k0 := cnt8_le b.toNat
  have k1 := cnt8_le (b.toNat / 256)
  have k2 := cnt8_le (b.toNat / 256 / 256)
  have k3 := cnt8_le (b.toNat / 256 / 256 / 256)
  have k4 := cnt8_le (b.toNat / 256 / 256 / 256 / 256)
  have k5 := cnt8_le (b.toNat / 256 / 256 / 256 / 256 / 256)
  have k6 := cnt8_le (b.toNat / 256 / 256 / 256 / 256 / 256 / 256)
  have k7 := cnt8_le (b.toNat / 256 / 256 / 256 / 256 / 256 / 256 / 256)
  rw [cnt_64]
  simp only [bcw]
  generalize (b - (b >>> 1 &&& 6148914691236517205#64) &&& 3689348814741910323#64) + ((b - (b >>> 1 &&& 6148914691236517205#64)) >>> 2 &&& 3689348814741910323#64) = a2 at e2 ⊢
  have e4 : ((a2 + a2 >>> 4) &&& 1085102592571150095#64).toNat = f3 8 (f21 8 b.toNat) := by
    rw [BitVec.toNat_and, BitVec.toNat_add, BitVec.toNat_ushiftRight, Nat.shiftRight_eq_div_pow, e2, f3, m0]
    simp only [BitVec.toNat_ofNat, Nat.reducePow, Nat.reduceMod]
    congr 1
    clear e3 k0 k1 k2 k3 k4 k5 k6 k7 e2 m0
    generalize f21 8 b.toNat = t at l2 ⊢
    omega
  clear e2 l2 m0 hb
  rw [e3] at e4
  clear e3
  generalize (a2 + a2 >>> 4) &&& 1085102592571150095#64 = a3 at e4 ⊢
  generalize cnt (b.toNat % 256) 8 = c0 at *
  generalize cnt (b.toNat / 256 % 256) 8 = c1 at *
  generalize cnt (b.toNat / 256 / 256 % 256) 8 = c2 at *
  generalize cnt (b.toNat / 256 / 256 / 256 % 256) 8 = c3 at *
  generalize cnt (b.toNat / 256 / 256 / 256 / 256 % 256) 8 = c4 at *
  generalize cnt (b.toNat / 256 / 256 / 256 / 256 / 256 % 256) 8 = c5 at *
  generalize cnt (b.toNat / 256 / 256 / 256 / 256 / 256 / 256 % 256) 8 = c6 at *
  generalize cnt (b.toNat / 256 / 256 / 256 / 256 / 256 / 256 / 256 % 256) 8 = c7 at *
  exact bw_fin a3 k0 k1 k2 k3 k4 k5 k6 k7 e4
theorem pcn_cnt {b : BitVec 64} : ∀ (n x : Nat), pcn b (x : Int) n = (cnt (b.toNat / 2 ^ x) n : Nat)
  | 0, x => rfl
  | n + 1, x => by
    have ih := pcn_cnt (b := b) n (x + 1)
    rw [pcn, show ((x : Int) + 1) = ((x + 1 : Nat) : Int) by omega, ih, cnt, Nat.pow_succ, ← Nat.div_div_eq_div_mul, Int.toNat_natCast, BitVec.getLsbD, Nat.testBit_eq_decide_div_mod_eq]
    by_cases q : b.toNat / 2 ^ x % 2 = 1
    · simp only [q, decide_true, if_true]; omega
    · simp only [q, decide_false, Bool.false_eq_true, if_false]; omega
theorem pcn_add {b : BitVec 64} : ∀ (n m : Nat) (x : Int), pcn b x (n + m) = pcn b x n + pcn b (x + n) m
  | 0, m, x => by simp [pcn]
  | n + 1, m, x => by
    rw [show n + 1 + m = (n + m) + 1 by omega, pcn, pcn, pcn_add n m (x + 1), show x + 1 + (n : Int) = x + ((n + 1 : Nat) : Int) by omega]
    omega
theorem pcn_0 {b : BitVec 64} : ∀ {n : Nat} {x : Int}, (∀ i, x.toNat ≤ i → b.getLsbD i = false) → 0 ≤ x → pcn b x n = 0
  | 0, _, _, _ => rfl
  | n + 1, x, e, h0 => by
    rw [pcn, e x.toNat (by omega), pcn_0 (fun i hi => e i (by omega)) (by omega)]; rfl
theorem pcn_41 {b : BitVec 64} (hb : ∀ i : Nat, 41 ≤ i → b.getLsbD i = false) : pcn b 0 64 = pc b := by
  rw [pcn_add 41 23 0, pcn_0 (x := 0 + (41 : Nat)) (fun i hi => hb i (by omega)) (by omega), Int.add_zero]
theorem i32_127 {a : Int} : (Int32.ofInt a &&& Int32.ofInt 127).toInt = a % 128 := by
  show (BitVec.ofInt 32 a &&& 127#32).toInt = _
  have e : (BitVec.ofInt 32 a &&& 127#32).toNat = (a % 4294967296).toNat % 128 := by
    rw [BitVec.toNat_and, BitVec.toNat_ofInt]
    exact Nat.and_two_pow_sub_one_eq_mod _ 7
  rw [BitVec.toInt_eq_toNat_of_lt (by rw [e]; omega), e]; omega
theorem i32_255 {a : Int} : (Int32.ofInt a &&& Int32.ofInt 255).toInt = a % 256 := by
  show (BitVec.ofInt 32 a &&& 255#32).toInt = _
  have e : (BitVec.ofInt 32 a &&& 255#32).toNat = (a % 4294967296).toNat % 256 := by
    rw [BitVec.toNat_and, BitVec.toNat_ofInt]
    exact Nat.and_two_pow_sub_one_eq_mod _ 8
  rw [BitVec.toInt_eq_toNat_of_lt (by rw [e]; omega), e]; omega
theorem i32_65535 {a : Int} : (Int32.ofInt a &&& Int32.ofInt 65535).toInt = a % 65536 := by
  show (BitVec.ofInt 32 a &&& 65535#32).toInt = _
  have e : (BitVec.ofInt 32 a &&& 65535#32).toNat = (a % 4294967296).toNat % 65536 := by
    rw [BitVec.toNat_and, BitVec.toNat_ofInt]
    exact Nat.and_two_pow_sub_one_eq_mod _ 16
  rw [BitVec.toInt_eq_toNat_of_lt (by rw [e]; omega), e]; omega
theorem wr_mod {n : Int} : dh_wr n % 4294967296 = n % 4294967296 := by
  unfold dh_wr Int.bmod
  simp only []
  split <;> omega
theorem c_bitCount0 {d : Nat} {Q : Option dh_V → dh_AH → Prop} {h : dh_AH} {b : BitVec 64} : dh_wpM (d + 1) 254 [.inr (.inl b)] h Q = Q (some (.inl ((Int32.ofInt (dh_wr (bcw b).toInt) &&& Int32.ofInt 127).toInt))) h := by
  have k5 : BitVec.ofInt 64 6148914691236517205 = 6148914691236517205#64 := by decide
  have k3 : BitVec.ofInt 64 3689348814741910323 = 3689348814741910323#64 := by decide
  have k0 : BitVec.ofInt 64 1085102592571150095 = 1085102592571150095#64 := by decide
  rw [m254]
  simp only [u254_0, bk254_0, wb_ldi, wb_ldl, wb_ldr, wb_iinc, wb_sti, wb_str, wb_stl, wb_ci, wb_cl, wb_i0, wb_i1, wb_i2, wb_i5, wb_i6, wb_i7, wb_i8, wb_i9, wb_i3, wb_i4, wb_l0, wb_l1, wb_l2, wb_l5, wb_l6, wb_l3, wb_l4, wb_s0, wb_s1, wb_s2, wb_i2l, wb_l2i, wb_i2b, wb_lcmp, wb_dupi, wb_dupr, wb_popi, wb_popr, wb_ic0, wb_if0, wb_ic1, wb_if1, wb_ic2, wb_if2, wb_ic3, wb_if3, wb_ic4, wb_if4, wb_ic5, wb_if5, wb_nu0, wb_nu1, wb_nn0, wb_nn1, wb_go, wb_fall, wb_ri, wb_rl, wb_rr, wb_rz, wb_rv, wb_gi, wb_gr, wb_pi, aK_s, aN_s, aZ_s, k18_1, k18_8, k34_3, k34_4, k1_1, k2_2, k128_1, k128_2, k128_8, k567_5, k567_6, k567_7, wb_iald, wb_bald, wb_lald, wb_aald, wb_iast, wb_last, wb_bast, wb_len, wb_null, wb_sw, wb_cs1, wb_cs2, wb_cs3, wb_cs4, wb_cs5, wb_cs6, wb_cs7, wb_cv0, wb_cv1, wb_cv2, wb_cv3, wb_cv4, wb_cv5, wb_cv6, wb_m0, wb_m1, wb_m2, wb_m3, ws_0, ws_i, ws_l, ws_r, kI_s, kL_s, kR_s, lg_0, lg_s, ls_0, ls_s, ik_i, ik_l, ik_r, ik_n, kl_0, kl_s, dh_st1, dh_st2, Option.toList_some, Option.toList_none, List.cons_append, List.nil_append, Bool.false_eq_true, if_false, if_true, true_and, and_true, true_or, or_true, Nat.zero_le, Nat.reduceAdd, Nat.reduceLeDiff, Int.reduceMod, Int.reduceToNat, k5, k3, k0, bcw]
theorem c_bitCount {d : Nat} {Q : Option dh_V → dh_AH → Prop} {h : dh_AH} {b : BitVec 64} (hb : ∀ i : Nat, 41 ≤ i → b.getLsbD i = false) : dh_wpM (d + 1) 254 [.inr (.inl b)] h Q = Q (some (.inl (pc b))) h := by
  have e : (Int32.ofInt (dh_wr (bcw b).toInt) &&& Int32.ofInt 127).toInt = pc b := by
    have e1 := bcw_nat b
    have e2 := pcn_cnt (b := b) 64 0
    have e3 := wr_mod (n := (bcw b).toInt)
    rw [Nat.pow_zero, Nat.div_one] at e2
    rw [← pcn_41 hb, i32_127, show (0 : Int) = ((0 : Nat) : Int) from rfl, e2, ← e1]
    have e4 := BitVec.toInt_eq_toNat_cond (bcw b)
    have e5 : (2 : Nat) ^ 64 = 18446744073709551616 := by decide
    rw [e5] at e4
    split at e4 <;> omega
  rw [c_bitCount0, e]
theorem c_nextDraw1 {d : Nat} {Q : Option dh_V → dh_AH → Prop} {h : dh_AH} {x : Int} (h0 : 0 ≤ x) (h1 : x ≤ 65535) : dh_wpM (d + 1) 143 [.inl x] h Q = Q (some (.inl ((25173 * x + 13849) % 65536))) h := by
  rw [c_nextDraw, i32_65535, dh_wr_id (n := 25173 * x) (by omega) (by omega), dh_wr_id (by omega) (by omega)]
