/-! how many bits a mask has, as the library counts them -/
theorem hand8 {q r m k : Nat} (hr : r < 256) (hk : k < 256) : (256 * q + r) &&& (256 * m + k) = 256 * (q &&& m) + (r &&& k) := by
  apply Nat.eq_of_testBit_eq
  intro i
  have h3 : r &&& k < 2 ^ 8 := Nat.lt_of_le_of_lt Nat.and_le_left hr
  rw [Nat.testBit_and, show 256 * q + r = 2 ^ 8 * q + r from rfl, show 256 * m + k = 2 ^ 8 * m + k from rfl, show 256 * (q &&& m) + (r &&& k) = 2 ^ 8 * (q &&& m) + (r &&& k) from rfl,
    Nat.testBit_two_pow_mul_add q hr, Nat.testBit_two_pow_mul_add m hk, Nat.testBit_two_pow_mul_add _ h3]
  split
  · rw [Nat.testBit_and]
  · rw [Nat.testBit_and]
theorem pc_d1 : ∀ c, c < 2 → ∀ r, r < 256 → (128 * c + r / 2) &&& 85 = (r / 2) &&& 85 := by decide +kernel
theorem pc_d2 : ∀ c, c < 4 → ∀ r, r < 256 → (64 * c + r / 4) &&& 51 = (r / 4) &&& 51 := by decide +kernel
theorem pc_d3 : ∀ c, c < 5 → ∀ r, r < 69 → (16 * c + (r + r / 16)) &&& 15 = (r + r / 16) &&& 15 := by decide +kernel
theorem pc_s1 {q r m : Nat} (hr : r < 256) : (256 * q + r) / 2 &&& (256 * m + 85) = 256 * (q / 2 &&& m) + (r / 2 &&& 85) := by
  rw [show (256 * q + r) / 2 = 256 * (q / 2) + (128 * (q % 2) + r / 2) by omega, hand8 (by omega) (by omega), pc_d1 _ (by omega) r hr]
theorem pc_s2 {q r m : Nat} (hr : r < 256) : (256 * q + r) / 4 &&& (256 * m + 51) = 256 * (q / 4 &&& m) + (r / 4 &&& 51) := by
  rw [show (256 * q + r) / 4 = 256 * (q / 4) + (64 * (q % 4) + r / 4) by omega, hand8 (by omega) (by omega), pc_d2 _ (by omega) r hr]
theorem pc_s3 {q r m : Nat} (hr : r < 69) (hq : q % 16 < 5) : ((256 * q + r) + (256 * q + r) / 16) &&& (256 * m + 15) = 256 * ((q + q / 16) &&& m) + ((r + r / 16) &&& 15) := by
  rw [show (256 * q + r) + (256 * q + r) / 16 = 256 * (q + q / 16) + (16 * (q % 16) + (r + r / 16)) by omega, hand8 (by omega) (by omega), pc_d3 _ hq r hr]
def pcA (r : Nat) : Nat := r - (r / 2 &&& 85)
def pcC (r : Nat) : Nat := (pcA r &&& 51) + (pcA r / 4 &&& 51)
def pcD (r : Nat) : Nat := (pcC r + pcC r / 16) &&& 15
theorem pc_b : ∀ r, r < 256 → (r / 2 &&& 85) ≤ r ∧ pcA r < 256 ∧ pcC r < 69 ∧ pcC r % 16 < 5 ∧ pcD r ≤ 8 := by decide +kernel
def pk4 (a b c d : Nat) : Nat := 256 * (256 * (256 * d + c) + b) + a
theorem pc_1 {a b c d : Nat} (ha : a < 256) (hb : b < 256) (hc : c < 256) (hd : d < 256) : (pk4 a b c d / 2 &&& 1431655765) ≤ pk4 a b c d ∧ pk4 a b c d - (pk4 a b c d / 2 &&& 1431655765) = pk4 (pcA a) (pcA b) (pcA c) (pcA d) := by
  have e : pk4 a b c d / 2 &&& 1431655765 = pk4 (a / 2 &&& 85) (b / 2 &&& 85) (c / 2 &&& 85) (d / 2 &&& 85) := by
    unfold pk4
    rw [show 1431655765 = 256 * (256 * (256 * 85 + 85) + 85) + 85 from rfl, pc_s1 ha, pc_s1 hb, pc_s1 hc]
  have h1 := (pc_b a ha).1
  have h2 := (pc_b b hb).1
  have h3 := (pc_b c hc).1
  have h4 := (pc_b d hd).1
  rw [e]
  unfold pk4 pcA
  constructor <;> omega
theorem pc_2 {a b c d : Nat} (ha : a < 256) (hb : b < 256) (hc : c < 256) (hd : d < 256) : (pk4 a b c d &&& 858993459) + (pk4 a b c d / 4 &&& 858993459) = pk4 ((a &&& 51) + (a / 4 &&& 51)) ((b &&& 51) + (b / 4 &&& 51)) ((c &&& 51) + (c / 4 &&& 51)) ((d &&& 51) + (d / 4 &&& 51)) := by
  unfold pk4
  rw [show 858993459 = 256 * (256 * (256 * 51 + 51) + 51) + 51 from rfl, pc_s2 ha, pc_s2 hb, pc_s2 hc, hand8 ha (by omega), hand8 hb (by omega), hand8 hc (by omega)]
  omega
theorem pc_3 {a b c d : Nat} (ha : a < 69) (hb : b < 69) (hc : c < 69) (hb' : b % 16 < 5) (hc' : c % 16 < 5) (hd' : d % 16 < 5) : (pk4 a b c d + pk4 a b c d / 16) &&& 252645135 = pk4 ((a + a / 16) &&& 15) ((b + b / 16) &&& 15) ((c + c / 16) &&& 15) ((d + d / 16) &&& 15) := by
  unfold pk4
  rw [show 252645135 = 256 * (256 * (256 * 15 + 15) + 15) + 15 from rfl, pc_s3 ha (by omega), pc_s3 hb (by omega), pc_s3 hc (by omega)]
theorem pc_4 {a b c d : Nat} (ha : a ≤ 8) (hb : b ≤ 8) (hc : c ≤ 8) (hd : d ≤ 8) : ((pk4 a b c d + pk4 a b c d / 256) + (pk4 a b c d + pk4 a b c d / 256) / 65536) % 64 = a + b + c + d := by
  unfold pk4
  have e1 : (256 * (256 * (256 * d + c) + b) + a) / 256 = 256 * (256 * d + c) + b := by omega
  rw [e1]
  have e2 : (256 * (256 * (256 * d + c) + b) + a + (256 * (256 * d + c) + b)) / 65536 = 256 * d + (c + d) := by omega
  rw [e2]
  omega
theorem nx_a (a b : Nat) : nI a &&& nI b = nI (a &&& b) := by
  apply b_ext
  intro i hi
  rw [b_and]
  show ((BitVec.ofNat 32 a).getLsbD i && (BitVec.ofNat 32 b).getLsbD i) = (BitVec.ofNat 32 (a &&& b)).getLsbD i
  simp [hi]
theorem nx_o (a b : Nat) : nI a ||| nI b = nI (a ||| b) := by
  apply b_ext
  intro i hi
  rw [b_or]
  show ((BitVec.ofNat 32 a).getLsbD i || (BitVec.ofNat 32 b).getLsbD i) = (BitVec.ofNat 32 (a ||| b)).getLsbD i
  simp [hi]
theorem pc_I {a b c d : Nat} (ha : a < 256) (hb : b < 256) (hc : c < 256) (hd : d < 2) (w : mvW) : f_J6_bitCount_0f7a4 (nI (pk4 a b c d)) w = some (nI (pcD a + pcD b + pcD c + pcD d), w) := by
  have hn : ∀ {x y z t : Nat}, x < 256 → y < 256 → z < 256 → t < 256 → pk4 x y z t < 2 ^ 32 := by intros; unfold pk4; omega
  obtain ⟨a1, a2, a3, a4, a5⟩ := pc_b a ha
  obtain ⟨b1, b2, b3, b4, b5⟩ := pc_b b hb
  obtain ⟨c1, c2, c3, c4, c5⟩ := pc_b c hc
  obtain ⟨d1, d2, d3, d4, d5⟩ := pc_b d (by omega)
  have k1 := pc_1 ha hb hc (show d < 256 by omega)
  have k2 := pc_2 a2 b2 c2 d2
  have k3 := pc_3 (a := pcC a) (b := pcC b) (c := pcC c) (d := pcC d) a3 b3 c3 b4 c4 d4
  have k4 := pc_4 (a := pcD a) (b := pcD b) (c := pcD c) (d := pcD d) a5 b5 c5 d5
  have m1 : (1431655765 : Int32) = nI 1431655765 := rfl
  have m2 : (858993459 : Int32) = nI 858993459 := rfl
  have m3 : (252645135 : Int32) = nI 252645135 := rfl
  have m4 : (63 : Int32) = nI 63 := rfl
  have s1 : nI (pk4 a b c d) - (((Int32.toUInt32 (nI (pk4 a b c d)) >>> (Int32.toUInt32 1 &&& Int32.toUInt32 31)).toInt32) &&& 1431655765) = nI (pk4 (pcA a) (pcA b) (pcA c) (pcA d)) := by
    rw [pk_ushrN (hn ha hb hc (by omega)) 1 1 (by decide), m1, nx_a, pk_sub k1.1, ← k1.2]
  have s2 : (nI (pk4 (pcA a) (pcA b) (pcA c) (pcA d)) &&& 858993459) + (((Int32.toUInt32 (nI (pk4 (pcA a) (pcA b) (pcA c) (pcA d))) >>> (Int32.toUInt32 2 &&& Int32.toUInt32 31)).toInt32) &&& 858993459) = nI (pk4 (pcC a) (pcC b) (pcC c) (pcC d)) := by
    rw [pk_ushrN (hn a2 b2 c2 d2) 2 2 (by decide), m2, nx_a, nx_a, nI_add]
    exact congrArg nI k2
  have s3 : (nI (pk4 (pcC a) (pcC b) (pcC c) (pcC d)) + ((Int32.toUInt32 (nI (pk4 (pcC a) (pcC b) (pcC c) (pcC d))) >>> (Int32.toUInt32 4 &&& Int32.toUInt32 31)).toInt32)) &&& 252645135 = nI (pk4 (pcD a) (pcD b) (pcD c) (pcD d)) := by
    rw [pk_ushrN (hn (by omega) (by omega) (by omega) (by omega)) 4 4 (by decide), nI_add, m3, nx_a]
    exact congrArg nI k3
  unfold f_J6_bitCount_0f7a4
  rw [s1, s2, s3]
  have hD : pk4 (pcD a) (pcD b) (pcD c) (pcD d) < 2 ^ 30 := by unfold pk4; omega
  rw [pk_ushrN (n := pk4 (pcD a) (pcD b) (pcD c) (pcD d)) (by omega) 8 8 (by decide), nI_add, pk_ushrN (by omega) 16 16 (by decide), nI_add, pk_andN (by omega) 6 (by decide)]
  rw [← k4]
def bN (b : Bool) : Nat := if b = true then 1 else 0
def valN (f : Nat → Bool) : Nat → Nat
  | 0 => 0
  | n + 1 => valN f n + 2 ^ n * bN (f n)
theorem valN_lt (f : Nat → Bool) : ∀ n, valN f n < 2 ^ n
  | 0 => Nat.one_pos
  | n + 1 => by
    have := valN_lt f n
    have h2 : bN (f n) ≤ 1 := by unfold bN; split <;> omega
    rw [valN, Nat.pow_succ]
    have : 2 ^ n * bN (f n) ≤ 2 ^ n * 1 := Nat.mul_le_mul_left _ h2
    omega
theorem px_pow : ∀ n, n < 25 → (1 : Int32) <<< (nI n &&& 31) = nI (2 ^ n) := by decide +kernel
theorem mkN_val (f : Nat → Bool) : ∀ n, n ≤ 25 → mkN f n = nI (valN f n)
  | 0, _ => rfl
  | n + 1, h => by
    rw [mkN, valN, mkN_val f n (by omega)]
    by_cases hf : f n = true
    · rw [if_pos hf, px_pow n (by omega), nx_o, hf]
      have := Nat.two_pow_add_eq_or_of_lt (valN_lt f n) 1
      show nI _ = nI _
      rw [Nat.or_comm, ← Nat.mul_one (2 ^ n), ← this]
      show nI (2 ^ n * 1 + valN f n) = nI (valN f n + 2 ^ n * 1 * 1)
      rw [Nat.mul_one, Nat.mul_one, Nat.add_comm]
    · rw [if_neg hf, show f n = false by simpa using hf]; rfl
def byt (a b c d e f g h : Bool) : Nat := bN a + 2 * bN b + 4 * bN c + 8 * bN d + 16 * bN e + 32 * bN f + 64 * bN g + 128 * bN h
theorem pc_8 : ∀ a b c d e f g h : Bool, pcD (byt a b c d e f g h) = bN a + bN b + bN c + bN d + bN e + bN f + bN g + bN h ∧ byt a b c d e f g h < 256 := by decide +kernel
theorem numN_bN (f : Nat → Bool) (n : Nat) : numN f (n + 1) = numN f n + bN (f n) := rfl
theorem C_bitCount (f : Nat → Bool) (w : mvW) : f_J6_bitCount_0f7a4 (msk f) w = some (nI (numN f 25), w) := by
  have h0 := pc_8 (f 0) (f 1) (f 2) (f 3) (f 4) (f 5) (f 6) (f 7)
  have h1 := pc_8 (f 8) (f 9) (f 10) (f 11) (f 12) (f 13) (f 14) (f 15)
  have h2 := pc_8 (f 16) (f 17) (f 18) (f 19) (f 20) (f 21) (f 22) (f 23)
  have h3 : bN (f 24) < 2 ∧ pcD (bN (f 24)) = bN (f 24) := by cases f 24 <;> decide
  have e : msk f = nI (pk4 (byt (f 0) (f 1) (f 2) (f 3) (f 4) (f 5) (f 6) (f 7)) (byt (f 8) (f 9) (f 10) (f 11) (f 12) (f 13) (f 14) (f 15)) (byt (f 16) (f 17) (f 18) (f 19) (f 20) (f 21) (f 22) (f 23)) (bN (f 24))) := by
    unfold msk
    rw [mkN_val f 25 (by omega)]
    refine congrArg nI ?_
    unfold pk4 byt
    simp only [valN]
    omega
  rw [e, pc_I h0.2 h1.2 h2.2 h3.1, h0.1, h1.1, h2.1, h3.2]
  refine congrArg (fun n => some (nI n, w)) ?_
  simp only [numN_bN]
  simp only [numN]
  omega
