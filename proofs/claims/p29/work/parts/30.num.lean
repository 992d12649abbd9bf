/-! numbers, bits, paths on the board: what class and reference are both held against -/
theorem px_ix {n k : Nat} (h : k < n) (hn : n < 2 ^ 31) : mv_ix n (nI k) = some k := by
  unfold mv_ix
  rw [nI_clamp (by omega), nI_toInt (by omega), if_pos (by omega)]
theorem px_lt {a b : Nat} (ha : a < 2 ^ 31) (hb : b < 2 ^ 31) : (nI a < nI b) = (a < b) := propext (nI_ltI ha hb)
theorem px_le {a b : Nat} (ha : a < 2 ^ 31) (hb : b < 2 ^ 31) : (nI a ≤ nI b) = (a ≤ b) := propext (nI_leI ha hb)
theorem px_eq {a b : Nat} (ha : a < 2 ^ 31) (hb : b < 2 ^ 31) : (nI a = nI b) = (a = b) := propext (nI_eq ha hb)
/-! comparisons with a written number: (L := n) names it -/
theorem q_nle {L : Int32} {d b : Nat} (hL : L = nI b) (h : d < b) (hb : b < 2 ^ 31) : ¬ L ≤ nI d := hL ▸ nI_ge h hb
theorem q_le {L : Int32} {d b : Nat} (hL : L = nI b) (h : b ≤ d) (hd : d < 2 ^ 31) : L ≤ nI d := hL ▸ nI_le h hd
theorem q_lt {L : Int32} {d b : Nat} (hL : L = nI b) (h : d < b) (hb : b < 2 ^ 31) : nI d < L := hL ▸ nI_lt h hb
theorem q_nlt {L : Int32} {d b : Nat} (hL : L = nI b) (h : b ≤ d) (hd : d < 2 ^ 31) : ¬ nI d < L := hL ▸ nI_nlt h hd
theorem q_le2 {L : Int32} {d b : Nat} (hL : L = nI b) (h : d ≤ b) (hb : b < 2 ^ 31) : nI d ≤ L := hL ▸ nI_le h hb
theorem q_nle2 {L : Int32} {d b : Nat} (hL : L = nI b) (h : b < d) (hd : d < 2 ^ 31) : ¬ nI d ≤ L := hL ▸ nI_ge h hd
theorem q_eq {L : Int32} {d b : Nat} (hL : L = nI b) (h : d = b) : nI d = L := by rw [hL, h]
theorem q_ne {L : Int32} {d b : Nat} (hL : L = nI b) (hd : d < 2 ^ 31) (hb : b < 2 ^ 31) (h : d ≠ b) : ¬ nI d = L := by rw [hL]; exact fun e => h ((nI_eq hd hb).mp e)
def bt (x : Int32) (i : Nat) : Bool := x.toBitVec.getLsbD i
theorem b_ext {x y : Int32} (h : ∀ i, i < 32 → bt x i = bt y i) : x = y := Int32.toBitVec_inj.mp (BitVec.eq_of_getLsbD_eq (fun i hi => h i hi))
theorem b_or (x y : Int32) (i : Nat) : bt (x ||| y) i = (bt x i || bt y i) := by unfold bt; rw [Int32.toBitVec_or, BitVec.getLsbD_or]
theorem b_and (x y : Int32) (i : Nat) : bt (x &&& y) i = (bt x i && bt y i) := by unfold bt; rw [Int32.toBitVec_and, BitVec.getLsbD_and]
theorem b_xor (x y : Int32) (i : Nat) : bt (x ^^^ y) i = (bt x i ^^ bt y i) := by unfold bt; rw [Int32.toBitVec_xor, BitVec.getLsbD_xor]
theorem b_big {x : Int32} {i : Nat} (h : 32 ≤ i) : bt x i = false := BitVec.getLsbD_of_ge _ _ h
theorem b_m1 : ∀ i, i < 32 → bt (-1) i = true := by decide +kernel
theorem b_0 (i : Nat) : bt 0 i = false := BitVec.getLsbD_zero
theorem b_1 : ∀ i, i < 32 → bt 1 i = decide (i = 0) := by decide +kernel
theorem s_l : ∀ n, n < 32 → ((nI n &&& 31).toBitVec.smod 32).toNat = n := by decide +kernel
theorem b_shl (n : Nat) (hn : n < 32) (x : Int32) {i : Nat} (hi : i < 32) : bt (x <<< (nI n &&& 31)) i = (decide (n ≤ i) && bt x (i - n)) := by
  unfold bt
  rw [Int32.toBitVec_shiftLeft]
  show (x.toBitVec <<< ((nI n &&& 31).toBitVec.smod 32).toNat).getLsbD i = _
  rw [s_l n hn, BitVec.getLsbD_shiftLeft]
  rcases Nat.lt_or_ge i n with h | h
  · simp [h, Nat.not_le.mpr h]
  · simp [hi, h, Nat.not_lt.mpr h]
theorem b_sshr (n : Nat) (hn : n < 32) (x : Int32) {i : Nat} (hi : i < 32) : bt (x >>> (nI n &&& 31)) i = if n + i < 32 then bt x (n + i) else bt x 31 := by
  unfold bt
  rw [Int32.toBitVec_shiftRight]
  show (x.toBitVec.sshiftRight ((nI n &&& 31).toBitVec.smod 32).toNat).getLsbD i = _
  rw [s_l n hn, BitVec.getLsbD_sshiftRight, BitVec.msb_eq_getLsbD_last]
  simp [hi]
theorem px_bit (x : Int32) {t : Nat} (ht : t < 32) : ((x >>> (nI t &&& 31)) &&& 1) = if bt x t = true then nI 1 else nI 0 := by
  apply b_ext
  intro i hi
  rw [b_and, b_sshr t ht x hi, b_1 i hi]
  by_cases h0 : i = 0
  · subst h0
    rw [if_pos (by omega), Nat.add_zero]
    cases h : bt x t
    · rw [if_neg (by decide)]; show _ = bt 0 0; rw [b_0]; rfl
    · rw [if_pos rfl]; rfl
  · rw [decide_eq_false h0, Bool.and_false]
    cases h : bt x t
    · rw [if_neg (by decide)]; show _ = bt 0 i; rw [b_0]
    · rw [if_pos rfl]; show _ = bt 1 i; rw [b_1 i hi, decide_eq_false h0]
theorem px_one {k : Nat} (hk : k < 32) {i : Nat} (hi : i < 32) : bt ((1 : Int32) <<< (nI k &&& 31)) i = decide (k = i) := by
  rw [b_shl k hk _ hi, b_1 (i - k) (by omega)]
  by_cases h : k = i
  · subst h; simp
  · by_cases h2 : k ≤ i
    · simp [h, h2]; omega
    · simp [h, h2]
theorem px_or0 (x : Int32) : x ||| 0 = x := by apply b_ext; intro i _; rw [b_or, b_0, Bool.or_false]
theorem px_0or (x : Int32) : 0 ||| x = x := by apply b_ext; intro i _; rw [b_or, b_0, Bool.false_or]
theorem px_ora (x y z : Int32) : x ||| y ||| z = x ||| (y ||| z) := by apply b_ext; intro i _; simp only [b_or, Bool.or_assoc]
/-! paths -/
def st_dr : List Nat := [0, 0, 0, 1, 1, 2, 2, 2]
def st_dc : List Nat := [0, 1, 2, 0, 2, 0, 1, 2]
def nxt (q w : Nat) : Option Nat := if 1 ≤ q / 5 + st_dr.getD w 0 ∧ q / 5 + st_dr.getD w 0 ≤ 5 ∧ 1 ≤ q % 5 + st_dc.getD w 0 ∧ q % 5 + st_dc.getD w 0 ≤ 5 then some (5 * (q / 5 + st_dr.getD w 0 - 1) + (q % 5 + st_dc.getD w 0 - 1)) else none
def pthN : Nat → Nat → Nat → List Nat
  | 0, _, _ => []
  | n + 1, q, w => match nxt q w with
    | none => []
    | some r => r :: pthN n r w
def pth (q w : Nat) : List Nat := pthN 4 q w
theorem nxt_lt : ∀ q, q < 25 → ∀ w, w < 8 → ∀ r, nxt q w = some r → r < 25 := by
  have h : ∀ q, q < 25 → ∀ w, w < 8 → (match nxt q w with | none => true | some r => decide (r < 25)) = true := by decide +kernel
  intro q hq w hw r hr
  have := h q hq w hw
  rw [hr] at this
  exact of_decide_eq_true this
theorem pthN_lt : ∀ n q w, q < 25 → w < 8 → ∀ r ∈ pthN n q w, r < 25
  | 0, _, _, _, _, r, h => by simp [pthN] at h
  | n + 1, q, w, hq, hw, r, h => by
    rw [pthN] at h
    cases hn : nxt q w with
    | none => rw [hn] at h; simp at h
    | some y =>
      rw [hn] at h
      have hy := nxt_lt q hq w hw y hn
      rcases List.mem_cons.mp h with rfl | h
      · exact hy
      · exact pthN_lt n y w hy hw r h
/-- after four steps the board is at an end -/
theorem pth_end : ∀ q, q < 25 → ∀ w, w < 8 → ∀ n, 4 ≤ n → pthN n q w = pth q w := by
  have h5 : ∀ q, q < 25 → ∀ w, w < 8 → (pthN 5 q w).length ≤ 4 := by decide +kernel
  have key : ∀ n q w, (pthN (n + 1) q w).length ≤ n → pthN (n + 1) q w = pthN n q w := by
    intro n
    induction n with
    | zero => intro q w h; exact List.length_eq_zero_iff.mp (by omega)
    | succ n ih =>
      intro q w h
      rw [pthN] at h ⊢
      rw [show pthN (n + 1) q w = _ from by rw [pthN]]
      cases hn : nxt q w with
      | none => rfl
      | some y =>
        rw [hn] at h
        simp only [List.length_cons] at h
        show y :: pthN (n + 1) y w = y :: pthN n y w
        rw [ih y w (by omega)]
  have mono : ∀ n q w, (pthN n q w).length ≤ n := by
    intro n
    induction n with
    | zero => intro q w; simp [pthN]
    | succ n ih =>
      intro q w
      rw [pthN]
      cases hn : nxt q w with
      | none => simp
      | some y => simp only [List.length_cons]; have := ih y w; omega
  intro q hq w hw n hn
  induction n with
  | zero => omega
  | succ n ih =>
    by_cases h4 : n + 1 = 4
    · rw [h4]; rfl
    · have e := ih (by omega)
      by_cases h5' : n = 4
      · subst h5'
        exact key 4 q w (h5 q hq w hw)
      · have h1 : (pthN n q w).length ≤ 4 := by rw [e]; exact mono 4 q w
        have h2 : pthN (n + 1) q w = pthN n q w := by
          -- one more step adds nothing
          have hlen : (pthN (n + 1) q w).length ≤ n := by
            have a : ∀ m k q w, (pthN m q w).length < m → (pthN (m + k) q w) = pthN m q w := by
              intro m
              induction m with
              | zero => intro k q w h; omega
              | succ m ihm =>
                intro k q w h
                rw [show m + 1 + k = (m + k) + 1 by omega, pthN]
                rw [show pthN (m + 1) q w = _ from by rw [pthN]] at h ⊢
                cases hn : nxt q w with
                | none => rfl
                | some y =>
                  rw [hn] at h
                  simp only [List.length_cons] at h
                  show y :: pthN (m + k) y w = y :: pthN m y w
                  rw [ihm k y w (by omega)]
            rw [a n 1 q w (by omega)]; omega
          exact key n q w hlen
        rw [h2, e]
/-! men: x = 0 empty, else 1 + 10 * side + kind -/
abbrev stT : List Nat := [255, 95, 167, 165, 90, 2, 95, 255, 255, 95, 255, 250, 229, 165, 90, 64, 250, 255, 255, 250]
abbrev slT : List Nat := [0, 0, 0, 165, 90, 0, 0, 165, 90, 0, 0, 0, 0, 165, 90, 0, 0, 165, 90, 0]
theorem px_stT : tb_STEPS = stT.map nI := by decide +kernel
theorem px_slT : tb_SLIDES = slT.map nI := by decide +kernel
/-- how far a man goes in a way: 0, 1 or 4 -/
def mst (x w : Nat) : Nat := if (slT.getD (x - 1) 0).testBit w then 4 else if (stT.getD (x - 1) 0).testBit w then 1 else 0
/-- the squares hit along a path, as bits; far: how far the next one is -/
def rayL (b : Nat → Nat) (m : Nat) : Nat → List Nat → Int32
  | _, [] => 0
  | far, q :: qs => if far ≤ m then ((1 : Int32) <<< (nI q &&& 31)) ||| (if b q = 0 then rayL b m (far + 1) qs else 0) else 0
def hitL (b : Nat → Nat) (m : Nat) : Nat → List Nat → Nat → Bool
  | _, [], _ => false
  | far, q :: qs, t => decide (far ≤ m) && (decide (q = t) || (decide (b q = 0) && hitL b m (far + 1) qs t))
theorem rayL_bit (b : Nat → Nat) (m : Nat) {t : Nat} (ht : t < 25) : ∀ (l : List Nat) (far : Nat), (∀ q ∈ l, q < 25) → bt (rayL b m far l) t = hitL b m far l t
  | [], _, _ => by simp [rayL, hitL, b_0]
  | q :: qs, far, h => by
    have hq := h q List.mem_cons_self
    have ih := rayL_bit b m ht qs (far + 1) (fun r hr => h r (List.mem_cons_of_mem _ hr))
    rw [rayL, hitL]
    by_cases h1 : far ≤ m
    · rw [if_pos h1, b_or, px_one (by omega) (by omega), decide_eq_true h1, Bool.true_and]
      by_cases h2 : b q = 0
      · rw [if_pos h2, ih, decide_eq_true h2, Bool.true_and]
      · rw [if_neg h2, b_0, decide_eq_false h2, Bool.false_and]
    · rw [if_neg h1, b_0, decide_eq_false h1, Bool.false_and]
/-- the squares that a man x on q attacks in the ways below w -/
def attN (b : Nat → Nat) (x q : Nat) : Nat → Int32
  | 0 => 0
  | w + 1 => attN b x q w ||| rayL b (mst x w) 1 (pth q w)
def attM (b : Nat → Nat) (x q : Nat) : Int32 := attN b x q 8
def att (b : Nat → Nat) (x q t : Nat) : Bool := (List.range 8).any (fun w => hitL b (mst x w) 1 (pth q w) t)
theorem attM_bit (b : Nat → Nat) (x : Nat) {q t : Nat} (hq : q < 25) (ht : t < 25) : bt (attM b x q) t = att b x q t := by
  have h : ∀ n, n ≤ 8 → bt (attN b x q n) t = (List.range n).any (fun w => hitL b (mst x w) 1 (pth q w) t) := by
    intro n
    induction n with
    | zero => intro _; simp [attN, b_0]
    | succ n ih =>
      intro hn
      rw [attN, b_or, ih (by omega), List.range_succ, List.any_append, rayL_bit b (mst x n) ht (pth q n) 1 (fun r hr => pthN_lt 4 q n hq (by omega) r hr)]
      simp
  exact h 8 (Nat.le_refl 8)
