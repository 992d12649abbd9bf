/-! the reference's squares that are attacked -/
def RB (v : mvW) (P : Nat) (b : Nat → Nat) : Prop := ∀ q, q < 25 → v 1 (P + q) = nI (b q)
def OKb (b : Nat → Nat) : Prop := ∀ q, q < 25 → b q ≤ 20
theorem px_m1 {x : Nat} (h : 1 ≤ x) : nI x - 1 = nI (x - 1) := pk_sub (b := 1) h
theorem px_d10 {x : Nat} (h : x < 2 ^ 31) : nI x / 10 = nI (x / 10) := pk_div (d := 10) h (by omega) (by omega)
theorem px_r10 {x : Nat} (h : x < 2 ^ 31) : nI x - nI x / 10 * 10 = nI (x % 10) := pk_rem (d := 10) h (by omega) (by omega)
theorem px_d5 {x : Nat} (h : x < 2 ^ 31) : nI x / 5 = nI (x / 5) := pk_div (d := 5) h (by omega) (by omega)
theorem px_r5 {x : Nat} (h : x < 2 ^ 31) : nI x - nI x / 5 * 5 = nI (x % 5) := pk_rem (d := 5) h (by omega) (by omega)
theorem px_d25 {x : Nat} (h : x < 2 ^ 31) : nI x / 25 = nI (x / 25) := pk_div (d := 25) h (by omega) (by omega)
theorem px_r25 {x : Nat} (h : x < 2 ^ 31) : nI x - nI x / 25 * 25 = nI (x % 25) := pk_rem (d := 25) h (by omega) (by omega)
theorem px_d625 {x : Nat} (h : x < 2 ^ 31) : nI x / 625 = nI (x / 625) := pk_div (d := 625) h (by omega) (by omega)
theorem px_r625 {x : Nat} (h : x < 2 ^ 31) : nI x - nI x / 625 * 625 = nI (x % 625) := pk_rem (d := 625) h (by omega) (by omega)
theorem M_in (a lo hi : Int32) (v : mvW) : f_X5_in a lo hi v = some (if lo ≤ a ∧ a ≤ hi then 1 else 0, v) := by
  unfold f_X5_in
  by_cases h1 : a < lo
  · rw [if_pos h1, if_neg (fun h => Int32.not_lt.mpr h.1 h1)]
  · rw [if_neg h1]
    by_cases h2 : hi < a
    · rw [if_pos h2, if_neg (fun h => Int32.not_lt.mpr h.2 h2)]
    · rw [if_neg h2, if_pos ⟨Int32.not_lt.mp h1, Int32.not_lt.mp h2⟩]
theorem M_manAt {P q : Nat} (v : mvW) (hq : q < 25) (hP : P ≤ 120) : f_X5_manAt (nI P) (nI q) v = some (v 1 (P + q) - 1, v) := by
  unfold f_X5_manAt
  rw [nI_add, px_ix (by omega) (by decide)]; rfl
theorem M_sideOn {P q : Nat} {v : mvW} {b : Nat → Nat} (hR : RB v P b) (hO : OKb b) (hq : q < 25) (hP : P ≤ 120) : f_X5_sideOn (nI P) (nI q) v = some (if b q = 0 then -1 else nI ((b q - 1) / 10), v) := by
  unfold f_X5_sideOn
  have h20 := hO q hq
  rw [nI_add, px_ix (by omega) (by decide), Option.bind_some, hR q hq]
  by_cases h : b q = 0
  · rw [if_pos h, h, if_neg (by decide)]
  · rw [if_neg h, if_pos (nI_ne0 (by omega) (by omega)), M_manAt v hq hP, Option.bind_some, hR q hq, px_m1 (by omega), px_d10 (by omega)]
def dIr (w : Nat) : Int32 := ([-1, -1, -1, 0, 0, 1, 1, 1] : List Int32).getD w 0
def dIc (w : Nat) : Int32 := ([-1, 0, 1, -1, 1, -1, 0, 1] : List Int32).getD w 0
theorem nxt_I (q : Nat) (hq : q < 25) (w : Nat) (hw : w < 8) : (nxt q w = none → ¬ ((0 ≤ nI (q / 5) + dIr w ∧ nI (q / 5) + dIr w ≤ 4) ∧ (0 ≤ nI (q % 5) + dIc w ∧ nI (q % 5) + dIc w ≤ 4))) ∧ ∀ r, nxt q w = some r → nI (q / 5) + dIr w = nI (r / 5) ∧ nI (q % 5) + dIc w = nI (r % 5) := by
  have h : ∀ q, q < 25 → ∀ w, w < 8 → (match nxt q w with | none => !((decide (0 ≤ nI (q / 5) + dIr w) && decide (nI (q / 5) + dIr w ≤ 4)) && (decide (0 ≤ nI (q % 5) + dIc w) && decide (nI (q % 5) + dIc w ≤ 4))) | some r => decide (nI (q / 5) + dIr w = nI (r / 5)) && decide (nI (q % 5) + dIc w = nI (r % 5))) = true := by decide +kernel
  have h1 := h q hq w hw
  cases hn : nxt q w with
  | none =>
    rw [hn] at h1
    refine ⟨fun _ hh => ?_, fun r hr => by cases hr⟩
    simp [hh.1.1, hh.1.2, hh.2.1, hh.2.2] at h1
  | some r =>
    rw [hn] at h1
    simp only [Bool.and_eq_true, decide_eq_true_eq] at h1
    exact ⟨fun hh => absurd hh (by simp), fun r' hr => by cases hr; exact h1⟩
theorem M_ray_loop {P w m : Nat} {v : mvW} {b : Nat → Nat} (hR : RB v P b) (hO : OKb b) (hP : P ≤ 120) (hw : w < 8) (hm : m ≤ 4) : ∀ (j q k : Nat) (s : Int32) (N : Nat), q < 25 → k ≤ 4 → pthN (j + 1) q w = pthN j q w → j + 3 ≤ N → f_X5_ray_90 N (nI P) (dIr w) (dIc w) (nI m) s (nI (q / 5) + dIr w) (nI (q % 5) + dIc w) (nI k) v = some (s ||| rayL b m (k + 1) (pthN j q w), v) := by
  intro j
  induction j with
  | zero =>
    intro q k s N hq hk hc hN
    obtain ⟨n, rfl⟩ : ∃ n, N = n + 1 := ⟨N - 1, by omega⟩
    have hn : nxt q w = none := by
      rw [pthN, pthN] at hc
      cases h : nxt q w with
      | none => rfl
      | some r => rw [h] at hc; simp at hc
    have hx := (nxt_I q hq w hw).1 hn
    rw [f_X5_ray_90, show pthN 0 q w = [] from rfl, rayL, px_or0, M_in, Option.bind_some, M_in]
    by_cases h1 : nI m ≤ nI k
    · rw [if_pos h1]
    · rw [if_neg h1]
      by_cases h2 : 0 ≤ nI (q / 5) + dIr w ∧ nI (q / 5) + dIr w ≤ 4
      · simp only [if_pos h2]
        rw [if_neg (by decide), Option.bind_some, if_neg (fun h3 => hx ⟨h2, h3⟩)]
        rfl
      · simp only [if_neg h2]; rfl
  | succ j ih =>
    intro q k s N hq hk hc hN
    obtain ⟨n, rfl⟩ : ∃ n, N = n + 1 := ⟨N - 1, by omega⟩
    cases hn : nxt q w with
    | none =>
      have hx := (nxt_I q hq w hw).1 hn
      have e : pthN (j + 1) q w = [] := by rw [pthN, hn]
      rw [f_X5_ray_90, e, rayL, px_or0, M_in, Option.bind_some, M_in]
      by_cases h1 : nI m ≤ nI k
      · rw [if_pos h1]
      · rw [if_neg h1]
        by_cases h2 : 0 ≤ nI (q / 5) + dIr w ∧ nI (q / 5) + dIr w ≤ 4
        · simp only [if_pos h2]
          rw [if_neg (by decide), Option.bind_some, if_neg (fun h3 => hx ⟨h2, h3⟩)]
          rfl
        · simp only [if_neg h2]; rfl
    | some r =>
      obtain ⟨e1, e2⟩ := (nxt_I q hq w hw).2 r hn
      have hr := nxt_lt q hq w hw r hn
      have hc' : pthN (j + 1) r w = pthN j r w := by
        rw [pthN, pthN, hn] at hc
        exact (List.cons.inj hc).2
      have e : pthN (j + 1) q w = r :: pthN j r w := by rw [pthN, hn]
      rw [f_X5_ray_90, e, rayL, e1, e2, M_in, Option.bind_some, M_in]
      by_cases h1 : m ≤ k
      · rw [if_pos (nI_le h1 (by omega)), if_neg (by omega), px_or0]
      · rw [if_neg (nI_ge (by omega) (by omega)), if_pos (by omega : k + 1 ≤ m)]
        have i1 : (0 : Int32) ≤ nI (r / 5) ∧ nI (r / 5) ≤ 4 := ⟨nI_pos' (by omega), nI_le (b := 4) (by omega) (by omega)⟩
        have i2 : (0 : Int32) ≤ nI (r % 5) ∧ nI (r % 5) ≤ 4 := ⟨nI_pos' (by omega), nI_le (b := 4) (by omega) (by omega)⟩
        simp only [if_pos i1]
        rw [if_neg (by decide), Option.bind_some, if_pos i2]
        simp only []
        rw [if_neg (by decide)]
        have e5 : (5 : Int32) * nI (r / 5) = nI (5 * (r / 5)) := pk_mul 5 _
        rw [e5, nI_add, nI_add, nI_add, show P + 5 * (r / 5) + r % 5 = P + r by omega, show 5 * (r / 5) + r % 5 = r by omega, px_ix (by omega) (by decide), Option.bind_some, hR r hr]
        have hb := hO r hr
        by_cases h2 : b r = 0
        · rw [if_neg (by rw [h2]; decide), if_pos h2, f_X5_ray_155, nI_1]
          rw [ih r (k + 1) _ n hr (by omega) hc' (by omega), px_ora]
        · rw [if_pos (nI_ne0 (by omega) (by omega)), if_neg h2, f_X5_ray_155, nI_1, px_or0]
          obtain ⟨n', rfl⟩ : ∃ n', n = n' + 1 := ⟨n - 1, by omega⟩
          rw [f_X5_ray_90, if_pos (nI_le (by omega) (by omega))]
theorem M_isLine (k f a : Int32) (v : mvW) : f_X5_isLine k f a v = (f_X5_isLine k f a (fun _ _ => 0)).map (fun z => (z.1, v)) := by
  unfold f_X5_isLine f_X5_isLine_13
  repeat' split
  all_goals first | rfl | contradiction | simp_all
theorem M_isStep117 (k f a : Int32) (v : mvW) : f_X5_isStep_117 k f a v = (f_X5_isStep_117 k f a (fun _ _ => 0)).map (fun z => (z.1, v)) := by
  unfold f_X5_isStep_117
  by_cases h1 : k = 3
  · simp only [if_pos h1]; rfl
  · by_cases h2 : k = 4
    · simp only [if_neg h1, if_pos h2]; rfl
    · by_cases h3 : f = -1
      · by_cases h4 : a = 0
        · simp only [if_neg h1, if_neg h2, h3, h4]; rfl
        · simp only [if_neg h1, if_neg h2, h3, if_pos h4]; rfl
      · simp only [if_neg h1, if_neg h2, if_pos h3]; rfl
theorem M_isStep (k f a : Int32) (v : mvW) : f_X5_isStep k f a v = (f_X5_isStep k f a (fun _ _ => 0)).map (fun z => (z.1, v)) := by
  unfold f_X5_isStep
  rw [M_isStep117 k f a v]
  simp only [apply_ite (Option.map (fun z : Int32 × mvW => (z.1, v))), Option.map_some]
/-- what isLine and isStep answer for the man x in the way w -/
def mFw (x w : Nat) : Int32 := if (x - 1) / 10 = 0 then -(dIr w) else dIr w
theorem M_tab : ∀ x, x < 20 → ∀ w, w < 8 → (f_X5_isLine (nI (x % 10)) (mFw (x + 1) w) (dIc w) (fun _ _ => 0)).map Prod.fst = some (if mst (x + 1) w = 4 then 1 else 0) ∧ (mst (x + 1) w ≠ 4 → (f_X5_isStep (nI (x % 10)) (mFw (x + 1) w) (dIc w) (fun _ _ => 0)).map Prod.fst = some (if mst (x + 1) w = 1 then 1 else 0)) ∧ (mst (x + 1) w = 0 ∨ mst (x + 1) w = 1 ∨ mst (x + 1) w = 4) := by decide +kernel
theorem M_mapv {z : Option (Int32 × mvW)} {a : Int32} (h : z.map Prod.fst = some a) (v : mvW) : z.map (fun z => (z.1, v)) = some (a, v) := by
  cases z with
  | none => cases h
  | some q => simp at h; simp [h]
theorem M_ray {P q w : Nat} {v : mvW} {b : Nat → Nat} (hR : RB v P b) (hO : OKb b) (hP : P ≤ 120) (hq : q < 25) (hw : w < 8) (hx : b q ≠ 0) : f_X5_ray (nI P) (nI q) (dIr w) (dIc w) v = some (rayL b (mst (b q) w) 1 (pth q w), v) := by
  have h20 := hO q hq
  obtain ⟨x, hbx⟩ : ∃ x, b q = x + 1 := ⟨b q - 1, by omega⟩
  have hx20 : x < 20 := by omega
  obtain ⟨t1, t2, t3⟩ := M_tab x hx20 w hw
  unfold f_X5_ray
  rw [M_manAt v hq hP, Option.bind_some, hR q hq, px_m1 (by omega), hbx, Nat.add_sub_cancel, px_d10 (by omega)]
  have key : ∀ s0, s0 = mFw (x + 1) w → f_X5_ray_22 (nI P) (nI q) (dIr w) (dIc w) (nI x) s0 v = some (rayL b (mst (x + 1) w) 1 (pth q w), v) := by
    intro s0 hs
    subst hs
    have fin : ∀ m, m = mst (x + 1) w → f_X5_ray_67 (nI P) (nI q) (dIr w) (dIc w) (nI m) v = some (rayL b (mst (x + 1) w) 1 (pth q w), v) := by
      intro m hm
      subst hm
      unfold f_X5_ray_67
      rw [px_r5 (by omega), px_d5 (by omega)]
      have := M_ray_loop (m := mst (x + 1) w) hR hO hP hw (by rcases t3 with h | h | h <;> omega) 4 q 0 0 4096 hq (by omega) (pth_end q hq w hw 5 (by omega)) (by omega)
      rw [px_0or] at this
      exact this
    unfold f_X5_ray_22
    rw [px_r10 (by omega), M_isLine, M_mapv t1, Option.bind_some]
    by_cases h4 : mst (x + 1) w = 4
    · simp only [if_pos h4]
      rw [if_neg (by decide)]
      exact fin 4 h4.symm
    · simp only [if_neg h4]
      rw [if_pos trivial, M_isStep, M_mapv (t2 h4), Option.bind_some]
      by_cases h1 : mst (x + 1) w = 1
      · simp only [if_pos h1]
        rw [if_neg (by decide)]
        exact fin 1 h1.symm
      · simp only [if_neg h1]
        rw [if_pos trivial]
        exact fin 0 (by rcases t3 with h | h | h <;> omega)
  by_cases h0 : x / 10 = 0
  · rw [h0, if_neg (by decide)]
    exact key _ (by unfold mFw; rw [Nat.add_sub_cancel, if_pos h0])
  · rw [if_pos (nI_ne0 (by omega) (by omega))]
    exact key _ (by unfold mFw; rw [Nat.add_sub_cancel, if_neg h0])
def wd (d : Nat) : Nat := if d < 4 then d else d - 1
theorem M_dd : ∀ d, d < 9 → d ≠ 4 → (nI d / 3) - 1 = dIr (wd d) ∧ (nI d - nI d / 3 * 3) - 1 = dIc (wd d) ∧ wd d < 8 := by decide +kernel
theorem M_attacksOf {P q : Nat} {v : mvW} {b : Nat → Nat} (hR : RB v P b) (hO : OKb b) (hP : P ≤ 120) (hq : q < 25) : f_X5_attacksOf (nI P) (nI q) v = some (if b q = 0 then 0 else attM b (b q) q, v) := by
  have h20 := hO q hq
  unfold f_X5_attacksOf
  by_cases hx : b q = 0
  · rw [show (4096 : Nat) = 4095 + 1 from rfl, f_X5_attacksOf_5, if_neg (by decide), nI_add, px_ix (by omega) (by decide), Option.bind_some, hR q hq, hx, if_pos (by decide), if_pos rfl]
  · rw [if_neg hx]
    have step : ∀ n d s, d < 9 → d ≠ 4 → f_X5_attacksOf_5 (n + 1) (nI P) (nI q) s (nI d) v = f_X5_attacksOf_5 n (nI P) (nI q) (s ||| rayL b (mst (b q) (wd d)) 1 (pth q (wd d))) (nI (d + 1)) v := by
      intro n d s hd h4
      obtain ⟨e1, e2, e3⟩ := M_dd d hd h4
      rw [f_X5_attacksOf_5, if_neg (q_nle (L := 9) (b := 9) rfl hd (by omega)), nI_add, px_ix (by omega) (by decide), Option.bind_some, hR q hq, if_neg (nI_nle (by omega) (by omega)), if_pos (q_ne (L := 4) (b := 4) rfl (by omega) (by omega) h4), e1, e2, M_ray hR hO hP hq e3 hx, Option.bind_some, nI_1]
    have step4 : ∀ n s, f_X5_attacksOf_5 (n + 1) (nI P) (nI q) s (nI 4) v = f_X5_attacksOf_5 n (nI P) (nI q) s (nI 5) v := by
      intro n s
      rw [f_X5_attacksOf_5, if_neg (by decide), nI_add, px_ix (by omega) (by decide), Option.bind_some, hR q hq, if_neg (nI_nle (by omega) (by omega)), if_neg (by decide), px_or0]
      rfl
    have fin : ∀ n s, f_X5_attacksOf_5 (n + 1) (nI P) (nI q) s (nI 9) v = some (s, v) := by
      intro n s
      rw [f_X5_attacksOf_5, if_pos (by decide)]
    show f_X5_attacksOf_5 (4086 + 1 + 1 + 1 + 1 + 1 + 1 + 1 + 1 + 1 + 1) (nI P) (nI q) 0 (nI 0) v = _
    rw [step _ 0 _ (by omega) (by omega), step _ 1 _ (by omega) (by omega), step _ 2 _ (by omega) (by omega), step _ 3 _ (by omega) (by omega), step4, step _ 5 _ (by omega) (by omega), step _ 6 _ (by omega) (by omega), step _ 7 _ (by omega) (by omega), step _ 8 _ (by omega) (by omega), fin]
    rfl
/-- how many men of a side attack a square -/
def isOwn (b : Nat → Nat) (s q : Nat) : Bool := decide (b q ≠ 0) && decide ((b q - 1) / 10 = s)
def cntN (b : Nat → Nat) (s t : Nat) : Nat → Nat
  | 0 => 0
  | q + 1 => cntN b s t q + (if (isOwn b s q && att b (b q) q t) = true then 1 else 0)
def cnt (b : Nat → Nat) (s t : Nat) : Nat := cntN b s t 25
theorem cntN_le (b : Nat → Nat) (s t : Nat) : ∀ n, cntN b s t n ≤ n
  | 0 => Nat.le_refl _
  | n + 1 => by rw [cntN]; have := cntN_le b s t n; split <;> omega
theorem M_attackersOf {P s t : Nat} {v : mvW} {b : Nat → Nat} (hR : RB v P b) (hO : OKb b) (hP : P ≤ 120) (hs : s ≤ 1) (ht : t < 25) : f_X5_attackersOf (nI P) (nI s) (nI t) v = some (nI (cnt b s t), v) := by
  unfold f_X5_attackersOf
  have loop : ∀ k q N, q + k = 25 → k + 1 ≤ N → f_X5_attackersOf_6 N (nI P) (nI s) (nI t) (nI (cntN b s t q)) (nI q) v = some (nI (cnt b s t), v) := by
    intro k
    induction k with
    | zero =>
      intro q N hq hN
      obtain ⟨n, rfl⟩ : ∃ n, N = n + 1 := ⟨N - 1, by omega⟩
      have : q = 25 := by omega
      subst this
      rw [f_X5_attackersOf_6, if_pos (by decide)]; rfl
    | succ k ih =>
      intro q N hq hN
      obtain ⟨n, rfl⟩ : ∃ n, N = n + 1 := ⟨N - 1, by omega⟩
      have hq25 : q < 25 := by omega
      have h20 := hO q hq25
      have ih1 := ih (q + 1) n (by omega) (by omega)
      rw [f_X5_attackersOf_6, if_neg (q_nle (L := 25) (b := 25) rfl hq25 (by omega)), M_sideOn hR hO hq25 hP, Option.bind_some, M_attacksOf hR hO hP hq25, Option.bind_some, nI_1, show (nI (cntN b s t q)) + 0 = nI (cntN b s t q) from nI_add _ 0, nI_1]
      rw [cntN] at ih1
      by_cases h0 : b q = 0
      · simp only [if_pos h0]
        rw [if_pos (by rcases (show s = 0 ∨ s = 1 by omega) with rfl | rfl <;> decide)]
        have e : (isOwn b s q && att b (b q) q t) = false := by simp [isOwn, h0]
        rw [e] at ih1
        exact ih1
      · simp only [if_neg h0]
        by_cases h1 : (b q - 1) / 10 = s
        · rw [if_neg (by rw [h1]; exact fun h => h rfl), px_bit _ (by omega), attM_bit b _ hq25 ht]
          have e0 : isOwn b s q = true := by simp [isOwn, h0, h1]
          rw [e0, Bool.true_and] at ih1
          by_cases h2 : att b (b q) q t = true
          · rw [if_pos h2, if_neg (by decide)]
            rw [if_pos h2] at ih1; exact ih1
          · rw [if_neg h2, if_pos (by decide)]
            rw [if_neg h2] at ih1; exact ih1
        · rw [if_pos (fun h => h1 ((nI_eq (by omega) (by omega)).mp h))]
          have e : (isOwn b s q && att b (b q) q t) = false := by simp [isOwn, h1]
          rw [e] at ih1
          exact ih1
  exact loop 25 0 4096 (by omega) (by omega)
/-- the square of a side's king -/
def kgN (b : Nat → Nat) (s : Nat) : Nat → Nat → Option Nat
  | 0, _ => none
  | n + 1, q => if b q = 10 * s + 1 then some q else kgN b s n (q + 1)
def kg (b : Nat → Nat) (s : Nat) : Option Nat := kgN b s 25 0
def chk (b : Nat → Nat) (s : Nat) : Bool := match kg b s with
  | none => false
  | some q => decide (0 < cnt b (1 - s) q)
theorem M_isInCheck {P s : Nat} {v : mvW} {b : Nat → Nat} (hR : RB v P b) (hO : OKb b) (hP : P ≤ 120) (hs : s ≤ 1) : f_X5_isInCheck (nI P) (nI s) v = some (if chk b s = true then 1 else 0, v) := by
  unfold f_X5_isInCheck chk kg
  have loop : ∀ k q N, q + k = 25 → k + 1 ≤ N → f_X5_isInCheck_2 N (nI P) (nI s) (nI q) v = some (if (match kgN b s k q with | none => false | some q => decide (0 < cnt b (1 - s) q)) = true then 1 else 0, v) := by
    intro k
    induction k with
    | zero =>
      intro q N hq hN
      obtain ⟨n, rfl⟩ : ∃ n, N = n + 1 := ⟨N - 1, by omega⟩
      have : q = 25 := by omega
      subst this
      rw [f_X5_isInCheck_2, if_pos (by decide)]; rfl
    | succ k ih =>
      intro q N hq hN
      obtain ⟨n, rfl⟩ : ∃ n, N = n + 1 := ⟨N - 1, by omega⟩
      have hq25 : q < 25 := by omega
      have h20 := hO q hq25
      have ih1 := ih (q + 1) n (by omega) (by omega)
      have e10 : (10 : Int32) * nI s + 0 + 1 = nI (10 * s + 1) := by
        rw [show (10 : Int32) * nI s = nI (10 * s) from pk_mul 10 s, show nI (10 * s) + 0 = nI (10 * s) from nI_add _ 0, nI_1]
      rw [f_X5_isInCheck_2, if_neg (q_nle (L := 25) (b := 25) rfl hq25 (by omega)), nI_add, px_ix (by omega) (by decide), Option.bind_some, hR q hq25, e10, nI_1, kgN]
      by_cases h : b q = 10 * s + 1
      · rw [if_neg (by rw [h]; exact fun hh => hh rfl), if_pos h, show (1 : Int32) - nI s = nI (1 - s) from pk_sub (a := 1) hs, M_attackersOf hR hO hP (by omega) hq25, Option.bind_some]
        have hc := cntN_le b (1 - s) q 25
        by_cases h2 : 0 < cnt b (1 - s) q
        · rw [if_neg (nI_nle h2 (by unfold cnt; omega))]; simp [h2]
        · have : cnt b (1 - s) q = 0 := by omega
          rw [this]; dsimp only; rw [if_pos (by decide)]; simp [h2]
      · rw [if_pos (fun hh => h ((nI_eq (by omega) (by omega)).mp hh)), if_neg h, ih1]
  exact loop 25 0 4096 (by omega) (by omega)
