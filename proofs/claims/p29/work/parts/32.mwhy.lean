/-! the reference's plays: what forbids one, what it makes of a row -/
/-- board, side to play, hands (5 * side + kind - 1), counts -/
abbrev PS : Type := (Nat → Nat) × Nat × (Nat → Int32) × (Nat → Int32)
def RW (v : mvW) (P : Nat) (σ : PS) : Prop := RB v P σ.1 ∧ v 1 (P + 35) = nI σ.2.1 ∧ (∀ i, i < 10 → v 1 (P + 25 + i) = σ.2.2.1 i) ∧ ∀ i, i < 4 → v 1 (P + 36 + i) = σ.2.2.2 i
def OKs (σ : PS) : Prop := OKb σ.1 ∧ σ.2.1 ≤ 1
def isLast (s q : Nat) : Bool := decide (q / 5 = if s = 0 then 0 else 4)
def knd (x : Nat) : Nat := (x - 1) % 10
def canP (b : Nat → Nat) (t f to : Nat) : Bool := decide (2 ≤ knd (b f)) && decide (knd (b f) ≤ 5) && (isLast t to || isLast t f)
def wnmS (b : Nat → Nat) (t f to : Nat) (pr : Bool) : Nat :=
  if isOwn b t f = false then 1 else if att b (b f) f to = false then 2 else if (isOwn b t to || (decide (b to ≠ 0) && decide (knd (b to) = 0))) = true then 3 else
  if pr = true then (if canP b t f to = true then 0 else 4) else if (decide (knd (b f) = 5) && isLast t to) = true then 5 else 0
def hasPw (b : Nat → Nat) (t col : Nat) : Bool := (List.range 5).any (fun r => decide (b (col + 5 * r) = 10 * t + 6))
def wndS (σ : PS) (kd to : Nat) : Nat :=
  if σ.2.2.1 (5 * σ.2.1 + kd - 1) = 0 then 1 else if σ.1 to ≠ 0 then 2 else if (decide (kd = 5) && isLast σ.2.1 to) = true then 3 else if (decide (kd = 5) && hasPw σ.1 σ.2.1 (to % 5)) = true then 4 else 0
def wnS (σ : PS) (c : Nat) : Nat := if c < 1250 then wnmS σ.1 σ.2.1 (c % 625 / 25) (c % 25) (decide (625 ≤ c)) else wndS σ ((c - 1250) / 25 + 1) (c % 25)
theorem px_ixe {n k : Nat} {x : Int32} (hx : x = nI k) (h : k < n) (hn : n < 2 ^ 31) : mv_ix n x = some k := by rw [hx]; exact px_ix h hn
theorem px_p35 {P : Nat} (h : P ≤ 120) : mv_ix 160 (nI P + 35) = some (P + 35) := px_ixe (x := nI P + 35) (nI_add P 35) (by omega) (by decide)
theorem px_p36 {P : Nat} (h : P ≤ 120) : mv_ix 160 (nI P + 36) = some (P + 36) := px_ixe (x := nI P + 36) (nI_add P 36) (by omega) (by decide)
theorem px_p37 {P : Nat} (h : P ≤ 120) : mv_ix 160 (nI P + 37) = some (P + 37) := px_ixe (x := nI P + 37) (nI_add P 37) (by omega) (by decide)
theorem px_p38 {P : Nat} (h : P ≤ 120) : mv_ix 160 (nI P + 38) = some (P + 38) := px_ixe (x := nI P + 38) (nI_add P 38) (by omega) (by decide)
theorem px_p39 {P : Nat} (h : P ≤ 120) : mv_ix 160 (nI P + 39) = some (P + 39) := px_ixe (x := nI P + 39) (nI_add P 39) (by omega) (by decide)
theorem M_lastRow {s : Nat} (v : mvW) (hs : s ≤ 1) : f_X5_lastRow (nI s) v = some (nI (if s = 0 then 0 else 4), v) := by
  unfold f_X5_lastRow
  rcases (show s = 0 ∨ s = 1 by omega) with rfl | rfl
  · rw [if_neg (by decide)]; rfl
  · rw [if_pos (by decide)]; rfl
theorem M_kindOf {c : Nat} (v : mvW) (h1 : 1250 ≤ c) (h2 : c < 1375) : f_X5_kindOf (nI c) v = some (nI ((c - 1250) / 25 + 1), v) := by
  unfold f_X5_kindOf
  rw [show nI c - 1250 = nI (c - 1250) from pk_sub (b := 1250) h1, px_d25 (by omega), nI_1]
theorem M_from {c : Nat} (v : mvW) (h2 : c < 1375) : f_X5_from (nI c) v = some (nI (c % 625 / 25), v) := by
  unfold f_X5_from
  rw [px_r625 (by omega), px_d25 (by omega)]
theorem M_hasPawnIn {P s col : Nat} {v : mvW} {b : Nat → Nat} (hR : RB v P b) (hO : OKb b) (hP : P ≤ 120) (hs : s ≤ 1) (hc : col < 5) : f_X5_hasPawnIn (nI P) (nI s) (nI col) v = some (if hasPw b s col = true then 1 else 0, v) := by
  unfold f_X5_hasPawnIn
  have e10 : (10 : Int32) * nI s + 5 = nI (10 * s + 5) := by
    rw [show (10 : Int32) * nI s = nI (10 * s) from pk_mul 10 s]; exact nI_add _ 5
  have step : ∀ n r (p : Bool), r < 5 → f_X5_hasPawnIn_6 (n + 1) (nI P) (nI s) (if p = true then 1 else 0) (nI (col + 5 * r)) v = f_X5_hasPawnIn_6 n (nI P) (nI s) (if (p || decide (b (col + 5 * r) = 10 * s + 6)) = true then 1 else 0) (nI (col + 5 * (r + 1))) v := by
    intro n r p hr
    have h20 := hO (col + 5 * r) (by omega)
    rw [f_X5_hasPawnIn_6, if_neg (q_nle (L := 25) (b := 25) rfl (by omega) (by omega)), show nI (col + 5 * r) + 5 = nI (col + 5 * (r + 1)) from (nI_add _ 5).trans (by rw [show col + 5 * r + 5 = col + 5 * (r + 1) by omega])]
    cases p
    · rw [if_neg (by decide), M_manAt v (by omega) hP, Option.bind_some, e10, hR _ (by omega), Bool.false_or]
      by_cases h : b (col + 5 * r) = 10 * s + 6
      · rw [if_neg (by rw [h, px_m1 (by omega)]; exact fun hh => hh rfl), decide_eq_true h]; rfl
      · rw [decide_eq_false h, if_pos]
        · rfl
        · by_cases h0 : b (col + 5 * r) = 0
          · rw [h0]; dsimp only; rcases (show s = 0 ∨ s = 1 by omega) with rfl | rfl <;> decide
          · rw [px_m1 (by omega)]
            exact fun hh => h (by have := (nI_eq (by omega) (by omega)).mp hh; omega)
    · rw [if_pos (by decide), Bool.true_or]; rfl
  have fin : ∀ n (p : Bool), f_X5_hasPawnIn_6 (n + 1) (nI P) (nI s) (if p = true then 1 else 0) (nI (col + 5 * 5)) v = some (if p = true then 1 else 0, v) := by
    intro n p
    rw [f_X5_hasPawnIn_6, if_pos (q_le (L := 25) (b := 25) rfl (by omega) (by omega))]
    cases p <;> rfl
  show f_X5_hasPawnIn_6 (4090 + 1 + 1 + 1 + 1 + 1 + 1) (nI P) (nI s) (if false = true then 1 else 0) (nI (col + 5 * 0)) v = _
  rw [step _ 0 _ (by omega), step _ 1 _ (by omega), step _ 2 _ (by omega), step _ 3 _ (by omega), step _ 4 _ (by omega), fin]
  unfold hasPw
  rw [show List.range 5 = [0, 1, 2, 3, 4] from rfl]
  simp only [List.any_cons, List.any_nil, Bool.or_false, Bool.false_or, Bool.or_assoc]
theorem M_whyNotMove {P c : Nat} {v : mvW} {b : Nat → Nat} {t : Nat} (hR : RB v P b) (hO : OKb b) (hP : P ≤ 120) (ht : t ≤ 1) (hv : v 1 (P + 35) = nI t) (hc : c < 1250) : f_X5_whyNotMove (nI P) (nI c) v = some (nI (wnmS b t (c % 625 / 25) (c % 25) (decide (625 ≤ c))), v) := by
  have hf : c % 625 / 25 < 25 := by omega
  have hto : c % 25 < 25 := by omega
  have hf20 := hO _ hf
  have ht20 := hO _ hto
  unfold f_X5_whyNotMove wnmS
  rw [M_from v (by omega), Option.bind_some, px_p35 (by omega), Option.bind_some, M_sideOn hR hO hf hP, Option.bind_some, px_r25 (by omega)]
  simp only [hv]
  generalize c % 625 / 25 = f at *
  generalize hto' : c % 25 = to at *
  by_cases h1 : isOwn b t f = false
  · rw [if_pos h1, if_neg]
    · rfl
    · by_cases h0 : b f = 0
      · rw [if_pos h0]; rcases (show t = 0 ∨ t = 1 by omega) with rfl | rfl <;> decide
      · rw [if_neg h0]
        intro hh
        have := (nI_eq (by omega) (by omega)).mp hh
        simp [isOwn, h0, this] at h1
  · have h1' : b f ≠ 0 ∧ (b f - 1) / 10 = t := by simpa [isOwn] using h1
    rw [if_neg h1, if_neg h1'.1, if_pos (by rw [h1'.2]), M_attacksOf hR hO hP hf, Option.bind_some, if_neg h1'.1]
    simp only []
    rw [px_bit _ (by omega), attM_bit b _ hf hto]
    by_cases h2 : att b (b f) f to = false
    · rw [if_pos h2, h2]; simp; rfl
    · have h2' : att b (b f) f to = true := by simpa using h2
      rw [if_neg h2, h2', if_pos rfl, if_pos (by decide), M_sideOn hR hO hto hP, Option.bind_some]
      simp only []
      by_cases h3 : isOwn b t to = true
      · have h3' : b to ≠ 0 ∧ (b to - 1) / 10 = t := by simpa [isOwn] using h3
        rw [h3, Bool.true_or, if_pos rfl, if_neg h3'.1, if_pos (by rw [h3'.2])]; rfl
      · rw [if_neg]
        · have h3f : isOwn b t to = false := by simpa using h3
          rw [M_manAt v hto hP, Option.bind_some, hR to hto, h3f, Bool.false_or]
          simp only []
          have hk : (nI (b to) - 1 - (nI (b to) - 1) / 10 * 10 = 0) = (b to ≠ 0 ∧ knd (b to) = 0) := by
            apply propext
            by_cases h0 : b to = 0
            · rw [h0]; constructor
              · intro h; exact absurd h (by decide)
              · intro h; exact absurd rfl h.1
            · rw [px_m1 (by omega), px_r10 (by omega)]
              constructor
              · intro h; exact ⟨h0, (nI_eq (a := (b to - 1) % 10) (b := 0) (by omega) (by omega)).mp h⟩
              · intro h; rw [show (b to - 1) % 10 = 0 from h.2]; rfl
          simp only [hk]
          by_cases h4 : b to ≠ 0 ∧ knd (b to) = 0
          · rw [if_neg (fun h => h h4), if_pos (by simp [h4.1, h4.2])]; rfl
          · rw [if_pos h4, if_neg (by simpa using h4), M_manAt v hf hP, Option.bind_some, hR f hf, px_m1 (by omega)]
            simp only []
            rw [M_lastRow v ht, Option.bind_some, px_r10 (by omega), px_d5 (by omega)]
            simp only []
            have l1 : ∀ q, q < 25 → (nI (q / 5) = nI (if t = 0 then 0 else 4)) = (isLast t q = true) := by
              intro q hq
              rw [px_eq (by omega) (by split <;> omega)]; simp [isLast]
            simp only [l1 to hto]
            have fin : ∀ (s0 : Int32) (can : Bool), s0 = (if can = true then 1 else 0) → can = (canP b t f to) → f_X5_whyNotMove_139 (nI c) (nI ((b f - 1) % 10)) (if isLast t to = true then 1 else 0) s0 v = some (nI (if decide (625 ≤ c) = true then if canP b t f to = true then 0 else 4 else if (decide (knd (b f) = 5) && isLast t to) = true then 5 else 0), v) := by
              intro s0 can hs hcan
              unfold f_X5_whyNotMove_139
              have hlt : (nI c < 625) = (c < 625) := px_lt (b := 625) (by omega) (by omega)
              have h5 : (nI ((b f - 1) % 10) = 5) = (knd (b f) = 5) := px_eq (b := 5) (by omega) (by omega)
              simp only [hlt, h5]
              rw [hs, hcan]
              by_cases hp : c < 625
              · rw [if_pos hp, decide_eq_false (by omega), if_neg (by decide : ¬ (false = true))]
                by_cases hk5 : knd (b f) = 5
                · rw [if_neg (fun h => h hk5), decide_eq_true hk5, Bool.true_and]
                  cases isLast t to <;> rfl
                · rw [if_pos hk5, decide_eq_false hk5]; rfl
              · rw [if_neg hp, decide_eq_true (by omega : 625 ≤ c), if_pos rfl]
                cases canP b t f to <;> rfl
            have go : ∀ (la : Bool), la = isLast t to → f_X5_whyNotMove_106 (nI c) (nI f) (nI t) (nI ((b f - 1) % 10)) (if la = true then 1 else 0) v = some (nI (if decide (625 ≤ c) = true then if canP b t f to = true then 0 else 4 else if (decide (knd (b f) = 5) && isLast t to) = true then 5 else 0), v) := by
              intro la hla
              unfold f_X5_whyNotMove_106
              rw [M_in, Option.bind_some]
              simp only []
              have hin : ((2 : Int32) ≤ nI ((b f - 1) % 10) ∧ nI ((b f - 1) % 10) ≤ 5) = (2 ≤ knd (b f) ∧ knd (b f) ≤ 5) := by
                rw [show ((2 : Int32) ≤ nI ((b f - 1) % 10)) = (2 ≤ (b f - 1) % 10) from px_le (a := 2) (by omega) (by omega), show (nI ((b f - 1) % 10) ≤ (5 : Int32)) = ((b f - 1) % 10 ≤ 5) from px_le (b := 5) (by omega) (by omega)]; rfl
              simp only [hin]
              by_cases hk : 2 ≤ knd (b f) ∧ knd (b f) ≤ 5
              · rw [if_pos hk, if_neg (by decide)]
                cases la
                · rw [if_neg (by decide), M_lastRow v ht, Option.bind_some, px_d5 (by omega)]
                  simp only []
                  simp only [l1 f hf]
                  by_cases hl : isLast t f = true
                  · rw [if_neg (fun h => h hl), hla]
                    exact fin 1 true rfl (by simp [canP, hk.1, hk.2, hl])
                  · rw [if_pos hl, hla]
                    exact fin 0 false rfl (by simp [canP, hk.1, hk.2, hl, ← hla])
                · rw [if_pos (by decide)]
                  have := fin 1 true rfl (by simp [canP, hk.1, hk.2, ← hla])
                  rw [← hla] at this ⊢
                  exact this
              · rw [if_neg hk, if_pos rfl, hla]
                exact fin 0 false rfl (by
                  have : ¬ (2 ≤ knd (b f) ∧ knd (b f) ≤ 5) := hk
                  simp only [canP]
                  by_cases q1 : 2 ≤ knd (b f)
                  · have q2 : ¬ knd (b f) ≤ 5 := fun h => this ⟨q1, h⟩
                    simp [q1, q2]
                  · simp [q1])
            by_cases hl : isLast t to = true
            · rw [if_neg (fun h => h hl)]
              exact go true hl.symm
            · rw [if_pos hl]
              exact go false (show false = isLast t to by simpa using hl)
        · by_cases h0 : b to = 0
          · rw [if_pos h0]; rcases (show t = 0 ∨ t = 1 by omega) with rfl | rfl <;> decide
          · rw [if_neg h0]
            intro hh
            have := (nI_eq (by omega) (by omega)).mp hh
            simp [isOwn, h0, this] at h3
