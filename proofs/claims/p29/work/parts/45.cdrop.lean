/-! masks put together -/
theorem msk_or (f g : Nat → Bool) : msk f ||| msk g = msk (fun t => f t || g t) := by
  apply b_ext
  intro i hi
  rw [b_or]
  by_cases h : i < 25
  · rw [msk_bit _ h, msk_bit _ h, msk_bit _ h]
  · rw [msk_hi _ (by omega) hi, msk_hi _ (by omega) hi, msk_hi _ (by omega) hi]; rfl
theorem msk_andn (f g : Nat → Bool) : msk f &&& (msk g ^^^ (-1)) = msk (fun t => f t && !g t) := by
  apply b_ext
  intro i hi
  rw [b_and, b_xor, b_m1 i hi]
  by_cases h : i < 25
  · rw [msk_bit _ h, msk_bit _ h, msk_bit _ h]; simp
  · rw [msk_hi f (by omega) hi, msk_hi (fun t => f t && !g t) (by omega) hi]; simp
theorem msk_and (f g : Nat → Bool) : msk f &&& msk g = msk (fun t => f t && g t) := by
  apply b_ext
  intro i hi
  rw [b_and]
  by_cases h : i < 25
  · rw [msk_bit _ h, msk_bit _ h, msk_bit _ h]
  · rw [msk_hi _ (by omega) hi, msk_hi _ (by omega) hi, msk_hi _ (by omega) hi]; rfl
theorem msk_one {k : Nat} (hk : k < 25) : (1 : Int32) <<< (nI k &&& 31) = msk (fun t => decide (t = k)) := by
  apply b_ext
  intro i hi
  rw [px_one (by omega) hi]
  by_cases h : i < 25
  · rw [msk_bit _ h]; by_cases e : k = i
    · rw [decide_eq_true e, decide_eq_true e.symm]
    · rw [decide_eq_false e, decide_eq_false (fun h => e h.symm)]
  · rw [msk_hi _ (by omega) hi, decide_eq_false (by omega)]
theorem msk_0 {f : Nat → Bool} : msk f = 0 ↔ ∀ t, t < 25 → f t = false := by
  constructor
  · intro h t ht
    rw [← msk_bit f ht, h, b_0]
  · intro h
    rw [noneM]
    exact msk_cong h
theorem colM : ∀ c, c < 5 → (1082401 : Int32) <<< (nI c &&& 31) = msk (fun t => decide (t % 5 = c)) := by decide +kernel
def colN (b : Nat → Nat) (s n t : Nat) : Bool := (List.range n).any (fun q => decide (b q = 10 * s + 6) && decide (t % 5 = q % 5))
theorem colN_25 (b : Nat → Nat) (s : Nat) {t : Nat} : colN b s 25 t = hasPw b s (t % 5) := by
  unfold colN hasPw
  rw [Bool.eq_iff_iff, List.any_eq_true, List.any_eq_true]
  constructor
  · rintro ⟨q, h1, h2⟩
    rw [List.mem_range] at h1
    simp only [Bool.and_eq_true, decide_eq_true_eq] at h2
    refine ⟨q / 5, List.mem_range.mpr (by omega), ?_⟩
    rw [decide_eq_true_eq, show t % 5 + 5 * (q / 5) = q by omega]
    exact h2.1
  · rintro ⟨r, h1, h2⟩
    rw [List.mem_range] at h1
    rw [decide_eq_true_eq] at h2
    refine ⟨t % 5 + 5 * r, List.mem_range.mpr (by omega), ?_⟩
    simp only [Bool.and_eq_true, decide_eq_true_eq]
    exact ⟨h2, by omega⟩
theorem encM_s {x : Nat} (h : x ≠ 0) : encM x = nI (x - 1) := by unfold encM; rw [if_neg h]
theorem encM_inj : ∀ x, x ≤ 20 → ∀ y, y ≤ 20 → (encM x = encM y ↔ x = y) := by decide +kernel
theorem C_pawnColumns {w : mvW} {σ : PS} (hC : CI w σ) {s : Nat} (hs : s < 2) : f_X3_pawnColumns (nI s) w = some (msk (fun t => hasPw σ.1 s (t % 5)), w) := by
  unfold f_X3_pawnColumns
  have loop : ∀ k q N, q + k = 25 → k + 1 ≤ N → f_X3_pawnColumns_4 N (nI s) (msk (colN σ.1 s q)) (nI q) w = some (msk (fun t => hasPw σ.1 s (t % 5)), w) := by
    intro k
    induction k with
    | zero =>
      intro q N hq hN
      obtain ⟨n, rfl⟩ : ∃ n, N = n + 1 := ⟨N - 1, by omega⟩
      have : q = 25 := by omega
      subst this
      rw [f_X3_pawnColumns_4, if_pos (by decide), msk_cong (fun t _ => colN_25 σ.1 s)]
    | succ k ih =>
      intro q N hq hN
      obtain ⟨n, rfl⟩ : ∃ n, N = n + 1 := ⟨N - 1, by omega⟩
      have hq25 : q < 25 := by omega
      have h20 := hC.2.2.2.1 q hq25
      have ih1 := ih (q + 1) n (by omega) (by omega)
      have em : nI s * 10 + 5 = encM (10 * s + 6) := by
        rw [encM_s (by omega), show nI s * (10 : Int32) = nI (s * 10) from pk_mul s 10, show nI (s * 10) + 5 = nI (s * 10 + 5) from nI_add _ 5, show s * 10 + 5 = 10 * s + 6 - 1 by omega]
      rw [f_X3_pawnColumns_4, if_neg (q_nle (L := 25) (b := 25) rfl hq25 (by omega)), C_manOn hC hq25, Option.bind_some]
      unfold f_X4_manOf
      rw [Option.bind_some]
      dsimp only
      rw [em, nI_1, px_r5 (by omega), colM _ (by omega), msk_or]
      by_cases h : σ.1 q = 10 * s + 6
      · rw [if_neg (fun hh => hh (by rw [h]))]
        rw [msk_cong (g := colN σ.1 s (q + 1)) (fun t _ => ?_)]
        · exact ih1
        · unfold colN
          rw [List.range_succ, List.any_append]
          simp [h]
      · rw [if_pos (fun hh => h ((encM_inj _ h20 _ (by omega)).mp hh))]
        rw [msk_cong (f := colN σ.1 s q) (g := colN σ.1 s (q + 1)) (fun t _ => ?_)]
        · exact ih1
        · unfold colN
          rw [List.range_succ, List.any_append]
          simp [h]
  have := loop 25 0 4096 (by omega) (by omega)
  rw [show msk (colN σ.1 s 0) = 0 from by rw [noneM]; rfl] at this
  exact this
/-- one more own man never endangers the own king -/
theorem hitB_block {b : Nat → Nat} {s back z own : Nat} (h1 : own ≠ 0) (h2 : (own - 1) / 10 ≠ s) (hz : b z = 0) : ∀ (l : List Nat) (far : Nat), hitB (sb b z own) s back far l ≤ hitB b s back far l
  | [], _ => Nat.le_refl _
  | q :: qs, far => by
    rw [hitB, hitB]
    have ih := hitB_block (s := s) (back := back) h1 h2 hz qs (far + 1)
    by_cases e : q = z
    · subst e
      have e1 : sb b q own q = own := by simp [sb]
      rw [e1, if_pos h1, decide_eq_false h2, Bool.false_and, if_neg (by decide)]
      omega
    · have e1 : sb b z own q = b q := by simp [sb, e]
      rw [e1]
      by_cases h0 : b q = 0
      · rw [if_neg (fun h => h h0), if_neg (fun h => h h0)]; exact ih
      · rw [if_pos h0, if_pos h0]; exact Nat.le_refl _
theorem cbN_block {b : Nat → Nat} {s t z own : Nat} (h1 : own ≠ 0) (h2 : (own - 1) / 10 ≠ s) (hz : b z = 0) : ∀ n, cbN (sb b z own) s t n ≤ cbN b s t n
  | 0 => Nat.le_refl _
  | n + 1 => by
    rw [cbN, cbN]
    have := cbN_block (t := t) h1 h2 hz n
    have := hitB_block (b := b) (s := s) (back := 7 - n) h1 h2 hz (pth t n) 1
    omega
theorem chk_block {b : Nat → Nat} {t z : Nat} (ht : t ≤ 1) (hz : b z = 0) (h : chk b t = false) : chk (sb b z (10 * t + 2)) t = false := by
  unfold chk at h ⊢
  rw [kg_cong (b := sb b z (10 * t + 2)) (b' := b) (fun q _ => ?_)]
  · cases hk : kg b t with
    | none => rfl
    | some q =>
      rw [hk] at h
      dsimp only at h ⊢
      obtain ⟨h1, -⟩ := kg_some hk
      rw [decide_eq_false_iff_not] at h ⊢
      rw [← cb_cnt _ h1] at h ⊢
      have := cbN_block (b := b) (s := 1 - t) (t := q) (z := z) (own := 10 * t + 2) (by omega) (by omega) hz 8
      omega
  · unfold sb
    by_cases e : q = z
    · rw [if_pos e]; subst e; omega
    · rw [if_neg e]
/-- where a man may be dropped without danger to the own king -/
def safeD (b : Nat → Nat) (t to : Nat) : Bool := decide (b to = 0) && !chk (sb b to (10 * t + 2)) t
theorem C_cnt {w : mvW} {σ : PS} (hC : CI w σ) {s : Nat} (hs : s < 2) : ∃ n : Nat, n ≤ 25 ∧ f_X2_countAttackers (1 - nI s) (kgI σ.1 s) w = some (nI n, w) ∧ (0 < n ↔ chk σ.1 s = true) := by
  obtain ⟨n, h1, h2, h3⟩ := C_chk hC hs
  rw [C_kingOf hC hs, Option.bind_some] at h2
  exact ⟨n, h1, h2, h3⟩
theorem sS_back2 (σ : PS) {q x : Nat} (h : σ.1 q = 0) : sS (sS σ q x) q 0 = σ := by
  obtain ⟨b, r⟩ := σ
  unfold sS sb
  simp only [Prod.mk.injEq, and_true]
  funext r
  by_cases e : r = q
  · subst e; simp; exact h.symm
  · simp [e]
theorem C_safeDrops {w : mvW} {σ : PS} (hC : CI w σ) : ∃ w', f_X3_safeDrops w = some (msk (safeD σ.1 σ.2.1), w') ∧ CI w' σ ∧ FC w w' := by
  have ht1 : σ.2.1 ≤ 1 := hC.2.2.2.2
  obtain ⟨n0, m1, m2, m3⟩ := C_cnt hC (s := σ.2.1) (by omega)
  unfold f_X3_safeDrops
  rw [C_sideToPlay hC, Option.bind_some]
  dsimp only
  rw [C_kingOf hC (by omega), Option.bind_some]
  dsimp only
  rw [m2, Option.bind_some]
  dsimp only
  have loop : ∀ (is : Bool), (is = true → chk σ.1 σ.2.1 = false) → ∀ k to N u, to + k = 25 → k + 1 ≤ N → CI u σ → FC w u → ∃ w', f_X3_safeDrops_43 N (nI σ.2.1) (kgI σ.1 σ.2.1) (if is = true then 1 else 0) (mkN (safeD σ.1 σ.2.1) to) (nI to) u = some (msk (safeD σ.1 σ.2.1), w') ∧ CI w' σ ∧ FC w w' := by
    intro is his k
    induction k with
    | zero =>
      intro to N u hk hN hu hf
      obtain ⟨n, rfl⟩ : ∃ n, N = n + 1 := ⟨N - 1, by omega⟩
      have : to = 25 := by omega
      subst this
      exact ⟨u, by rw [f_X3_safeDrops_43, if_pos (by decide)]; rfl, hu, hf⟩
    | succ k ih =>
      intro to N u hk hN hu hf
      obtain ⟨n, rfl⟩ : ∃ n, N = n + 1 := ⟨N - 1, by omega⟩
      have ht : to < 25 := by omega
      have h20 := hC.2.2.2.1 to ht
      rw [f_X3_safeDrops_43, if_neg (q_nle (L := 25) (b := 25) rfl ht (by omega)), C_manOn hu ht, Option.bind_some, nI_1]
      dsimp only
      by_cases h0 : σ.1 to = 0
      · rw [if_pos ((px_encE _ h20).mpr h0)]
        unfold f_X4_manOf
        rw [Option.bind_some]
        dsimp only
        have em : nI σ.2.1 * 10 + 1 = encM (10 * σ.2.1 + 2) := by
          rw [encM_s (by omega), show nI σ.2.1 * (10 : Int32) = nI (σ.2.1 * 10) from pk_mul _ 10, nI_1, show σ.2.1 * 10 + 1 = 10 * σ.2.1 + 2 - 1 by omega]
        obtain ⟨w1, a1, a2, a3⟩ := C_place hu (q := to) (x := 10 * σ.2.1 + 2) ht (by omega) (fun s hs e => by omega)
        obtain ⟨w2, b1, b2, b3⟩ := C_place a2 (q := to) (x := 0) ht (by omega) (fun s hs e => by omega)
        rw [sS_back2 σ h0] at b2
        rw [encM_0] at b1
        rw [em, a1, Option.bind_some]
        have g99 : ∀ (k43 : Int32 → Int32 → Int32 → Int32 → Int32 → mvW → Option (Int32 × mvW)) (x2 x3 x4 : Int32), f_X3_safeDrops_99 k43 (nI σ.2.1) x2 x3 x4 (nI to) w1 = k43 (nI σ.2.1) x2 x3 (x4 ||| ((1 : Int32) <<< (nI to &&& 31))) (nI (to + 1)) w2 := by
          intro k43 x2 x3 x4
          unfold f_X3_safeDrops_99
          rw [C_bit, Option.bind_some]
          dsimp only
          rw [b1, Option.bind_some, nI_1]
        have ihT : safeD σ.1 σ.2.1 to = true → ∃ w', f_X3_safeDrops_43 n (nI σ.2.1) (kgI σ.1 σ.2.1) (if is = true then 1 else 0) (mkN (safeD σ.1 σ.2.1) to ||| ((1 : Int32) <<< (nI to &&& 31))) (nI (to + 1)) w2 = some (msk (safeD σ.1 σ.2.1), w') ∧ CI w' σ ∧ FC w w' := by
          intro hs
          have := ih (to + 1) n w2 (by omega) (by omega) b2 (hf.trans (a3.trans b3))
          rw [mkN, if_pos (show safeD σ.1 σ.2.1 to = true from hs)] at this
          exact this
        have ihF : safeD σ.1 σ.2.1 to = false → ∃ w', f_X3_safeDrops_43 n (nI σ.2.1) (kgI σ.1 σ.2.1) (if is = true then 1 else 0) (mkN (safeD σ.1 σ.2.1) to) (nI (to + 1)) w2 = some (msk (safeD σ.1 σ.2.1), w') ∧ CI w' σ ∧ FC w w' := by
          intro hs
          have := ih (to + 1) n w2 (by omega) (by omega) b2 (hf.trans (a3.trans b3))
          rw [mkN, if_neg (show ¬ safeD σ.1 σ.2.1 to = true by rw [hs]; decide)] at this
          exact this
        have hkg : kg (sS σ to (10 * σ.2.1 + 2)).1 σ.2.1 = kg σ.1 σ.2.1 := kg_cong (fun q _ => by
          show (if q = to then 10 * σ.2.1 + 2 else σ.1 q) = 10 * σ.2.1 + 1 ↔ σ.1 q = 10 * σ.2.1 + 1
          by_cases e : q = to
          · rw [if_pos e]; subst e; omega
          · rw [if_neg e])
        obtain ⟨n1, c1, c2, c3⟩ := C_cnt a2 (s := σ.2.1) (by omega)
        rw [kgI_cong hkg] at c2
        cases is
        · rw [if_neg (show ¬ (¬ (if false = true then (1 : Int32) else 0) = 0) from fun h => h rfl), c2, Option.bind_some]
          dsimp only
          by_cases hn1 : 0 < n1
          · rw [if_pos (nI_ne0 hn1 (by omega)), b1, Option.bind_some]
            exact ihF (by
              have hc : chk (sb σ.1 to (10 * σ.2.1 + 2)) σ.2.1 = true := c3.mp hn1
              simp [safeD, hc])
          · have : n1 = 0 := by omega
            rw [this, if_neg (by decide), g99]
            exact ihT (by
              have hc : chk (sb σ.1 to (10 * σ.2.1 + 2)) σ.2.1 = false := by
                cases hh : chk (sb σ.1 to (10 * σ.2.1 + 2)) σ.2.1 with
                | false => rfl
                | true => exact absurd (c3.mpr hh) hn1
              simp [safeD, hc, h0])
        · rw [if_pos (show ¬ (if true = true then (1 : Int32) else 0) = 0 by decide), g99]
          exact ihT (by simp [safeD, h0, chk_block ht1 h0 (his rfl)])
      · rw [if_neg (fun h => h0 ((px_encE _ h20).mp h))]
        have := ih (to + 1) n u (by omega) (by omega) hu hf
        rw [mkN, if_neg (show ¬ safeD σ.1 σ.2.1 to = true by simp [safeD, h0])] at this
        exact this
  by_cases hn0 : 0 < n0
  · rw [if_pos (nI_ne0 hn0 (by omega))]
    exact loop false (fun h => by cases h) 25 0 4096 w (by omega) (by omega) hC (FC.refl w)
  · have : n0 = 0 := by omega
    rw [this, if_neg (by decide)]
    exact loop true (fun _ => by
      cases hh : chk σ.1 σ.2.1 with
      | false => rfl
      | true => exact absurd (m3.mpr hh) hn0) 25 0 4096 w (by omega) (by omega) hC (FC.refl w)
