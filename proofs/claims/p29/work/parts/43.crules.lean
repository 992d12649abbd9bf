/-! masks; boards that differ in own men; the class's safe targets -/
def mkN (f : Nat → Bool) : Nat → Int32
  | 0 => 0
  | n + 1 => if f n = true then mkN f n ||| ((1 : Int32) <<< (nI n &&& 31)) else mkN f n
def msk (f : Nat → Bool) : Int32 := mkN f 25
theorem mkN_bit (f : Nat → Bool) : ∀ n, n ≤ 25 → ∀ t, t < 32 → bt (mkN f n) t = (decide (t < n) && f t)
  | 0, _, t, _ => by rw [mkN, b_0, decide_eq_false (by omega), Bool.false_and]
  | n + 1, hn, t, ht => by
    rw [mkN]
    have ih := mkN_bit f n (by omega) t ht
    by_cases hf : f n = true
    · rw [if_pos hf, b_or, ih, px_one (by omega) ht]
      by_cases e : n = t
      · subst e; rw [hf, decide_eq_true rfl, decide_eq_true (by omega : n < n + 1)]; simp
      · rw [decide_eq_false e, Bool.or_false]
        by_cases h2 : t < n
        · rw [decide_eq_true h2, decide_eq_true (by omega)]
        · rw [decide_eq_false h2, decide_eq_false (by omega)]
    · rw [if_neg hf, ih]
      by_cases e : n = t
      · subst e
        have : f n = false := by simpa using hf
        rw [this, Bool.and_false, Bool.and_false]
      · by_cases h2 : t < n
        · rw [decide_eq_true h2, decide_eq_true (by omega)]
        · rw [decide_eq_false h2, decide_eq_false (by omega)]
theorem msk_bit (f : Nat → Bool) {t : Nat} (ht : t < 25) : bt (msk f) t = f t := by
  rw [msk, mkN_bit f 25 (by omega) t (by omega), decide_eq_true ht, Bool.true_and]
theorem msk_hi (f : Nat → Bool) {t : Nat} (h1 : 25 ≤ t) (h2 : t < 32) : bt (msk f) t = false := by
  rw [msk, mkN_bit f 25 (by omega) t h2, decide_eq_false (by omega), Bool.false_and]
theorem mkN_cong {f g : Nat → Bool} : ∀ n, (∀ t, t < n → f t = g t) → mkN f n = mkN g n
  | 0, _ => rfl
  | n + 1, h => by rw [mkN, mkN, h n (by omega), mkN_cong n (fun t ht => h t (by omega))]
theorem C_has {t : Nat} (x : Int32) (ht : t < 25) (w : mvW) : f_X4_has x (nI t) w = some (if bt x t = true then 1 else 0, w) := by
  unfold f_X4_has
  rw [px_bit x (by omega)]
  by_cases h : bt x t = true
  · rw [if_pos h, if_neg (by decide), if_pos h]
  · rw [if_neg h, if_pos (by decide), if_neg h]
theorem C_bit (t : Nat) (w : mvW) : f_X4_bit (nI t) w = some ((1 : Int32) <<< (nI t &&& 31), w) := rfl
/-- whether a side's man may go onto a square -/
def cEn (b : Nat → Nat) (s to : Nat) : Bool := decide (b to = 0) || (decide ((b to - 1) / 10 ≠ s) && decide (knd (b to) ≠ 0))
theorem px_side : ∀ x, x ≤ 20 → (encM x / 10 = nI (if x = 0 then 9 else (x - 1) / 10)) := by decide +kernel
theorem C_canEnter {w : mvW} {σ : PS} (hC : CI w σ) {s to : Nat} (hs : s < 10) (ht : to < 25) : f_X3_canEnter (nI s) (nI to) w = some (if cEn σ.1 s to = true then 1 else 0, w) := by
  have h20 := hC.2.2.2.1 to ht
  unfold f_X3_canEnter
  rw [C_manOn hC ht, Option.bind_some]
  dsimp only
  by_cases h0 : σ.1 to = 0
  · rw [if_pos ((px_encE _ h20).mpr h0), if_pos (by simp [cEn, h0])]
  · rw [if_neg (fun h => h0 ((px_encE _ h20).mp h))]
    unfold f_X4_sideOf f_X4_kindOf
    obtain ⟨k1, k2⟩ := px_kind _ h20 h0
    simp only [Option.bind_some]
    rw [k1, k2]
    by_cases h1 : (σ.1 to - 1) / 10 = s
    · rw [if_pos (by rw [h1]), if_neg (by simp [cEn, h0, h1])]
    · rw [if_neg (fun h => h1 ((nI_eq (by omega) (by omega)).mp h))]
      by_cases h2 : knd (σ.1 to) = 0
      · rw [if_pos (by rw [h2]; rfl), if_neg (by simp [cEn, h0, h2])]
      · rw [if_neg (nI_ne0 (by omega) (by unfold knd; omega)), if_pos (by simp [cEn, h0, h1, h2])]
/-- where a man has gone -/
def mvB (b : Nat → Nat) (q to : Nat) : Nat → Nat := sb (sb b q 0) to (b q)
def safeT (b : Nat → Nat) (q to : Nat) : Bool := decide (b q ≠ 0) && (att b (b q) q to && (cEn b ((b q - 1) / 10) to && !chk (mvB b q to) ((b q - 1) / 10)))
theorem sS_back (σ : PS) (q to : Nat) : sS (sS (sS (sS σ q 0) to (σ.1 q)) to (σ.1 to)) q (σ.1 q) = σ := by
  obtain ⟨b, r⟩ := σ
  unfold sS sb
  simp only [Prod.mk.injEq, and_true]
  funext r
  by_cases e1 : r = q
  · subst e1; simp
  · by_cases e2 : r = to
    · subst e2; simp [e1]
    · simp [e1, e2]
theorem encM_0 : encM 0 = 99 := rfl
/-- the four places of one try: the position is as it was; what the test in the middle says -/
theorem C_try {w : mvW} {σ : PS} (hC : CI w σ) {q to : Nat} (hq : q < 25) (ht : to < 25) (hne : to ≠ q) (h0 : σ.1 q ≠ 0) (hen : cEn σ.1 ((σ.1 q - 1) / 10) to = true) : ∃ w1 w2 n, f_X2_place (nI q) 99 w = some w1 ∧ f_X2_place (nI to) (encM (σ.1 q)) w1 = some w2 ∧ n ≤ 25 ∧ ((f_X2_kingOf (nI ((σ.1 q - 1) / 10)) w2).bind fun z => f_X2_countAttackers (1 - nI ((σ.1 q - 1) / 10)) z.1 z.2) = some (nI n, w2) ∧ (0 < n ↔ chk (mvB σ.1 q to) ((σ.1 q - 1) / 10) = true) ∧ ∃ w3 w4, f_X2_place (nI to) (encM (σ.1 to)) w2 = some w3 ∧ f_X2_place (nI q) (encM (σ.1 q)) w3 = some w4 ∧ CI w4 σ ∧ FC w w4 := by
  have hq20 := hC.2.2.2.1 q hq
  have ht20 := hC.2.2.2.1 to ht
  have hU := hC.2.2.1
  have nk : ∀ s, s < 2 → σ.1 to ≠ 10 * s + 1 := by
    intro s hs e
    unfold cEn at hen
    rw [e] at hen
    have : knd (10 * s + 1) = 0 := by unfold knd; omega
    simp [this] at hen
  obtain ⟨w1, a1, a2, a3⟩ := C_place hC (q := q) (x := 0) hq (by omega) (fun s hs e => by omega)
  obtain ⟨w2, b1, b2, b3⟩ := C_place a2 (q := to) (x := σ.1 q) ht hq20 (fun s hs e r hr hrn hh => by
    have hh' : (if r = q then 0 else σ.1 r) = 10 * s + 1 := hh
    by_cases er : r = q
    · rw [if_pos er] at hh'; omega
    · rw [if_neg er] at hh'; exact er (hU s hs r q hr hq hh' e))
  have hs2 : (σ.1 q - 1) / 10 < 2 := by omega
  obtain ⟨n, n1, n2, n3⟩ := C_chk b2 hs2
  obtain ⟨w3, c1, c2, c3⟩ := C_place b2 (q := to) (x := σ.1 to) ht ht20 (fun s hs e => absurd e (nk s hs))
  obtain ⟨w4, d1, d2, d3⟩ := C_place c2 (q := q) (x := σ.1 q) hq hq20 (fun s hs e r hr hrn hh => by
    have hh' : (if r = to then σ.1 to else if r = to then σ.1 q else if r = q then 0 else σ.1 r) = 10 * s + 1 := hh
    by_cases er : r = to
    · rw [if_pos er] at hh'; exact nk s hs hh'
    · rw [if_neg er, if_neg er, if_neg hrn] at hh'; exact hrn (hU s hs r q hr hq hh' e))
  rw [sS_back] at d2
  exact ⟨w1, w2, n, by rw [← encM_0]; exact a1, b1, n1, n2, n3, w3, w4, c1, d1, d2, a3.trans (b3.trans (c3.trans d3))⟩
theorem C_safeTargets {w : mvW} {σ : PS} (hC : CI w σ) {q : Nat} (hq : q < 25) : ∃ w', f_X3_safeTargets (nI q) w = some (msk (safeT σ.1 q), w') ∧ CI w' σ ∧ FC w w' := by
  have hq20 := hC.2.2.2.1 q hq
  unfold f_X3_safeTargets
  rw [C_manOn hC hq, Option.bind_some]
  unfold f_X4_sideOf
  rw [Option.bind_some, C_attackedFrom hC hq, Option.bind_some, px_side _ hq20]
  have loop : ∀ k to N u, to + k = 25 → k + 1 ≤ N → CI u σ → FC w u → ∃ w', f_X3_safeTargets_30 N (nI q) (encM (σ.1 q)) (nI (if σ.1 q = 0 then 9 else (σ.1 q - 1) / 10)) (if σ.1 q = 0 then 0 else attM σ.1 (σ.1 q) q) (mkN (safeT σ.1 q) to) (nI to) u = some (msk (safeT σ.1 q), w') ∧ CI w' σ ∧ FC w w' := by
    intro k
    induction k with
    | zero =>
      intro to N u hk hN hu hf
      obtain ⟨n, rfl⟩ : ∃ n, N = n + 1 := ⟨N - 1, by omega⟩
      have : to = 25 := by omega
      subst this
      exact ⟨u, by rw [f_X3_safeTargets_30, if_pos (by decide)]; rfl, hu, hf⟩
    | succ k ih =>
      intro to N u hk hN hu hf
      obtain ⟨n, rfl⟩ : ∃ n, N = n + 1 := ⟨N - 1, by omega⟩
      have ht : to < 25 := by omega
      rw [f_X3_safeTargets_30, if_neg (q_nle (L := 25) (b := 25) rfl ht (by omega)), C_has _ ht, Option.bind_some, nI_1]
      have skip : safeT σ.1 q to = false → ∀ v, CI v σ → FC w v → ∃ w', f_X3_safeTargets_30 n (nI q) (encM (σ.1 q)) (nI (if σ.1 q = 0 then 9 else (σ.1 q - 1) / 10)) (if σ.1 q = 0 then 0 else attM σ.1 (σ.1 q) q) (mkN (safeT σ.1 q) to) (nI (to + 1)) v = some (msk (safeT σ.1 q), w') ∧ CI w' σ ∧ FC w w' := by
        intro hs v hv hfv
        have := ih (to + 1) n v (by omega) (by omega) hv hfv
        rw [mkN, if_neg (show ¬ safeT σ.1 q to = true by rw [hs]; decide)] at this
        exact this
      have take : safeT σ.1 q to = true → ∀ v, CI v σ → FC w v → ∃ w', f_X3_safeTargets_30 n (nI q) (encM (σ.1 q)) (nI (if σ.1 q = 0 then 9 else (σ.1 q - 1) / 10)) (if σ.1 q = 0 then 0 else attM σ.1 (σ.1 q) q) (mkN (safeT σ.1 q) to ||| ((1 : Int32) <<< (nI to &&& 31))) (nI (to + 1)) v = some (msk (safeT σ.1 q), w') ∧ CI w' σ ∧ FC w w' := by
        intro hs v hv hfv
        have := ih (to + 1) n v (by omega) (by omega) hv hfv
        rw [mkN, if_pos (show safeT σ.1 q to = true from hs)] at this
        exact this
      by_cases h0 : σ.1 q = 0
      · have e1 : bt (if σ.1 q = 0 then 0 else attM σ.1 (σ.1 q) q) to = false := by rw [if_pos h0, b_0]
        rw [e1]
        dsimp only
        rw [if_pos (by decide)]
        exact skip (by simp [safeT, h0]) u hu hf
      · have e1 : bt (if σ.1 q = 0 then 0 else attM σ.1 (σ.1 q) q) to = att σ.1 (σ.1 q) q to := by rw [if_neg h0, attM_bit _ _ hq ht]
        rw [e1]
        by_cases ha : att σ.1 (σ.1 q) q to = true
        · simp only [if_pos ha]
          rw [if_neg (by decide), if_neg h0, C_canEnter hu (by omega) ht, Option.bind_some]
          by_cases he : cEn σ.1 ((σ.1 q - 1) / 10) to = true
          · simp only [if_pos he]
            rw [if_pos (by decide), C_manOn hu ht, Option.bind_some]
            obtain ⟨w1, w2, m, t1, t2, t3, t4, t5, w3, w4, t6, t7, t8, t9⟩ := C_try hu hq ht (att_ne hq ha) h0 he
            dsimp only
            rw [t1, Option.bind_some, t2, Option.bind_some]
            obtain ⟨zk, tk1, tk2⟩ := Option.bind_eq_some_iff.mp t4
            rw [tk1, Option.bind_some, tk2, Option.bind_some]
            dsimp only
            have g122 : ∀ (sf : Int32) (k30 : Int32 → Int32 → Int32 → Int32 → Int32 → Int32 → mvW → Option (Int32 × mvW)) (x3 x4 : Int32), f_X3_safeTargets_122 k30 (nI q) (encM (σ.1 q)) x3 x4 sf (nI to) (encM (σ.1 to)) w2 = k30 (nI q) (encM (σ.1 q)) x3 x4 sf (nI (to + 1)) w4 := by
              intro sf k30 x3 x4
              unfold f_X3_safeTargets_122
              rw [t6, Option.bind_some, t7, Option.bind_some, nI_1]
            by_cases hm : 0 < m
            · rw [if_pos (nI_ne0 hm (by omega)), g122]
              have := skip (by simp [safeT, h0, ha, he, t5.mp hm]) w4 t8 (hf.trans t9)
              rw [if_neg h0, if_neg h0] at this
              rw [if_neg h0]
              exact this
            · have hm0 : m = 0 := by omega
              rw [hm0, if_neg (by decide), C_bit, Option.bind_some, g122]
              have hc : chk (mvB σ.1 q to) ((σ.1 q - 1) / 10) = false := by
                cases hh : chk (mvB σ.1 q to) ((σ.1 q - 1) / 10) with
                | false => rfl
                | true => exact absurd (t5.mpr hh) hm
              have := take (by simp [safeT, h0, ha, he, hc]) w4 t8 (hf.trans t9)
              rw [if_neg h0, if_neg h0] at this
              dsimp only
              rw [if_neg h0]
              exact this
          · simp only [if_neg he]
            rw [if_neg (by decide)]
            have := skip (by simp [safeT, he]) u hu hf
            rw [if_neg h0, if_neg h0] at this
            rw [if_neg h0]
            exact this
        · simp only [if_neg ha]
          rw [if_pos trivial]
          exact skip (by simp [safeT, ha]) u hu hf
  exact loop 25 0 4096 w (by omega) (by omega) hC (FC.refl w)
