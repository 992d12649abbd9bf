/-! the class's position, held against a row -/
def encM (x : Nat) : Int32 := if x = 0 then 99 else nI (x - 1)
def kgI (b : Nat → Nat) (s : Nat) : Int32 := match kg b s with | none => -1 | some q => nI q
theorem kgI_some {b : Nat → Nat} {s q : Nat} (h : kg b s = some q) : kgI b s = nI q := by unfold kgI; rw [h]
theorem kgI_none {b : Nat → Nat} {s : Nat} (h : kg b s = none) : kgI b s = -1 := by unfold kgI; rw [h]
theorem kgI_cong {b b' : Nat → Nat} {s : Nat} (h : kg b s = kg b' s) : kgI b s = kgI b' s := by unfold kgI; rw [h]
def CA (a : Nat → Int32) (σ : PS) : Prop := (∀ q, q < 25 → a q = encM (σ.1 q)) ∧ a 39 = nI σ.2.1 ∧ (∀ s k, s < 2 → 1 ≤ k → k ≤ 5 → a (25 + 6 * s + k) = σ.2.2.1 (5 * s + k - 1)) ∧ (∀ i, i < 4 → a (40 + i) = σ.2.2.2 i) ∧ ∀ s, s < 2 → a (37 + s) = (kgI σ.1 s)
def CB (w : mvW) : Prop := ∀ q d, q < 25 → d < 8 → w 3 (8 * q + d) = (match nxt q d with | none => -1 | some r => nI r)
def KU (b : Nat → Nat) : Prop := ∀ s, s < 2 → ∀ q r, q < 25 → r < 25 → b q = 10 * s + 1 → b r = 10 * s + 1 → q = r
def CI (w : mvW) (σ : PS) : Prop := CA (w 2) σ ∧ CB w ∧ KU σ.1 ∧ OKs σ
def FC (w w' : mvW) : Prop := ∀ c, c ≠ 2 → w' c = w c
theorem FC.refl (w : mvW) : FC w w := fun _ _ => rfl
theorem FC.trans {a b c : mvW} (h1 : FC a b) (h2 : FC b c) : FC a c := fun k hk => (h2 k hk).trans (h1 k hk)
theorem CB.keep {w w' : mvW} (h : CB w) (hf : FC w w') : CB w' := fun q d hq hd => by rw [hf 3 (by decide)]; exact h q d hq hd
theorem kgN_some {b : Nat → Nat} {s : Nat} : ∀ n q r, kgN b s n q = some r → q ≤ r ∧ r < q + n ∧ b r = 10 * s + 1
  | 0, q, r, h => by simp [kgN] at h
  | n + 1, q, r, h => by
    rw [kgN] at h
    by_cases e : b q = 10 * s + 1
    · rw [if_pos e] at h; cases h; exact ⟨Nat.le_refl _, by omega, e⟩
    · rw [if_neg e] at h
      have := kgN_some n (q + 1) r h
      omega
theorem kgN_none {b : Nat → Nat} {s : Nat} : ∀ n q, kgN b s n q = none → ∀ r, q ≤ r → r < q + n → b r ≠ 10 * s + 1
  | 0, q, _, r, h1, h2 => by omega
  | n + 1, q, h, r, h1, h2 => by
    rw [kgN] at h
    by_cases e : b q = 10 * s + 1
    · rw [if_pos e] at h; cases h
    · rw [if_neg e] at h
      by_cases e2 : r = q
      · rw [e2]; exact e
      · exact kgN_none n (q + 1) h r (by omega) (by omega)
theorem kg_some {b : Nat → Nat} {s r : Nat} (h : kg b s = some r) : r < 25 ∧ b r = 10 * s + 1 := by
  have := kgN_some 25 0 r h
  omega
theorem kg_none {b : Nat → Nat} {s : Nat} (h : kg b s = none) : ∀ r, r < 25 → b r ≠ 10 * s + 1 := fun r hr => kgN_none 25 0 h r (by omega) (by omega)
theorem kg_is {b : Nat → Nat} {s r : Nat} (hu : ∀ q, q < 25 → b q = 10 * s + 1 → q = r) (hr : r < 25) (hb : b r = 10 * s + 1) : kg b s = some r := by
  cases h : kg b s with
  | none => exact absurd hb (kg_none h r hr)
  | some q => obtain ⟨h1, h2⟩ := kg_some h; rw [hu q h1 h2]
theorem kg_no {b : Nat → Nat} {s : Nat} (h : ∀ r, r < 25 → b r ≠ 10 * s + 1) : kg b s = none := by
  cases hk : kg b s with
  | none => rfl
  | some q => obtain ⟨h1, h2⟩ := kg_some hk; exact absurd h2 (h q h1)
theorem kg_cong {b b' : Nat → Nat} {s : Nat} (h : ∀ q, q < 25 → (b q = 10 * s + 1 ↔ b' q = 10 * s + 1)) : kg b s = kg b' s := by
  have key : ∀ n q, q + n ≤ 25 → kgN b s n q = kgN b' s n q := by
    intro n
    induction n with
    | zero => intro q _; rfl
    | succ n ih =>
      intro q hq
      rw [kgN, kgN, ih (q + 1) (by omega)]
      by_cases e : b q = 10 * s + 1
      · rw [if_pos e, if_pos ((h q (by omega)).mp e)]
      · rw [if_neg e, if_neg (fun h2 => e ((h q (by omega)).mpr h2))]
  exact key 25 0 (by omega)
/-- a board with another man on a square -/
def sb (b : Nat → Nat) (q x : Nat) : Nat → Nat := fun r => if r = q then x else b r
def sS (σ : PS) (q x : Nat) : PS := (sb σ.1 q x, σ.2)
theorem px_sq {q : Nat} (hq : q < 25) (w : mvW) : f_X4_isSquare (nI q) w = some (1, w) := by
  unfold f_X4_isSquare
  rw [if_neg (nI_pos (by omega)), if_neg (q_nle (L := 25) (b := 25) rfl hq (by omega))]
theorem px_man : ∀ x, x ≤ 20 → (encM x < 0 ∨ 20 ≤ encM x ↔ x = 0) := by decide +kernel
theorem px_isMan {x : Nat} (hx : x ≤ 20) (w : mvW) : f_X4_isMan (encM x) w = some (if x = 0 then 0 else 1, w) := by
  unfold f_X4_isMan
  have h := px_man x hx
  by_cases h1 : encM x < 0
  · rw [if_pos h1, if_pos (h.mp (Or.inl h1))]
  · rw [if_neg h1]
    by_cases h2 : 20 ≤ encM x
    · rw [if_pos h2, if_pos (h.mp (Or.inr h2))]
    · rw [if_neg h2, if_neg (fun hx0 => by rcases h.mpr hx0 with g | g; exact h1 g; exact h2 g)]
theorem px_kind : ∀ x, x ≤ 20 → x ≠ 0 → (encM x - encM x / 10 * 10 = nI (knd x) ∧ encM x / 10 = nI ((x - 1) / 10)) := by decide +kernel
theorem px_encE : ∀ x, x ≤ 20 → (encM x = 99 ↔ x = 0) := by decide +kernel
theorem C_manOn {w : mvW} {σ : PS} (hC : CI w σ) {q : Nat} (hq : q < 25) : f_X2_manOn (nI q) w = some (encM (σ.1 q), w) := by
  unfold f_X2_manOn
  rw [if_neg (nI_pos (by omega)), if_neg (q_nle (L := 25) (b := 25) rfl hq (by omega)), px_ix (by omega) (by decide), Option.bind_some, hC.1.1 q hq]
theorem px_37 {s : Nat} (h : s < 2) : mv_ix 44 (37 + nI s) = some (37 + s) := px_ixe (x := 37 + nI s) (nI_add 37 s) (by omega) (by decide)
theorem C_kingOf {w : mvW} {σ : PS} (hC : CI w σ) {s : Nat} (hs : s < 2) : f_X2_kingOf (nI s) w = some ((kgI σ.1 s), w) := by
  unfold f_X2_kingOf f_X4_isSide
  rw [if_neg (nI_pos (by omega)), if_neg (q_nle (L := 2) (b := 2) rfl hs (by omega)), Option.bind_some]
  dsimp only
  rw [if_neg (by decide), px_37 hs, Option.bind_some, hC.1.2.2.2.2 s hs]
theorem C_sideToPlay {w : mvW} {σ : PS} (hC : CI w σ) : f_X2_sideToPlay w = some (nI σ.2.1, w) := by
  unfold f_X2_sideToPlay
  rw [hC.1.2.1]
theorem rd2 (w : mvW) (i j : Nat) (x : Int32) : mv_up w 2 i x 2 j = if j = i then x else w 2 j := by simp [mv_up, upd]
/-- the second half of place: the new man is put -/
theorem C_place42 {q x : Nat} (hq : q < 25) (hx : x ≤ 20) (w : mvW) : ∃ w', f_X2_place_42 (nI q) (encM x) w = some w' ∧ FC w w' ∧ ∀ j, w' 2 j = if (x = 1 ∧ j = 37) ∨ (x = 11 ∧ j = 38) then nI q else if j = q then encM x else w 2 j := by
  unfold f_X2_place_42
  rw [px_ix (by omega) (by decide), Option.bind_some, px_isMan hx, Option.bind_some]
  simp only []
  by_cases h0 : x = 0
  · subst h0
    rw [if_pos rfl, if_pos rfl]
    refine ⟨_, rfl, fun c hc => by funext j; exact rdn _ _ _ _ _ _ hc, fun j => ?_⟩
    rw [rd2, if_neg (show ¬ ((0 = 1 ∧ j = 37) ∨ (0 = 11 ∧ j = 38)) by omega)]
  · rw [if_neg h0, if_neg (by decide)]
    unfold f_X4_kindOf f_X4_sideOf
    obtain ⟨k1, k2⟩ := px_kind x hx h0
    rw [Option.bind_some]
    simp only [k1]
    by_cases hk : knd x = 0
    · rw [if_neg (by rw [hk]; exact fun h => h rfl), Option.bind_some]
      simp only [k2]
      rw [px_37 (s := (x - 1) / 10) (by omega), Option.bind_some]
      refine ⟨_, rfl, fun c hc => by funext j; rw [rdn _ _ _ _ _ _ hc, rdn _ _ _ _ _ _ hc], fun j => ?_⟩
      rw [rd2, rd2]
      have hx2 : x = 1 ∨ x = 11 := by unfold knd at hk; omega
      rcases hx2 with rfl | rfl
      · by_cases e : j = 37
        · rw [if_pos (by omega), if_pos (by omega)]
        · rw [if_neg (show ¬ j = 37 + (1 - 1) / 10 by omega), if_neg (show ¬ ((1 = 1 ∧ j = 37) ∨ (1 = 11 ∧ j = 38)) by omega)]
      · by_cases e : j = 38
        · rw [if_pos (by omega), if_pos (by omega)]
        · rw [if_neg (show ¬ j = 37 + (11 - 1) / 10 by omega), if_neg (show ¬ ((11 = 1 ∧ j = 37) ∨ (11 = 11 ∧ j = 38)) by omega)]
    · rw [if_pos (nI_ne0 (by omega) (by unfold knd; omega))]
      refine ⟨_, rfl, fun c hc => by funext j; exact rdn _ _ _ _ _ _ hc, fun j => ?_⟩
      have hx2 : x ≠ 1 ∧ x ≠ 11 := by constructor <;> (intro e; subst e; exact hk rfl)
      rw [rd2, if_neg (show ¬ ((x = 1 ∧ j = 37) ∨ (x = 11 ∧ j = 38)) by omega)]
/-- place, as it changes the row -/
theorem C_placeR {w : mvW} {q x y : Nat} (hq : q < 25) (hx : x ≤ 20) (hy : y ≤ 20) (hw : w 2 q = encM y) : ∃ w', f_X2_place (nI q) (encM x) w = some w' ∧ FC w w' ∧ ∀ j, w' 2 j = if (x = 1 ∧ j = 37) ∨ (x = 11 ∧ j = 38) then nI q else if j = q then encM x else if (y = 1 ∧ j = 37) ∨ (y = 11 ∧ j = 38) then -1 else w 2 j := by
  unfold f_X2_place
  rw [px_sq hq, Option.bind_some]
  dsimp only
  rw [if_pos (by decide), px_ix (by omega) (by decide), Option.bind_some]
  simp only [hw]
  rw [px_isMan hy, Option.bind_some]
  simp only []
  by_cases h0 : y = 0
  · rw [if_pos h0, if_pos rfl]
    obtain ⟨w', e1, e2, e3⟩ := C_place42 hq hx w
    refine ⟨w', e1, e2, fun j => ?_⟩
    rw [e3 j, if_neg (show ¬ ((y = 1 ∧ j = 37) ∨ (y = 11 ∧ j = 38)) by omega)]
  · rw [if_neg h0, if_neg (by decide)]
    unfold f_X4_kindOf f_X4_sideOf
    obtain ⟨k1, k2⟩ := px_kind y hy h0
    rw [Option.bind_some]
    simp only [k1]
    by_cases hk : knd y = 0
    · rw [if_neg (by rw [hk]; exact fun h => h rfl), Option.bind_some]
      simp only [k2]
      rw [px_37 (s := (y - 1) / 10) (by omega), Option.bind_some]
      obtain ⟨w', e1, e2, e3⟩ := C_place42 hq hx (mv_up w 2 (37 + (y - 1) / 10) (-1))
      refine ⟨w', e1, fun c hc => ?_, fun j => ?_⟩
      · rw [e2 c hc]; funext j; exact rdn _ _ _ _ _ _ hc
      · rw [e3 j, rd2]
        have hy2 : y = 1 ∨ y = 11 := by unfold knd at hk; omega
        rcases hy2 with rfl | rfl
        · by_cases e : j = 37
          · rw [if_pos (show j = 37 + (1 - 1) / 10 by omega), if_pos (show (1 = 1 ∧ j = 37) ∨ (1 = 11 ∧ j = 38) by omega)]
          · rw [if_neg (show ¬ j = 37 + (1 - 1) / 10 by omega), if_neg (show ¬ ((1 = 1 ∧ j = 37) ∨ (1 = 11 ∧ j = 38)) by omega)]
        · by_cases e : j = 38
          · rw [if_pos (show j = 37 + (11 - 1) / 10 by omega), if_pos (show (11 = 1 ∧ j = 37) ∨ (11 = 11 ∧ j = 38) by omega)]
          · rw [if_neg (show ¬ j = 37 + (11 - 1) / 10 by omega), if_neg (show ¬ ((11 = 1 ∧ j = 37) ∨ (11 = 11 ∧ j = 38)) by omega)]
    · rw [if_pos (nI_ne0 (by omega) (by unfold knd; omega))]
      obtain ⟨w', e1, e2, e3⟩ := C_place42 hq hx w
      refine ⟨w', e1, e2, fun j => ?_⟩
      have hy2 : y ≠ 1 ∧ y ≠ 11 := by constructor <;> (intro e; subst e; exact hk rfl)
      rw [e3 j, if_neg (show ¬ ((y = 1 ∧ j = 37) ∨ (y = 11 ∧ j = 38)) by omega)]
/-- place keeps the class's position right -/
theorem C_place {w : mvW} {σ : PS} (hC : CI w σ) {q x : Nat} (hq : q < 25) (hx : x ≤ 20) (hk : ∀ s, s < 2 → x = 10 * s + 1 → ∀ r, r < 25 → r ≠ q → σ.1 r ≠ 10 * s + 1) : ∃ w', f_X2_place (nI q) (encM x) w = some w' ∧ CI w' (sS σ q x) ∧ FC w w' := by
  obtain ⟨⟨a1, a2, a3, a4, a5⟩, hB, hU, hO⟩ := hC
  have hy := hO.1 q hq
  obtain ⟨w', e1, e2, e3⟩ := C_placeR (w := w) (y := σ.1 q) hq hx hy (a1 q hq)
  refine ⟨w', e1, ⟨⟨fun r hr => ?_, ?_, fun s k hs h1 h5 => ?_, fun i hi => ?_, fun s hs => ?_⟩, hB.keep e2, fun s hs r1 r2 h1 h2 g1 g2 => ?_, fun r hr => ?_, hO.2⟩, e2⟩
  · rw [e3 r, if_neg (by omega)]
    show _ = encM (sb σ.1 q x r)
    unfold sb
    by_cases e : r = q
    · rw [if_pos e, if_pos e]
    · rw [if_neg e, if_neg e, if_neg (by omega)]; exact a1 r hr
  · rw [e3, if_neg (by omega), if_neg (by omega), if_neg (by omega)]; exact a2
  · rw [e3, if_neg (by omega), if_neg (by omega), if_neg (by omega)]; exact a3 s k hs h1 h5
  · rw [e3, if_neg (by omega), if_neg (by omega), if_neg (by omega)]; exact a4 i hi
  · rw [e3]
    show _ = (kgI (sb σ.1 q x) s)
    by_cases c1 : x = 10 * s + 1
    · rw [if_pos (by omega), kgI_some (kg_is (r := q) (fun r hr hb => ?_) hq (by simp [sb, c1]))]
      unfold sb at hb
      by_cases e : r = q
      · exact e
      · rw [if_neg e] at hb; exact absurd hb (hk s hs c1 r hr e)
    · rw [if_neg (by omega), if_neg (by omega)]
      by_cases c2 : σ.1 q = 10 * s + 1
      · rw [if_pos (by omega), kgI_none (kg_no (fun r hr hb => ?_))]
        unfold sb at hb
        by_cases e : r = q
        · rw [if_pos e] at hb; exact c1 hb
        · rw [if_neg e] at hb; exact e (hU s hs r q hr hq hb c2)
      · rw [if_neg (by omega), a5 s hs]
        rw [kgI_cong (kg_cong (b := sb σ.1 q x) (b' := σ.1) (fun r hr => ?_))]
        unfold sb
        by_cases e : r = q
        · rw [if_pos e]; subst e; exact ⟨fun h => absurd h c1, fun h => absurd h c2⟩
        · rw [if_neg e]
  · have g1' : (if r1 = q then x else σ.1 r1) = 10 * s + 1 := g1
    have g2' : (if r2 = q then x else σ.1 r2) = 10 * s + 1 := g2
    by_cases d1 : r1 = q
    · by_cases d2 : r2 = q
      · rw [d1, d2]
      · rw [if_pos d1] at g1'; rw [if_neg d2] at g2'
        exact absurd g2' (hk s hs g1' r2 h2 d2)
    · by_cases d2 : r2 = q
      · rw [if_neg d1] at g1'; rw [if_pos d2] at g2'
        exact absurd g1' (hk s hs g2' r1 h1 d1)
      · rw [if_neg d1] at g1'; rw [if_neg d2] at g2'
        exact hU s hs r1 r2 h1 h2 g1' g2'
  · show (if r = q then x else σ.1 r) ≤ 20
    split
    · exact hx
    · exact hO.1 r hr
