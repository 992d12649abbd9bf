/-! what ties the class's world to the reference's; the history of both -/
def RV (a : Nat → Int32) (σ : PS) : Prop := (∀ q, q < 25 → a q = nI (σ.1 q)) ∧ a 35 = nI σ.2.1 ∧ (∀ i, i < 10 → a (25 + i) = σ.2.2.1 i) ∧ ∀ i, i < 4 → a (36 + i) = σ.2.2.2 i
theorem RW_RV {v : mvW} {σ : PS} : RW v 0 σ ↔ RV (v 1) σ := by
  unfold RW RV RB
  constructor
  · rintro ⟨a, b, c, d⟩
    refine ⟨fun q hq => ?_, b, fun i hi => ?_, fun i hi => ?_⟩
    · have := a q hq; rwa [Nat.zero_add] at this
    · have := c i hi; rwa [Nat.zero_add] at this
    · have := d i hi; rwa [Nat.zero_add] at this
  · rintro ⟨a, b, c, d⟩
    refine ⟨fun q hq => ?_, b, fun i hi => ?_, fun i hi => ?_⟩
    · rw [Nat.zero_add]; exact a q hq
    · rw [Nat.zero_add]; exact c i hi
    · rw [Nat.zero_add]; exact d i hi
theorem RV.eq {a b : Nat → Int32} {σ : PS} (h : RV a σ) (e : ∀ j, j < 40 → b j = a j) : RV b σ := by
  obtain ⟨h1, h2, h3, h4⟩ := h
  exact ⟨fun q hq => (e q (by omega)).trans (h1 q hq), (e 35 (by omega)).trans h2, fun i hi => (e (25 + i) (by omega)).trans (h3 i hi), fun i hi => (e (36 + i) (by omega)).trans (h4 i hi)⟩
theorem CA.eq {a b : Nat → Int32} {σ : PS} (h : CA a σ) (e : ∀ j, j < 44 → b j = a j) : CA b σ := by
  obtain ⟨h1, h2, h3, h4, h5⟩ := h
  exact ⟨fun q hq => (e q (by omega)).trans (h1 q hq), (e 39 (by omega)).trans h2, fun s k hs a1 a5 => (e (25 + 6 * s + k) (by omega)).trans (h3 s k hs a1 a5), fun i hi => (e (40 + i) (by omega)).trans (h4 i hi), fun s hs => (e (37 + s) (by omega)).trans (h5 s hs)⟩
def OKU (σ : PS) : Prop := KU σ.1 ∧ OKs σ
def Hst (w v : mvW) : Prop := ∃ (k : Nat) (hs : Nat → PS), k ≤ 4 ∧ w 9 1 = nI k ∧ v 0 3 = nI k ∧ ∀ i, i < k → CA (fun j => w 10 (44 * i + j)) (hs i) ∧ OKU (hs i) ∧ RV (fun j => v 3 (40 * i + j)) (hs i)
def Txt (w v : mvW) : Prop := ∃ n : Nat, n ≤ 60 ∧ w 11 1 = nI n ∧ v 0 7 = nI n ∧ ∀ i, i < n → w 12 i = v 5 i ∧ ∃ c : Nat, c < 65536 ∧ v 5 i = nI c
def Snp (w v : mvW) : Prop := (w 0 6 = 0 ∧ v 0 5 = 0) ∨ (w 0 6 = 1 ∧ v 0 5 = 1 ∧ ∃ σ, CA (w 15) σ ∧ OKU σ ∧ RV (v 4) σ)
/-- what the class's searches leave alone -/
def KW (w w' : mvW) : Prop := w' 0 = w 0 ∧ w' 9 = w 9 ∧ w' 10 = w 10 ∧ w' 11 1 = w 11 1 ∧ w' 12 = w 12 ∧ w' 15 = w 15
def KV (v v' : mvW) : Prop := ∀ c, c ≠ 1 → v' c = v c
theorem KW.refl (w : mvW) : KW w w := ⟨rfl, rfl, rfl, rfl, rfl, rfl⟩
theorem KW.trans {a b c : mvW} (h : KW a b) (g : KW b c) : KW a c := ⟨g.1.trans h.1, g.2.1.trans h.2.1, g.2.2.1.trans h.2.2.1, g.2.2.2.1.trans h.2.2.2.1, g.2.2.2.2.1.trans h.2.2.2.2.1, g.2.2.2.2.2.trans h.2.2.2.2.2⟩
theorem FC.k {w w' : mvW} (h : FC w w') : KW w w' := ⟨h 0 (by decide), h 9 (by decide), h 10 (by decide), by rw [h 11 (by decide)], h 12 (by decide), h 15 (by decide)⟩
theorem FG.k {w w' : mvW} (h : FG w w') : KW w w' :=
  have g : ∀ c, c ≠ 2 → c ≠ 5 → c ≠ 6 → c ≠ 7 → w' c = w c := h
  ⟨g 0 (by decide) (by decide) (by decide) (by decide), g 9 (by decide) (by decide) (by decide) (by decide), g 10 (by decide) (by decide) (by decide) (by decide), by rw [g 11 (by decide) (by decide) (by decide) (by decide)], g 12 (by decide) (by decide) (by decide) (by decide), g 15 (by decide) (by decide) (by decide) (by decide)⟩
theorem FL.k {w w' : mvW} (h : FL w w') : KW w w' := ⟨h.1 0 (by decide) (by decide), h.1 9 (by decide) (by decide), h.1 10 (by decide) (by decide), by rw [h.1 11 (by decide) (by decide)], h.1 12 (by decide) (by decide), h.1 15 (by decide) (by decide)⟩
theorem FU.k {P : Nat} {v v' : mvW} (h : FU P v v') : KV v v' := h.2
theorem FR.k {P : Nat} {v v' : mvW} (h : FR P v v') : KV v v' := h.2
theorem KV.refl (v : mvW) : KV v v := fun _ _ => rfl
theorem KV.trans {a b c : mvW} (h : KV a b) (g : KV b c) : KV a c := fun k hk => (g k hk).trans (h k hk)
def RX (w v : mvW) : Prop := Hst w v ∧ Txt w v ∧ Snp w v
theorem RX.keep {w v w' v' : mvW} (h : RX w v) (hw : KW w w') (hv : KV v v') : RX w' v' := by
  obtain ⟨h1, h2, h3⟩ := h
  obtain ⟨k0, k9, k10, k11, k12, k15⟩ := hw
  have v0 := hv 0 (by decide)
  have v3 := hv 3 (by decide)
  have v4 := hv 4 (by decide)
  have v5 := hv 5 (by decide)
  refine ⟨?_, ?_, ?_⟩
  · unfold Hst; rw [k9, k10, v0, v3]; exact h1
  · unfold Txt; rw [k11, k12, v0, v5]; exact h2
  · unfold Snp; rw [k0, k15, v0, v4]; exact h3
def Rel (w v : mvW) : Prop := ∃ σ, CI w σ ∧ RW v 0 σ ∧ RX w v
theorem px_cq {a b c n0 n1 : Nat} (h0 : a + c ≤ n0) (h1 : b + c ≤ n1) (hn0 : n0 < 2 ^ 30) (hn1 : n1 < 2 ^ 30) : mv_cq (nI a) (nI b) (nI c) n0 n1 = some (a, b, c) := by
  unfold mv_cq
  rw [nI_toInt (by omega), nI_toInt (by omega), nI_toInt (by omega), if_pos (by omega), nI_clamp (by omega), nI_clamp (by omega), nI_clamp (by omega)]
theorem cp_self (w : mvW) (k0 k1 sp dp n j : Nat) : mv_cp w k0 k1 sp dp n k1 j = va_cpy (w k0) (w k1) sp dp n j := by
  unfold mv_cp; rw [if_pos rfl]
theorem cp_ne (w : mvW) (k0 k1 sp dp n : Nat) {c : Nat} (h : c ≠ k1) : mv_cp w k0 k1 sp dp n c = w c := by
  unfold mv_cp; rw [if_neg h]
theorem up_ne (w : mvW) (k i : Nat) (x : Int32) {c : Nat} (h : c ≠ k) : mv_up w k i x c = w c := by
  unfold mv_up; rw [if_neg h]
theorem C_push42 {w : mvW} {k : Nat} (hk : k ≤ 3) (h9 : w 9 1 = nI k) : ∃ w', f_X0_push_14_42 w = some w' ∧ w' 9 1 = nI (k + 1) ∧ (∀ j, j < 44 → w' 10 (44 * k + j) = w 14 j) ∧ (∀ i, i < 44 * k → w' 10 i = w 10 i) ∧ ∀ c, c ≠ 9 → c ≠ 10 → w' c = w c := by
  unfold f_X0_push_14_42
  rw [h9, show nI k * 44 = nI (k * 44) from pk_mul k 44, show mv_cq 0 (nI (k * 44)) 44 44 176 = some (0, k * 44, 44) from px_cq (a := 0) (b := k * 44) (c := 44) (by omega) (by omega) (by omega) (by omega), Option.bind_some]
  dsimp only
  refine ⟨_, rfl, ?_, fun j hj => ?_, fun i hi => ?_, fun c h1 h2 => ?_⟩
  · rw [rds, if_pos rfl, cp_ne _ _ _ _ _ _ (by decide), h9, nI_1]
  · rw [rdn _ 9 1 _ 10 _ (by decide), cp_self, pk_cpy_in (by omega) (by omega)]
    exact congrArg (w 14) (by omega)
  · rw [rdn _ 9 1 _ 10 _ (by decide), cp_self, pk_cpy_out (Or.inl (by omega))]
  · rw [up_ne _ _ _ _ h1, cp_ne _ _ _ _ _ _ h2]
theorem C_push {w : mvW} {k : Nat} (hk : k ≤ 4) (h9 : w 9 1 = nI k) : ∃ w', f_X0_push_14 w = some w' ∧ (∀ c, c ≠ 9 → c ≠ 10 → w' c = w c) ∧
    ((k ≤ 3 ∧ w' 9 1 = nI (k + 1) ∧ (∀ j, j < 44 → w' 10 (44 * k + j) = w 14 j) ∧ ∀ i, i < 44 * k → w' 10 i = w 10 i) ∨ (k = 4 ∧ w' 9 1 = nI 4 ∧ (∀ j, j < 44 → w' 10 (132 + j) = w 14 j) ∧ ∀ i, i < 132 → w' 10 i = w 10 (44 + i))) := by
  unfold f_X0_push_14
  rw [if_pos (by decide)]
  by_cases h : k ≤ 3
  · obtain ⟨w', a1, a2, a3, a4, a5⟩ := C_push42 h h9
    refine ⟨w', ?_, a5, Or.inl ⟨h, a2, a3, a4⟩⟩
    rw [if_pos (show w 9 1 < 4 by rw [h9]; exact q_lt (L := 4) (b := 4) rfl (by omega) (by omega)), a1]
  · have h4 : k = 4 := by omega
    subst h4
    rw [if_neg (show ¬ w 9 1 < 4 by rw [h9]; decide), show mv_cq 44 0 132 176 176 = some (44, 0, 132) from px_cq (a := 44) (b := 0) (c := 132) (by omega) (by omega) (by omega) (by omega), Option.bind_some]
    dsimp only
    obtain ⟨w', a1, a2, a3, a4, a5⟩ := C_push42 (w := mv_up (mv_cp w 10 10 44 0 132) 9 1 3) (k := 3) (by omega) (by rw [rds, if_pos rfl]; rfl)
    refine ⟨w', a1, fun c h1 h2 => ?_, Or.inr ⟨rfl, a2, fun j hj => ?_, fun i hi => ?_⟩⟩
    · rw [a5 c h1 h2, up_ne _ _ _ _ h1, cp_ne _ _ _ _ _ _ h2]
    · have := a3 j hj
      rw [show 44 * 3 = 132 from rfl] at this
      rw [this, up_ne _ _ _ _ (by decide), cp_ne _ _ _ _ _ _ (by decide)]
    · rw [a4 i (by omega), up_ne _ _ _ _ (by decide), cp_self, pk_cpy_in (by omega) (by omega)]
      exact congrArg (w 10) (by omega)
theorem C_copyTo14 (w : mvW) : ∃ w', f_X2_copyTo_14 0 w = some w' ∧ (∀ j, j < 44 → w' 14 j = w 2 j) ∧ ∀ c, c ≠ 14 → w' c = w c := by
  unfold f_X2_copyTo_14
  rw [if_neg (by decide), if_neg (by decide), show mv_cq 0 0 44 44 44 = some (0, 0, 44) from px_cq (a := 0) (b := 0) (c := 44) (by omega) (by omega) (by omega) (by omega), Option.bind_some]
  dsimp only
  refine ⟨_, rfl, fun j hj => ?_, fun c h => cp_ne _ _ _ _ _ _ h⟩
  rw [cp_self, pk_cpy_in (by omega) (by omega)]
  exact congrArg (w 2) (by omega)
theorem M_rem49 {v0 : mvW} {k : Nat} (hk : k ≤ 3) : ∀ (j m N : Nat) (u : mvW), m + j = 40 → j + 1 ≤ N → u 0 3 = nI k → (∀ i, i < m → u 3 (40 * k + i) = v0 1 i) → (∀ i, i < 40 * k → u 3 i = v0 3 i) → (∀ c, c ≠ 3 → c ≠ 0 → u c = v0 c) → (∀ i, i ≠ 3 → u 0 i = v0 0 i) → ∃ v', f_X5_remembers_49 N (nI m) u = some v' ∧ v' 0 3 = nI (k + 1) ∧ (∀ i, i < 40 → v' 3 (40 * k + i) = v0 1 i) ∧ (∀ i, i < 40 * k → v' 3 i = v0 3 i) ∧ (∀ c, c ≠ 3 → c ≠ 0 → v' c = v0 c) ∧ (∀ i, i ≠ 3 → v' 0 i = v0 0 i) := by
  intro j
  induction j with
  | zero =>
    intro m N u hm hN h0 h1 h2 h3 h4
    obtain ⟨n, rfl⟩ : ∃ n, N = n + 1 := ⟨N - 1, by omega⟩
    have : m = 40 := by omega
    subst this
    refine ⟨_, by rw [f_X5_remembers_49, if_pos (by decide)], ?_, fun i hi => ?_, fun i hi => ?_, fun c hc hc0 => ?_, fun i hi => ?_⟩
    · rw [rds, if_pos rfl, h0, nI_1]
    · rw [up_ne _ _ _ _ (by decide)]; exact h1 i hi
    · rw [up_ne _ _ _ _ (by decide)]; exact h2 i hi
    · rw [up_ne _ _ _ _ hc0]; exact h3 c hc hc0
    · rw [rds, if_neg hi]; exact h4 i hi
  | succ j ih =>
    intro m N u hm hN h0 h1 h2 h3 h4
    obtain ⟨n, rfl⟩ : ∃ n, N = n + 1 := ⟨N - 1, by omega⟩
    rw [f_X5_remembers_49, if_neg (q_nle (L := 40) (b := 40) rfl (by omega) (by omega)), px_160 (by omega), Option.bind_some, h0, show (40 : Int32) * nI k = nI (40 * k) from pk_mul 40 k, nI_add, px_160 (by omega), Option.bind_some, nI_1]
    refine ih (m + 1) n _ (by omega) (by omega) ?_ (fun i hi => ?_) (fun i hi => ?_) (fun c hc hc0 => ?_) (fun i hi => ?_)
    · rw [up_ne _ _ _ _ (by decide)]; exact h0
    · rw [rds]
      by_cases e : i = m
      · subst e; rw [if_pos rfl, h3 1 (by decide) (by decide)]
      · rw [if_neg (by omega)]; exact h1 i (by omega)
    · rw [rds, if_neg (by omega)]; exact h2 i hi
    · rw [up_ne _ _ _ _ hc]; exact h3 c hc hc0
    · rw [up_ne _ _ _ _ (by decide)]; exact h4 i hi
theorem M_rem10 (k49 : Int32 → mvW → Option mvW) {v0 : mvW} (h0 : v0 0 3 = nI 4) : ∀ (j m N : Nat) (u : mvW), m + j = 120 → j + 1 ≤ N → (∀ i, i < m → u 3 i = v0 3 (40 + i)) → (∀ i, m ≤ i → u 3 i = v0 3 i) → (∀ c, c ≠ 3 → u c = v0 c) → ∃ v', f_X5_remembers_10 k49 N (nI m) u = k49 0 v' ∧ v' 0 3 = nI 3 ∧ (∀ i, i < 120 → v' 3 i = v0 3 (40 + i)) ∧ (∀ c, c ≠ 3 → c ≠ 0 → v' c = v0 c) ∧ (∀ i, i ≠ 3 → v' 0 i = v0 0 i) := by
  intro j
  induction j with
  | zero =>
    intro m N u hm hN h1 h2 h3
    obtain ⟨n, rfl⟩ : ∃ n, N = n + 1 := ⟨N - 1, by omega⟩
    have : m = 120 := by omega
    subst this
    refine ⟨_, by rw [f_X5_remembers_10, if_pos (by decide)], ?_, fun i hi => ?_, fun c hc hc0 => ?_, fun i hi => ?_⟩
    · rw [rds, if_pos rfl, h3 0 (by decide), h0]; rfl
    · rw [up_ne _ _ _ _ (by decide)]; exact h1 i hi
    · rw [up_ne _ _ _ _ hc0]; exact h3 c hc
    · rw [rds, if_neg hi, h3 0 (by decide)]
  | succ j ih =>
    intro m N u hm hN h1 h2 h3
    obtain ⟨n, rfl⟩ : ∃ n, N = n + 1 := ⟨N - 1, by omega⟩
    rw [f_X5_remembers_10, if_neg (q_nle (L := 120) (b := 120) rfl (by omega) (by omega)), show (40 : Int32) + nI m = nI (40 + m) from nI_add 40 m, px_160 (by omega), Option.bind_some, px_160 (by omega), Option.bind_some, nI_1]
    refine ih (m + 1) n _ (by omega) (by omega) (fun i hi => ?_) (fun i hi => ?_) (fun c hc => ?_)
    · rw [rds]
      by_cases e : i = m
      · subst e; rw [if_pos rfl, h2 _ (by omega)]
      · rw [if_neg e]; exact h1 i (by omega)
    · rw [rds, if_neg (by omega)]; exact h2 i (by omega)
    · rw [up_ne _ _ _ _ hc]; exact h3 c hc
theorem M_remembers {v : mvW} {k : Nat} (hk : k ≤ 4) (h0 : v 0 3 = nI k) : ∃ v', f_X5_remembers v = some v' ∧ (∀ c, c ≠ 3 → c ≠ 0 → v' c = v c) ∧ (∀ i, i ≠ 3 → v' 0 i = v 0 i) ∧
    ((k ≤ 3 ∧ v' 0 3 = nI (k + 1) ∧ (∀ i, i < 40 → v' 3 (40 * k + i) = v 1 i) ∧ ∀ i, i < 40 * k → v' 3 i = v 3 i) ∨ (k = 4 ∧ v' 0 3 = nI 4 ∧ (∀ i, i < 40 → v' 3 (120 + i) = v 1 i) ∧ ∀ i, i < 120 → v' 3 i = v 3 (40 + i))) := by
  unfold f_X5_remembers
  by_cases h : k ≤ 3
  · rw [if_pos (show ¬ v 0 3 = 4 by rw [h0]; exact q_ne (L := 4) (b := 4) rfl (by omega) (by omega) (by omega))]
    obtain ⟨v', a1, a2, a3, a4, a5, a6⟩ := M_rem49 (v0 := v) h 40 0 4096 v (by omega) (by omega) h0 (fun i hi => absurd hi (Nat.not_lt_zero i)) (fun _ _ => rfl) (fun _ _ _ => rfl) (fun _ _ => rfl)
    exact ⟨v', a1, a5, a6, Or.inl ⟨h, a2, a3, a4⟩⟩
  · have h4 : k = 4 := by omega
    subst h4
    rw [if_neg (show ¬ ¬ v 0 3 = 4 by rw [h0]; exact fun h => h rfl)]
    obtain ⟨u, b1, b2, b3, b4, b5⟩ := M_rem10 (fun x1' w' => f_X5_remembers_49 4096 x1' w') h0 120 0 4096 v (by omega) (by omega) (fun i hi => absurd hi (Nat.not_lt_zero i)) (fun _ _ => rfl) (fun _ _ => rfl)
    obtain ⟨v', a1, a2, a3, a4, a5, a6⟩ := M_rem49 (v0 := u) (k := 3) (by omega) 40 0 4096 u (by omega) (by omega) b2 (fun i hi => absurd hi (Nat.not_lt_zero i)) (fun _ _ => rfl) (fun _ _ _ => rfl) (fun _ _ => rfl)
    refine ⟨v', ?_, fun c hc hc0 => (a5 c hc hc0).trans (b4 c hc hc0), fun i hi => (a6 i hi).trans (b5 i hi), Or.inr ⟨rfl, a2, fun i hi => ?_, fun i hi => ?_⟩⟩
    · exact b1.trans a1
    · have := a3 i hi
      rw [show 40 * 3 = 120 from rfl] at this
      rw [this, b4 1 (by decide) (by decide)]
    · rw [a4 i (by omega)]; exact b3 i hi
/-- both sides remember -/
theorem Rec {w v : mvW} {σ : PS} (hC : CI w σ) (hR : RW v 0 σ) (hX : RX w v) : ∃ w' v', f_X4_recordChange w = some w' ∧ f_X5_remembers v = some v' ∧ CI w' σ ∧ RW v' 0 σ ∧ RX w' v' := by
  obtain ⟨⟨k, hs, hk, h9, h0, hh⟩, hT, hS⟩ := hX
  obtain ⟨w1, a1, a2, a3⟩ := C_copyTo14 w
  obtain ⟨w2, b1, b2, b3⟩ := C_push (w := w1) hk (by rw [a3 9 (by decide)]; exact h9)
  obtain ⟨v', c1, c2, c3, c4⟩ := M_remembers hk h0
  refine ⟨w2, v', ?_, c1, ?_, ?_, ?_, ?_, ?_⟩
  · unfold f_X4_recordChange
    rw [a1, Option.bind_some, b1, Option.bind_some]
  · have e2 : w2 2 = w 2 := (b2 2 (by decide) (by decide)).trans (a3 2 (by decide))
    have e3 : w2 3 = w 3 := (b2 3 (by decide) (by decide)).trans (a3 3 (by decide))
    obtain ⟨x1, x2, x3, x4⟩ := hC
    exact ⟨by rw [e2]; exact x1, fun q d hq hd => by rw [e3]; exact x2 q d hq hd, x3, x4⟩
  · rw [RW_RV] at hR ⊢
    rw [c2 1 (by decide) (by decide)]; exact hR
  · have e14 : ∀ j, j < 44 → w1 14 j = w 2 j := a2
    have cur : CA (w1 14) σ := hC.1.eq e14
    have curv : RV (v 1) σ := RW_RV.mp hR
    have w10 : w1 10 = w 10 := a3 10 (by decide)
    rcases b3 with ⟨k3, d1, d2, d3⟩ | ⟨k4, d1, d2, d3⟩
    · rcases c4 with ⟨_, g1, g2, g3⟩ | ⟨k4, _⟩
      · refine ⟨k + 1, fun i => if i = k then σ else hs i, by omega, d1, g1, fun i hi => ?_⟩
        dsimp only
        by_cases e : i = k
        · subst e
          rw [if_pos rfl]
          exact ⟨cur.eq d2, ⟨hC.2.2.1, hC.2.2.2⟩, curv.eq g2⟩
        · rw [if_neg e]
          obtain ⟨x1, x2, x3⟩ := hh i (by omega)
          exact ⟨x1.eq (fun j hj => by rw [d3 _ (by omega), w10]), x2, x3.eq (fun j hj => g3 _ (by omega))⟩
      · omega
    · rcases c4 with ⟨k3, _⟩ | ⟨_, g1, g2, g3⟩
      · omega
      · refine ⟨4, fun i => if i = 3 then σ else hs (i + 1), by omega, d1, g1, fun i hi => ?_⟩
        dsimp only
        by_cases e : i = 3
        · subst e
          rw [if_pos rfl]
          exact ⟨cur.eq d2, ⟨hC.2.2.1, hC.2.2.2⟩, curv.eq g2⟩
        · rw [if_neg e]
          obtain ⟨x1, x2, x3⟩ := hh (i + 1) (by omega)
          exact ⟨x1.eq (fun j hj => by rw [d3 _ (by omega), w10]; exact congrArg (w 10) (by omega)), x2, x3.eq (fun j hj => by rw [g3 _ (by omega)]; exact congrArg (v 3) (by omega))⟩
  · unfold Txt
    rw [b2 11 (by decide) (by decide), a3 11 (by decide), b2 12 (by decide) (by decide), a3 12 (by decide), c3 7 (by decide), c2 5 (by decide) (by decide)]
    exact hT
  · unfold Snp
    rw [b2 0 (by decide) (by decide), a3 0 (by decide), b2 15 (by decide) (by decide), a3 15 (by decide), c3 5 (by decide), c2 4 (by decide) (by decide)]
    exact hS
